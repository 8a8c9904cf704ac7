/-! THE LAW'S WALK: each pair of calls -/
section TWS
variable {X : GX} {u : Nat} {z : Nat} {kd : KD} {R : RF} {I : IG} {L : LG} {k n : Nat}
theorem tw_13 {i1 i2 : Int32} (hu : u < 512) (h : LSt u (z, kd, I, L, R) k n) : Two X (u + 1) 13 196 [.int i1, .int i2] (z, kd, I, L, R) k n := by
  obtain ⟨t, tr, TS, J, M, b4, b5, b6, b7, len, sl, CK, CM, h1, h2, h3, h4, h5, h6, h7⟩ := h
  try dsimp only at h2
  try dsimp only at h3
  try dsimp only at h4
  try dsimp only at h5
  have hS : Sh z kd R := h2.1.2.1
  exact two_A (gC := fun n => g_13 n 2000 (z, kd, R) 0 I L i1 i2) (kC := fun n => kf_13 n 2000 (z, kd, R) 0 J M i1.toInt i2.toInt) (gM := fun n I L => g_196 n 2000 (z, kd, R) 0 I L i1 i2) (kM := fun n J M => kf_196 n 2000 (z, kd, R) 0 J M i1.toInt i2.toInt) (fun n => ks_13 n 2000 _ 0 I J L M i1 _ i2 _ h3 h4 rfl rfl) (fun n I' J' L' M' p q => ks_196 n 2000 _ 0 I' J' L' M' i1 _ i2 _ p q rfl rfl) (fun n r I1 L1 h => a_13 X hS (Nat.le_refl _) h) (fun n I' L' r I1 L1 h => a_196 X hS (Nat.le_refl _) h) (ia_carcasses (c := i1.toInt) (m := i2.toInt) (by decide) (by omega) h2) (by omega) h5 h6 h7
theorem tw_20 {i1 i2 i3 : Int32} (hu : u < 512) (h : LSt u (z, kd, I, L, R) k n) : Two X (u + 1) 20 201 [.int i1, .int i2, .int i3] (z, kd, I, L, R) k n := by
  obtain ⟨t, tr, TS, J, M, b4, b5, b6, b7, len, sl, CK, CM, h1, h2, h3, h4, h5, h6, h7⟩ := h
  try dsimp only at h2
  try dsimp only at h3
  try dsimp only at h4
  try dsimp only at h5
  have hS : Sh z kd R := h2.1.2.1
  exact two_A (gC := fun n => g_20 n 2000 (z, kd, R) 0 I L i1 i2 i3) (kC := fun n => kf_20 n 2000 (z, kd, R) 0 J M i1.toInt i2.toInt i3.toInt) (gM := fun n I L => g_201 n 2000 (z, kd, R) 0 I L i1 i2 i3) (kM := fun n J M => kf_201 n 2000 (z, kd, R) 0 J M i1.toInt i2.toInt i3.toInt) (fun n => ks_20 n 2000 _ 0 I J L M i1 _ i2 _ i3 _ h3 h4 rfl rfl rfl) (fun n I' J' L' M' p q => ks_201 n 2000 _ 0 I' J' L' M' i1 _ i2 _ i3 _ p q rfl rfl rfl) (fun n r I1 L1 h => a_20 X hS (Nat.le_refl _) h) (fun n I' L' r I1 L1 h => a_201 X hS (Nat.le_refl _) h) (ia_weighs (p := i1.toInt) (c := i2.toInt) (w := i3.toInt) (by decide) (by omega) h2) (by omega) h5 h6 h7
theorem tw_23 {i1 i2 i3 : Int32} (hu : u < 512) (h : LSt u (z, kd, I, L, R) k n) : Two X (u + 1) 23 203 [.int i1, .int i2, .int i3] (z, kd, I, L, R) k n := by
  obtain ⟨t, tr, TS, J, M, b4, b5, b6, b7, len, sl, CK, CM, h1, h2, h3, h4, h5, h6, h7⟩ := h
  try dsimp only at h2
  try dsimp only at h3
  try dsimp only at h4
  try dsimp only at h5
  have hS : Sh z kd R := h2.1.2.1
  exact two_A (gC := fun n => g_23 n 2000 (z, kd, R) 0 I L i1 i2 i3 0 0) (kC := fun n => kf_23 n 2000 (z, kd, R) 0 J M i1.toInt i2.toInt i3.toInt 0 0) (gM := fun n I L => g_203 n 2000 (z, kd, R) 0 I L i1 i2 i3) (kM := fun n J M => kf_203 n 2000 (z, kd, R) 0 J M i1.toInt i2.toInt i3.toInt) (fun n => ks_23 n 2000 _ 0 I J L M i1 _ i2 _ i3 _ 0 _ 0 _ h3 h4 rfl rfl rfl rfl rfl) (fun n I' J' L' M' p q => ks_203 n 2000 _ 0 I' J' L' M' i1 _ i2 _ i3 _ p q rfl rfl rfl) (fun n r I1 L1 h => a_23 X hS (Nat.le_refl _) h) (fun n I' L' r I1 L1 h => a_203 X hS (Nat.le_refl _) h) (ia_put (p := i1.toInt) (w := i2.toInt) (v := i3.toInt) (by decide) (by omega) h2) (by omega) h5 h6 h7
theorem tw_26 {i1 : Int32} (hu : u < 512) (h : LSt u (z, kd, I, L, R) k n) : Two X (u + 1) 26 205 [.int i1] (z, kd, I, L, R) k n := by
  obtain ⟨t, tr, TS, J, M, b4, b5, b6, b7, len, sl, CK, CM, h1, h2, h3, h4, h5, h6, h7⟩ := h
  try dsimp only at h2
  try dsimp only at h3
  try dsimp only at h4
  try dsimp only at h5
  have hS : Sh z kd R := h2.1.2.1
  exact two_A (gC := fun n => g_26 n 2000 (z, kd, R) 0 I L i1) (kC := fun n => kf_26 n 2000 (z, kd, R) 0 J M i1.toInt) (gM := fun n I L => g_205 n 2000 (z, kd, R) 0 I L i1) (kM := fun n J M => kf_205 n 2000 (z, kd, R) 0 J M i1.toInt) (fun n => ks_26 n 2000 _ 0 I J L M i1 _ h3 h4 rfl) (fun n I' J' L' M' p q => ks_205 n 2000 _ 0 I' J' L' M' i1 _ p q rfl) (fun n r I1 L1 h => a_26 X hS (Nat.le_refl _) h) (fun n I' L' r I1 L1 h => a_205 X hS (Nat.le_refl _) h) (ia_man (s := i1.toInt) (by decide) (by omega) h2) (by omega) h5 h6 h7
theorem tw_27 {i1 i2 : Int32} (hu : u < 512) (h : LSt u (z, kd, I, L, R) k n) : Two X (u + 1) 27 206 [.int i1, .int i2] (z, kd, I, L, R) k n := by
  obtain ⟨t, tr, TS, J, M, b4, b5, b6, b7, len, sl, CK, CM, h1, h2, h3, h4, h5, h6, h7⟩ := h
  try dsimp only at h2
  try dsimp only at h3
  try dsimp only at h4
  try dsimp only at h5
  have hS : Sh z kd R := h2.1.2.1
  exact two_A (gC := fun n => g_27 n 2000 (z, kd, R) 0 I L i1 i2) (kC := fun n => kf_27 n 2000 (z, kd, R) 0 J M i1.toInt i2.toInt) (gM := fun n I L => g_206 n 2000 (z, kd, R) 0 I L i1 i2) (kM := fun n J M => kf_206 n 2000 (z, kd, R) 0 J M i1.toInt i2.toInt) (fun n => ks_27 n 2000 _ 0 I J L M i1 _ i2 _ h3 h4 rfl rfl) (fun n I' J' L' M' p q => ks_206 n 2000 _ 0 I' J' L' M' i1 _ i2 _ p q rfl rfl) (fun n r I1 L1 h => a_27 X hS (Nat.le_refl _) h) (fun n I' L' r I1 L1 h => a_206 X hS (Nat.le_refl _) h) (ia_skills (m := i1.toInt) (s := i2.toInt) (by decide) (by omega) h2) (by omega) h5 h6 h7
theorem tw_28 {i1 i2 : Int32} (hu : u < 512) (h : LSt u (z, kd, I, L, R) k n) : Two X (u + 1) 28 207 [.int i1, .int i2] (z, kd, I, L, R) k n := by
  obtain ⟨t, tr, TS, J, M, b4, b5, b6, b7, len, sl, CK, CM, h1, h2, h3, h4, h5, h6, h7⟩ := h
  try dsimp only at h2
  try dsimp only at h3
  try dsimp only at h4
  try dsimp only at h5
  have hS : Sh z kd R := h2.1.2.1
  exact two_A (gC := fun n => g_28 n 2000 (z, kd, R) 0 I L i1 i2) (kC := fun n => kf_28 n 2000 (z, kd, R) 0 J M i1.toInt i2.toInt) (gM := fun n I L => g_207 n 2000 (z, kd, R) 0 I L i1 i2) (kM := fun n J M => kf_207 n 2000 (z, kd, R) 0 J M i1.toInt i2.toInt) (fun n => ks_28 n 2000 _ 0 I J L M i1 _ i2 _ h3 h4 rfl rfl) (fun n I' J' L' M' p q => ks_207 n 2000 _ 0 I' J' L' M' i1 _ i2 _ p q rfl rfl) (fun n r I1 L1 h => a_28 X hS (Nat.le_refl _) h) (fun n I' L' r I1 L1 h => a_207 X hS (Nat.le_refl _) h) (ia_terms (w := i1.toInt) (v := i2.toInt) (by decide) (by omega) h2) (by omega) h5 h6 h7
theorem tw_29 {i1 i2 i3 i4 i5 : Int32} (hu : u < 512) (h : LSt u (z, kd, I, L, R) k n) : Two X (u + 1) 29 208 [.int i1, .int i2, .int i3, .int i4, .int i5] (z, kd, I, L, R) k n := by
  obtain ⟨t, tr, TS, J, M, b4, b5, b6, b7, len, sl, CK, CM, h1, h2, h3, h4, h5, h6, h7⟩ := h
  try dsimp only at h2
  try dsimp only at h3
  try dsimp only at h4
  try dsimp only at h5
  have hS : Sh z kd R := h2.1.2.1
  exact two_A (gC := fun n => g_29 n 2000 (z, kd, R) 0 I L i1 i2 i3 i4 i5) (kC := fun n => kf_29 n 2000 (z, kd, R) 0 J M i1.toInt i2.toInt i3.toInt i4.toInt i5.toInt) (gM := fun n I L => g_208 n 2000 (z, kd, R) 0 I L i1 i2 i3 i4 i5) (kM := fun n J M => kf_208 n 2000 (z, kd, R) 0 J M i1.toInt i2.toInt i3.toInt i4.toInt i5.toInt) (fun n => ks_29 n 2000 _ 0 I J L M i1 _ i2 _ i3 _ i4 _ i5 _ h3 h4 rfl rfl rfl rfl rfl) (fun n I' J' L' M' p q => ks_208 n 2000 _ 0 I' J' L' M' i1 _ i2 _ i3 _ i4 _ i5 _ p q rfl rfl rfl rfl rfl) (fun n r I1 L1 h => a_29 X hS (Nat.le_refl _) h) (fun n I' L' r I1 L1 h => a_208 X hS (Nat.le_refl _) h) (ia_feed (a := i1.toInt) (b := i2.toInt) (c := i3.toInt) (d := i4.toInt) (f := i5.toInt) (by decide) (by omega) h2) (by omega) h5 h6 h7
theorem tw_31 {i1 : Int32} (hu : u < 512) (h : LSt u (z, kd, I, L, R) k n) : Two X (u + 1) 31 210 [.int i1] (z, kd, I, L, R) k n := by
  obtain ⟨t, tr, TS, J, M, b4, b5, b6, b7, len, sl, CK, CM, h1, h2, h3, h4, h5, h6, h7⟩ := h
  try dsimp only at h2
  try dsimp only at h3
  try dsimp only at h4
  try dsimp only at h5
  have hS : Sh z kd R := h2.1.2.1
  exact two_A (gC := fun n => g_31 n 2000 (z, kd, R) 0 I L i1) (kC := fun n => kf_31 n 2000 (z, kd, R) 0 J M i1.toInt) (gM := fun n I L => g_210 n 2000 (z, kd, R) 0 I L i1) (kM := fun n J M => kf_210 n 2000 (z, kd, R) 0 J M i1.toInt) (fun n => ks_31 n 2000 _ 0 I J L M i1 _ h3 h4 rfl) (fun n I' J' L' M' p q => ks_210 n 2000 _ 0 I' J' L' M' i1 _ p q rfl) (fun n r I1 L1 h => a_31 X hS (Nat.le_refl _) h) (fun n I' L' r I1 L1 h => a_210 X hS (Nat.le_refl _) h) (ia_end (m := i1.toInt) (by decide) (by omega) h2) (by omega) h5 h6 h7
theorem tw_32 (hu : u < 512) (h : LSt u (z, kd, I, L, R) k n) : Two X (u + 1) 32 212 [] (z, kd, I, L, R) k n := by
  obtain ⟨t, tr, TS, J, M, b4, b5, b6, b7, len, sl, CK, CM, h1, h2, h3, h4, h5, h6, h7⟩ := h
  try dsimp only at h2
  try dsimp only at h3
  try dsimp only at h4
  try dsimp only at h5
  have hS : Sh z kd R := h2.1.2.1
  exact two_P (gC := fun n => g_32 n 2000 0 z kd I L R) (kC := fun n => kf_32 n 2000 0 z kd J M R) (gM := fun n e I L => g_212 n 2000 e 0 I L 0) (kM := fun n e J M => kf_212 n 2000 e 0 J M 0) (fun n => ks_32 n 2000 0 z kd I J L M R h3 h4) (fun n e I' J' L' M' p q => ks_212 n 2000 e 0 I' J' L' M' 0 _ p q rfl) (fun n r z1 kd1 I1 L1 R1 k1 m1 h => a_32 X hS (Nat.le_refl _) h) (fun n z' kd' R' I' L' r I1 L1 hS h => a_212 X hS (Nat.le_refl _) h) (ia_tree (by decide) (by omega) h2) hS (by omega) h5 h6 h7
theorem tw_67 (hu : u < 512) (h : LSt u (z, kd, I, L, R) k n) : Two X (u + 1) 67 211 [] (z, kd, I, L, R) k n := by
  obtain ⟨t, tr, TS, J, M, b4, b5, b6, b7, len, sl, CK, CM, h1, h2, h3, h4, h5, h6, h7⟩ := h
  try dsimp only at h2
  try dsimp only at h3
  try dsimp only at h4
  try dsimp only at h5
  have hS : Sh z kd R := h2.1.2.1
  exact two_A (gC := fun n => g_67 n 2000 (z, kd, R) 0 I L) (kC := fun n => kf_67 n 2000 (z, kd, R) 0 J M) (gM := fun n I L => g_211 n 2000 (z, kd, R) 0 I L) (kM := fun n J M => kf_211 n 2000 (z, kd, R) 0 J M) (fun n => ks_67 n 2000 _ 0 I J L M h3 h4) (fun n I' J' L' M' p q => ks_211 n 2000 _ 0 I' J' L' M' p q) (fun n r I1 L1 h => a_67 X hS (Nat.le_refl _) h) (fun n I' L' r I1 L1 h => a_211 X hS (Nat.le_refl _) h) (ia_fault (by decide) (by omega) h2) (by omega) h5 h6 h7
theorem tw_68 {i1 i2 : Int32} (hu : u < 512) (h : LSt u (z, kd, I, L, R) k n) : Two X (u + 1) 68 238 [.int i1, .int i2] (z, kd, I, L, R) k n := by
  obtain ⟨t, tr, TS, J, M, b4, b5, b6, b7, len, sl, CK, CM, h1, h2, h3, h4, h5, h6, h7⟩ := h
  try dsimp only at h2
  try dsimp only at h3
  try dsimp only at h4
  try dsimp only at h5
  have hS : Sh z kd R := h2.1.2.1
  exact two_A (gC := fun n => g_68 n 2000 (z, kd, R) 0 I L i1 i2) (kC := fun n => kf_68 n 2000 (z, kd, R) 0 J M i1.toInt i2.toInt) (gM := fun n I L => g_238 n 2000 (z, kd, R) 0 I L i1 i2) (kM := fun n J M => kf_238 n 2000 (z, kd, R) 0 J M i1.toInt i2.toInt) (fun n => ks_68 n 2000 _ 0 I J L M i1 _ i2 _ h3 h4 rfl rfl) (fun n I' J' L' M' p q => ks_238 n 2000 _ 0 I' J' L' M' i1 _ i2 _ p q rfl rfl) (fun n r I1 L1 h => a_68 X hS (Nat.le_refl _) h) (fun n I' L' r I1 L1 h => a_238 X hS (Nat.le_refl _) h) (ia_way (w := i1.toInt) (x := i2.toInt) (by decide) (by omega) h2) (by omega) h5 h6 h7
theorem tw_69 {i1 i2 i3 : Int32} (hu : u < 512) (h : LSt u (z, kd, I, L, R) k n) : Two X (u + 1) 69 242 [.int i1, .int i2, .int i3] (z, kd, I, L, R) k n := by
  obtain ⟨t, tr, TS, J, M, b4, b5, b6, b7, len, sl, CK, CM, h1, h2, h3, h4, h5, h6, h7⟩ := h
  try dsimp only at h2
  try dsimp only at h3
  try dsimp only at h4
  try dsimp only at h5
  have hS : Sh z kd R := h2.1.2.1
  exact two_A (gC := fun n => g_69 n 2000 (z, kd, R) 0 I L i1 i2 i3) (kC := fun n => kf_69 n 2000 (z, kd, R) 0 J M i1.toInt i2.toInt i3.toInt) (gM := fun n I L => g_242 n 2000 (z, kd, R) 0 I L i1 i2 i3 0) (kM := fun n J M => kf_242 n 2000 (z, kd, R) 0 J M i1.toInt i2.toInt i3.toInt 0) (fun n => ks_69 n 2000 _ 0 I J L M i1 _ i2 _ i3 _ h3 h4 rfl rfl rfl) (fun n I' J' L' M' p q => ks_242 n 2000 _ 0 I' J' L' M' i1 _ i2 _ i3 _ 0 _ p q rfl rfl rfl rfl) (fun n r I1 L1 h => a_69 X hS (Nat.le_refl _) h) (fun n I' L' r I1 L1 h => a_242 X hS (Nat.le_refl _) h) (ia_goes (w := i1.toInt) (c := i2.toInt) (x := i3.toInt) (by decide) (by omega) h2) (by omega) h5 h6 h7
theorem tw_80 {i1 : Int32} (hu : u < 512) (h : LSt u (z, kd, I, L, R) k n) : Two X (u + 1) 80 252 [.int i1] (z, kd, I, L, R) k n := by
  obtain ⟨t, tr, TS, J, M, b4, b5, b6, b7, len, sl, CK, CM, h1, h2, h3, h4, h5, h6, h7⟩ := h
  try dsimp only at h2
  try dsimp only at h3
  try dsimp only at h4
  try dsimp only at h5
  have hS : Sh z kd R := h2.1.2.1
  exact two_A (gC := fun n => g_80 n 2000 (z, kd, R) 0 I L i1) (kC := fun n => kf_80 n 2000 (z, kd, R) 0 J M i1.toInt) (gM := fun n I L => g_252 n 2000 (z, kd, R) 0 I L i1) (kM := fun n J M => kf_252 n 2000 (z, kd, R) 0 J M i1.toInt) (fun n => ks_80 n 2000 _ 0 I J L M i1 _ h3 h4 rfl) (fun n I' J' L' M' p q => ks_252 n 2000 _ 0 I' J' L' M' i1 _ p q rfl) (fun n r I1 L1 h => a_80 X hS (Nat.le_refl _) h) (fun n I' L' r I1 L1 h => a_252 X hS (Nat.le_refl _) h) (ia_cuttings (c := i1.toInt) (by decide) (by omega) h2) (by omega) h5 h6 h7
theorem tw_87 {i1 i2 i3 : Int32} (hu : u < 512) (h : LSt u (z, kd, I, L, R) k n) : Two X (u + 1) 87 257 [.int i1, .int i2, .int i3] (z, kd, I, L, R) k n := by
  obtain ⟨t, tr, TS, J, M, b4, b5, b6, b7, len, sl, CK, CM, h1, h2, h3, h4, h5, h6, h7⟩ := h
  try dsimp only at h2
  try dsimp only at h3
  try dsimp only at h4
  try dsimp only at h5
  have hS : Sh z kd R := h2.1.2.1
  exact two_A (gC := fun n => g_87 n 2000 (z, kd, R) 0 I L i1 i2 i3) (kC := fun n => kf_87 n 2000 (z, kd, R) 0 J M i1.toInt i2.toInt i3.toInt) (gM := fun n I L => g_257 n 2000 (z, kd, R) 0 I L i1 i2 i3) (kM := fun n J M => kf_257 n 2000 (z, kd, R) 0 J M i1.toInt i2.toInt i3.toInt) (fun n => ks_87 n 2000 _ 0 I J L M i1 _ i2 _ i3 _ h3 h4 rfl rfl rfl) (fun n I' J' L' M' p q => ks_257 n 2000 _ 0 I' J' L' M' i1 _ i2 _ i3 _ p q rfl rfl rfl) (fun n r I1 L1 h => a_87 X hS (Nat.le_refl _) h) (fun n I' L' r I1 L1 h => a_257 X hS (Nat.le_refl _) h) (ia_choice (c := i1.toInt) (i := i2.toInt) (p := i3.toInt) (by decide) (by omega) h2) (by omega) h5 h6 h7
theorem tw_89 {i1 i2 i3 : Int32} (hu : u < 512) (h : LSt u (z, kd, I, L, R) k n) : Two X (u + 1) 89 259 [.int i1, .int i2, .int i3] (z, kd, I, L, R) k n := by
  obtain ⟨t, tr, TS, J, M, b4, b5, b6, b7, len, sl, CK, CM, h1, h2, h3, h4, h5, h6, h7⟩ := h
  try dsimp only at h2
  try dsimp only at h3
  try dsimp only at h4
  try dsimp only at h5
  have hS : Sh z kd R := h2.1.2.1
  exact two_A (gC := fun n => g_89 n 2000 (z, kd, R) 0 I L i1 i2 i3) (kC := fun n => kf_89 n 2000 (z, kd, R) 0 J M i1.toInt i2.toInt i3.toInt) (gM := fun n I L => g_259 n 2000 (z, kd, R) 0 I L i1 i2 i3) (kM := fun n J M => kf_259 n 2000 (z, kd, R) 0 J M i1.toInt i2.toInt i3.toInt) (fun n => ks_89 n 2000 _ 0 I J L M i1 _ i2 _ i3 _ h3 h4 rfl rfl rfl) (fun n I' J' L' M' p q => ks_259 n 2000 _ 0 I' J' L' M' i1 _ i2 _ i3 _ p q rfl rfl rfl) (fun n r I1 L1 h => a_89 X hS (Nat.le_refl _) h) (fun n I' L' r I1 L1 h => a_259 X hS (Nat.le_refl _) h) (ia_left (c := i1.toInt) (i := i2.toInt) (p := i3.toInt) (by decide) (by omega) h2) (by omega) h5 h6 h7
theorem tw_90 {i1 : Int32} (hu : u < 512) (h : LSt u (z, kd, I, L, R) k n) : Two X (u + 1) 90 260 [.int i1] (z, kd, I, L, R) k n := by
  obtain ⟨t, tr, TS, J, M, b4, b5, b6, b7, len, sl, CK, CM, h1, h2, h3, h4, h5, h6, h7⟩ := h
  try dsimp only at h2
  try dsimp only at h3
  try dsimp only at h4
  try dsimp only at h5
  have hS : Sh z kd R := h2.1.2.1
  exact two_P (gC := fun n => g_90 n 2000 0 z kd I L R i1) (kC := fun n => kf_90 n 2000 0 z kd J M R i1.toInt) (gM := fun n e I L => g_260 n 2000 e 0 I L i1) (kM := fun n e J M => kf_260 n 2000 e 0 J M i1.toInt) (fun n => ks_90 n 2000 0 z kd I J L M R i1 _ h3 h4 rfl) (fun n e I' J' L' M' p q => ks_260 n 2000 e 0 I' J' L' M' i1 _ p q rfl) (fun n r z1 kd1 I1 L1 R1 k1 m1 h => a_90 X hS (Nat.le_refl _) h) (fun n z' kd' R' I' L' r I1 L1 hS h => a_260 X hS (Nat.le_refl _) h) (ia_best (x := i1.toInt) (by decide) (by omega) h2) hS (by omega) h5 h6 h7
theorem tw_119 {i1 : Int32} (hu : u < 512) (h : LSt u (z, kd, I, L, R) k n) : Two X (u + 1) 119 270 [.int i1] (z, kd, I, L, R) k n := by
  obtain ⟨t, tr, TS, J, M, b4, b5, b6, b7, len, sl, CK, CM, h1, h2, h3, h4, h5, h6, h7⟩ := h
  try dsimp only at h2
  try dsimp only at h3
  try dsimp only at h4
  try dsimp only at h5
  have hS : Sh z kd R := h2.1.2.1
  exact two_P (gC := fun n => g_119 n 2000 0 z kd I L R i1) (kC := fun n => kf_119 n 2000 0 z kd J M R i1.toInt) (gM := fun n e I L => g_270 n 2000 e 0 I L i1) (kM := fun n e J M => kf_270 n 2000 e 0 J M i1.toInt) (fun n => ks_119 n 2000 0 z kd I J L M R i1 _ h3 h4 rfl) (fun n e I' J' L' M' p q => ks_270 n 2000 e 0 I' J' L' M' i1 _ p q rfl) (fun n r z1 kd1 I1 L1 R1 k1 m1 h => a_119 X hS (Nat.le_refl _) h) (fun n z' kd' R' I' L' r I1 L1 hS h => a_270 X hS (Nat.le_refl _) h) (ia_plan (x := i1.toInt) (by decide) (by omega) h2) hS (by omega) h5 h6 h7
theorem tw_124 {i1 i2 : Int32} (hu : u < 512) (h : LSt u (z, kd, I, L, R) k n) : Two X (u + 1) 124 271 [.int i1, .int i2] (z, kd, I, L, R) k n := by
  obtain ⟨t, tr, TS, J, M, b4, b5, b6, b7, len, sl, CK, CM, h1, h2, h3, h4, h5, h6, h7⟩ := h
  try dsimp only at h2
  try dsimp only at h3
  try dsimp only at h4
  try dsimp only at h5
  have hS : Sh z kd R := h2.1.2.1
  exact two_P (gC := fun n => g_124 n 2000 0 z kd I L R i1 i2) (kC := fun n => kf_124 n 2000 0 z kd J M R i1.toInt i2.toInt) (gM := fun n e I L => g_271 n 2000 e 0 I L i1 i2) (kM := fun n e J M => kf_271 n 2000 e 0 J M i1.toInt i2.toInt) (fun n => ks_124 n 2000 0 z kd I J L M R i1 _ i2 _ h3 h4 rfl rfl) (fun n e I' J' L' M' p q => ks_271 n 2000 e 0 I' J' L' M' i1 _ i2 _ p q rfl rfl) (fun n r z1 kd1 I1 L1 R1 k1 m1 h => a_124 X hS (Nat.le_refl _) h) (fun n z' kd' R' I' L' r I1 L1 hS h => a_271 X hS (Nat.le_refl _) h) (ia_made (x := i1.toInt) (y := i2.toInt) (by decide) (by omega) h2) hS (by omega) h5 h6 h7
theorem tw_127 {i1 : Int32} (hu : u < 512) (h : LSt u (z, kd, I, L, R) k n) : Two X (u + 1) 127 273 [.int i1] (z, kd, I, L, R) k n := by
  obtain ⟨t, tr, TS, J, M, b4, b5, b6, b7, len, sl, CK, CM, h1, h2, h3, h4, h5, h6, h7⟩ := h
  try dsimp only at h2
  try dsimp only at h3
  try dsimp only at h4
  try dsimp only at h5
  have hS : Sh z kd R := h2.1.2.1
  exact two_P (gC := fun n => g_127 n 2000 0 z kd I L R i1) (kC := fun n => kf_127 n 2000 0 z kd J M R i1.toInt) (gM := fun n e I L => g_273 n 2000 e 0 I L i1) (kM := fun n e J M => kf_273 n 2000 e 0 J M i1.toInt) (fun n => ks_127 n 2000 0 z kd I J L M R i1 _ h3 h4 rfl) (fun n e I' J' L' M' p q => ks_273 n 2000 e 0 I' J' L' M' i1 _ p q rfl) (fun n r z1 kd1 I1 L1 R1 k1 m1 h => a_127 X hS (Nat.le_refl _) h) (fun n z' kd' R' I' L' r I1 L1 hS h => a_273 X hS (Nat.le_refl _) h) (ia_value (x := i1.toInt) (by decide) (by omega) h2) hS (by omega) h5 h6 h7
theorem tw_129 {i1 : Int32} (hu : u < 512) (h : LSt u (z, kd, I, L, R) k n) : Two X (u + 1) 129 275 [.int i1] (z, kd, I, L, R) k n := by
  obtain ⟨t, tr, TS, J, M, b4, b5, b6, b7, len, sl, CK, CM, h1, h2, h3, h4, h5, h6, h7⟩ := h
  try dsimp only at h2
  try dsimp only at h3
  try dsimp only at h4
  try dsimp only at h5
  have hS : Sh z kd R := h2.1.2.1
  exact two_P (gC := fun n => g_129 n 2000 0 z kd I L R i1) (kC := fun n => kf_129 n 2000 0 z kd J M R i1.toInt) (gM := fun n e I L => g_275 n 2000 e 0 I L i1) (kM := fun n e J M => kf_275 n 2000 e 0 J M i1.toInt) (fun n => ks_129 n 2000 0 z kd I J L M R i1 _ h3 h4 rfl) (fun n e I' J' L' M' p q => ks_275 n 2000 e 0 I' J' L' M' i1 _ p q rfl) (fun n r z1 kd1 I1 L1 R1 k1 m1 h => a_129 X hS (Nat.le_refl _) h) (fun n z' kd' R' I' L' r I1 L1 hS h => a_275 X hS (Nat.le_refl _) h) (ia_shorts (x := i1.toInt) (by decide) (by omega) h2) hS (by omega) h5 h6 h7
theorem tw_130 {i1 : Int32} (hu : u < 512) (h : LSt u (z, kd, I, L, R) k n) : Two X (u + 1) 130 276 [.int i1] (z, kd, I, L, R) k n := by
  obtain ⟨t, tr, TS, J, M, b4, b5, b6, b7, len, sl, CK, CM, h1, h2, h3, h4, h5, h6, h7⟩ := h
  try dsimp only at h2
  try dsimp only at h3
  try dsimp only at h4
  try dsimp only at h5
  have hS : Sh z kd R := h2.1.2.1
  exact two_P (gC := fun n => g_130 n 2000 0 z kd I L R i1) (kC := fun n => kf_130 n 2000 0 z kd J M R i1.toInt) (gM := fun n e I L => g_276 n 2000 e 0 I L i1 0) (kM := fun n e J M => kf_276 n 2000 e 0 J M i1.toInt 0) (fun n => ks_130 n 2000 0 z kd I J L M R i1 _ h3 h4 rfl) (fun n e I' J' L' M' p q => ks_276 n 2000 e 0 I' J' L' M' i1 _ 0 _ p q rfl rfl) (fun n r z1 kd1 I1 L1 R1 k1 m1 h => a_130 X hS (Nat.le_refl _) h) (fun n z' kd' R' I' L' r I1 L1 hS h => a_276 X hS (Nat.le_refl _) h) (ia_worth (x := i1.toInt) (by decide) (by omega) h2) hS (by omega) h5 h6 h7
theorem tw_133 {i1 i2 : Int32} (hu : u < 512) (h : LSt u (z, kd, I, L, R) k n) : Two X (u + 1) 133 277 [.int i1, .int i2] (z, kd, I, L, R) k n := by
  obtain ⟨t, tr, TS, J, M, b4, b5, b6, b7, len, sl, CK, CM, h1, h2, h3, h4, h5, h6, h7⟩ := h
  try dsimp only at h2
  try dsimp only at h3
  try dsimp only at h4
  try dsimp only at h5
  have hS : Sh z kd R := h2.1.2.1
  exact two_P (gC := fun n => g_133 n 2000 0 z kd I L R i1 i2) (kC := fun n => kf_133 n 2000 0 z kd J M R i1.toInt i2.toInt) (gM := fun n e I L => g_277 n 2000 e 0 I L i1 i2 0 0 0) (kM := fun n e J M => kf_277 n 2000 e 0 J M i1.toInt i2.toInt 0 0 0) (fun n => ks_133 n 2000 0 z kd I J L M R i1 _ i2 _ h3 h4 rfl rfl) (fun n e I' J' L' M' p q => ks_277 n 2000 e 0 I' J' L' M' i1 _ i2 _ 0 _ 0 _ 0 _ p q rfl rfl rfl rfl rfl) (fun n r z1 kd1 I1 L1 R1 k1 m1 h => a_133 X hS (Nat.le_refl _) h) (fun n z' kd' R' I' L' r I1 L1 hS h => a_277 X hS (Nat.le_refl _) h) (ia_change (x := i1.toInt) (y := i2.toInt) (by decide) (by omega) h2) hS (by omega) h5 h6 h7
theorem tw_136 {i1 i2 : Int32} (hu : u < 512) (h : LSt u (z, kd, I, L, R) k n) : Two X (u + 1) 136 278 [.int i1, .int i2] (z, kd, I, L, R) k n := by
  obtain ⟨t, tr, TS, J, M, b4, b5, b6, b7, len, sl, CK, CM, h1, h2, h3, h4, h5, h6, h7⟩ := h
  try dsimp only at h2
  try dsimp only at h3
  try dsimp only at h4
  try dsimp only at h5
  have hS : Sh z kd R := h2.1.2.1
  exact two_A (gC := fun n => g_136 n 2000 (z, kd, R) 0 I L i1 i2) (kC := fun n => kf_136 n 2000 (z, kd, R) 0 J M i1.toInt i2.toInt) (gM := fun n I L => g_278 n 2000 (z, kd, R) 0 I L i1 i2) (kM := fun n J M => kf_278 n 2000 (z, kd, R) 0 J M i1.toInt i2.toInt) (fun n => ks_136 n 2000 _ 0 I J L M i1 _ i2 _ h3 h4 rfl rfl) (fun n I' J' L' M' p q => ks_278 n 2000 _ 0 I' J' L' M' i1 _ i2 _ p q rfl rfl) (fun n r I1 L1 h => a_136 X hS (Nat.le_refl _) h) (fun n I' L' r I1 L1 h => a_278 X hS (Nat.le_refl _) h) (ia_give (k := i1.toInt) (c := i2.toInt) (by decide) (by omega) h2) (by omega) h5 h6 h7
theorem tw_137 {i1 : Int32} (hu : u < 512) (h : LSt u (z, kd, I, L, R) k n) : Two X (u + 1) 137 279 [.int i1] (z, kd, I, L, R) k n := by
  obtain ⟨t, tr, TS, J, M, b4, b5, b6, b7, len, sl, CK, CM, h1, h2, h3, h4, h5, h6, h7⟩ := h
  try dsimp only at h2
  try dsimp only at h3
  try dsimp only at h4
  try dsimp only at h5
  have hS : Sh z kd R := h2.1.2.1
  exact two_P (gC := fun n => g_137 n 2000 0 z kd I L R i1) (kC := fun n => kf_137 n 2000 0 z kd J M R i1.toInt) (gM := fun n e I L => g_279 n 2000 e 0 I L i1 0 0 0 0 0 0) (kM := fun n e J M => kf_279 n 2000 e 0 J M i1.toInt 0 0 0 0 0 0) (fun n => ks_137 n 2000 0 z kd I J L M R i1 _ h3 h4 rfl) (fun n e I' J' L' M' p q => ks_279 n 2000 e 0 I' J' L' M' i1 _ 0 _ 0 _ 0 _ 0 _ 0 _ 0 _ p q rfl rfl rfl rfl rfl rfl rfl) (fun n r z1 kd1 I1 L1 R1 k1 m1 h => a_137 X hS (Nat.le_refl _) h) (fun n z' kd' R' I' L' r I1 L1 hS h => a_279 X hS (Nat.le_refl _) h) (ia_given (x := i1.toInt) (by decide) (by omega) h2) hS (by omega) h5 h6 h7
theorem tw_144 {i1 : Int32} (hu : u < 512) (h : LSt u (z, kd, I, L, R) k n) : Two X (u + 1) 144 282 [.int i1] (z, kd, I, L, R) k n := by
  obtain ⟨t, tr, TS, J, M, b4, b5, b6, b7, len, sl, CK, CM, h1, h2, h3, h4, h5, h6, h7⟩ := h
  try dsimp only at h2
  try dsimp only at h3
  try dsimp only at h4
  try dsimp only at h5
  have hS : Sh z kd R := h2.1.2.1
  exact two_P (gC := fun n => g_144 n 2000 0 z kd I L R i1) (kC := fun n => kf_144 n 2000 0 z kd J M R i1.toInt) (gM := fun n e I L => g_282 n 2000 e 0 I L i1 0 0) (kM := fun n e J M => kf_282 n 2000 e 0 J M i1.toInt 0 0) (fun n => ks_144 n 2000 0 z kd I J L M R i1 _ h3 h4 rfl) (fun n e I' J' L' M' p q => ks_282 n 2000 e 0 I' J' L' M' i1 _ 0 _ 0 _ p q rfl rfl rfl) (fun n r z1 kd1 I1 L1 R1 k1 m1 h => a_144 X hS (Nat.le_refl _) h) (fun n z' kd' R' I' L' r I1 L1 hS h => a_282 X hS (Nat.le_refl _) h) (ia_task (x := i1.toInt) (by decide) (by omega) h2) hS (by omega) h5 h6 h7
theorem tw_147 {i1 : Int32} (hu : u < 512) (h : LSt u (z, kd, I, L, R) k n) : Two X (u + 1) 147 285 [.int i1] (z, kd, I, L, R) k n := by
  obtain ⟨t, tr, TS, J, M, b4, b5, b6, b7, len, sl, CK, CM, h1, h2, h3, h4, h5, h6, h7⟩ := h
  try dsimp only at h2
  try dsimp only at h3
  try dsimp only at h4
  try dsimp only at h5
  have hS : Sh z kd R := h2.1.2.1
  exact two_P (gC := fun n => g_147 n 2000 0 z kd I L R i1) (kC := fun n => kf_147 n 2000 0 z kd J M R i1.toInt) (gM := fun n e I L => g_285 n 2000 e 0 I L i1 0 0 0 0 0) (kM := fun n e J M => kf_285 n 2000 e 0 J M i1.toInt 0 0 0 0 0) (fun n => ks_147 n 2000 0 z kd I J L M R i1 _ h3 h4 rfl) (fun n e I' J' L' M' p q => ks_285 n 2000 e 0 I' J' L' M' i1 _ 0 _ 0 _ 0 _ 0 _ 0 _ p q rfl rfl rfl rfl rfl rfl) (fun n r z1 kd1 I1 L1 R1 k1 m1 h => a_147 X hS (Nat.le_refl _) h) (fun n z' kd' R' I' L' r I1 L1 hS h => a_285 X hS (Nat.le_refl _) h) (ia_share (x := i1.toInt) (by decide) (by omega) h2) hS (by omega) h5 h6 h7
theorem tw_155 {i1 i2 i3 i4 i5 i6 : Int32} (hu : u < 512) (h : LSt u (z, kd, I, L, R) k n) : Two X (u + 1) 155 288 [.int i1, .int i2, .int i3, .int i4, .int i5, .int i6] (z, kd, I, L, R) k n := by
  obtain ⟨t, tr, TS, J, M, b4, b5, b6, b7, len, sl, CK, CM, h1, h2, h3, h4, h5, h6, h7⟩ := h
  try dsimp only at h2
  try dsimp only at h3
  try dsimp only at h4
  try dsimp only at h5
  have hS : Sh z kd R := h2.1.2.1
  exact two_A (gC := fun n => g_155 n 2000 (z, kd, R) 0 I L i1 i2 i3 i4 i5 i6) (kC := fun n => kf_155 n 2000 (z, kd, R) 0 J M i1.toInt i2.toInt i3.toInt i4.toInt i5.toInt i6.toInt) (gM := fun n I L => g_288 n 2000 (z, kd, R) 0 I L i1 i2 i3 i4 i5 i6) (kM := fun n J M => kf_288 n 2000 (z, kd, R) 0 J M i1.toInt i2.toInt i3.toInt i4.toInt i5.toInt i6.toInt) (fun n => ks_155 n 2000 _ 0 I J L M i1 _ i2 _ i3 _ i4 _ i5 _ i6 _ h3 h4 rfl rfl rfl rfl rfl rfl) (fun n I' J' L' M' p q => ks_288 n 2000 _ 0 I' J' L' M' i1 _ i2 _ i3 _ i4 _ i5 _ i6 _ p q rfl rfl rfl rfl rfl rfl) (fun n r I1 L1 h => a_155 X hS (Nat.le_refl _) h) (fun n I' L' r I1 L1 h => a_288 X hS (Nat.le_refl _) h) (ia_box (w := i1.toInt) (l := i2.toInt) (m := i3.toInt) (y := i4.toInt) (x := i5.toInt) (c := i6.toInt) (by decide) (by omega) h2) (by omega) h5 h6 h7
theorem tw_159 {i1 i2 : Int32} (hu : u < 512) (h : LSt u (z, kd, I, L, R) k n) : Two X (u + 1) 159 291 [.int i1, .int i2] (z, kd, I, L, R) k n := by
  obtain ⟨t, tr, TS, J, M, b4, b5, b6, b7, len, sl, CK, CM, h1, h2, h3, h4, h5, h6, h7⟩ := h
  try dsimp only at h2
  try dsimp only at h3
  try dsimp only at h4
  try dsimp only at h5
  have hS : Sh z kd R := h2.1.2.1
  exact two_A (gC := fun n => g_159 n 2000 (z, kd, R) 0 I L i1 i2) (kC := fun n => kf_159 n 2000 (z, kd, R) 0 J M i1.toInt i2.toInt) (gM := fun n I L => g_291 n 2000 (z, kd, R) 0 I L i1 i2) (kM := fun n J M => kf_291 n 2000 (z, kd, R) 0 J M i1.toInt i2.toInt) (fun n => ks_159 n 2000 _ 0 I J L M i1 _ i2 _ h3 h4 rfl rfl) (fun n I' J' L' M' p q => ks_291 n 2000 _ 0 I' J' L' M' i1 _ i2 _ p q rfl rfl) (fun n r I1 L1 h => a_159 X hS (Nat.le_refl _) h) (fun n I' L' r I1 L1 h => a_291 X hS (Nat.le_refl _) h) (ia_of (b := i1.toInt) (w := i2.toInt) (by decide) (by omega) h2) (by omega) h5 h6 h7
theorem tw_160 (hu : u < 512) (h : LSt u (z, kd, I, L, R) k n) : Two X (u + 1) 160 293 [] (z, kd, I, L, R) k n := by
  obtain ⟨t, tr, TS, J, M, b4, b5, b6, b7, len, sl, CK, CM, h1, h2, h3, h4, h5, h6, h7⟩ := h
  try dsimp only at h2
  try dsimp only at h3
  try dsimp only at h4
  try dsimp only at h5
  have hS : Sh z kd R := h2.1.2.1
  exact two_A (gC := fun n => g_160 n 2000 (z, kd, R) 0 I L) (kC := fun n => kf_160 n 2000 (z, kd, R) 0 J M) (gM := fun n I L => g_293 n 2000 (z, kd, R) 0 I L 0 0 0 0) (kM := fun n J M => kf_293 n 2000 (z, kd, R) 0 J M 0 0 0 0) (fun n => ks_160 n 2000 _ 0 I J L M h3 h4) (fun n I' J' L' M' p q => ks_293 n 2000 _ 0 I' J' L' M' 0 _ 0 _ 0 _ 0 _ p q rfl rfl rfl rfl) (fun n r I1 L1 h => a_160 X hS (Nat.le_refl _) h) (fun n I' L' r I1 L1 h => a_293 X hS (Nat.le_refl _) h) (ia_row (by decide) (by omega) h2) (by omega) h5 h6 h7
theorem tw_162 (hu : u < 512) (h : LSt u (z, kd, I, L, R) k n) : Two X (u + 1) 162 294 [] (z, kd, I, L, R) k n := by
  obtain ⟨t, tr, TS, J, M, b4, b5, b6, b7, len, sl, CK, CM, h1, h2, h3, h4, h5, h6, h7⟩ := h
  try dsimp only at h2
  try dsimp only at h3
  try dsimp only at h4
  try dsimp only at h5
  have hS : Sh z kd R := h2.1.2.1
  exact two_A (gC := fun n => g_162 n 2000 (z, kd, R) 0 I L) (kC := fun n => kf_162 n 2000 (z, kd, R) 0 J M) (gM := fun n I L => g_294 n 2000 (z, kd, R) 0 I L) (kM := fun n J M => kf_294 n 2000 (z, kd, R) 0 J M) (fun n => ks_162 n 2000 _ 0 I J L M h3 h4) (fun n I' J' L' M' p q => ks_294 n 2000 _ 0 I' J' L' M' p q) (fun n r I1 L1 h => a_162 X hS (Nat.le_refl _) h) (fun n I' L' r I1 L1 h => a_294 X hS (Nat.le_refl _) h) (ia_spoilt (by decide) (by omega) h2) (by omega) h5 h6 h7
theorem tw_163 {i1 i2 i3 i4 : Int32} (hu : u < 512) (h : LSt u (z, kd, I, L, R) k n) : Two X (u + 1) 163 295 [.int i1, .int i2, .int i3, .int i4] (z, kd, I, L, R) k n := by
  obtain ⟨t, tr, TS, J, M, b4, b5, b6, b7, len, sl, CK, CM, h1, h2, h3, h4, h5, h6, h7⟩ := h
  try dsimp only at h2
  try dsimp only at h3
  try dsimp only at h4
  try dsimp only at h5
  have hS : Sh z kd R := h2.1.2.1
  exact two_A (gC := fun n => g_163 n 2000 (z, kd, R) 0 I L i1 i2 i3 i4) (kC := fun n => kf_163 n 2000 (z, kd, R) 0 J M i1.toInt i2.toInt i3.toInt i4.toInt) (gM := fun n I L => g_295 n 2000 (z, kd, R) 0 I L i1 i2 i3 i4 0 0 0 0 0 0 0 0) (kM := fun n J M => kf_295 n 2000 (z, kd, R) 0 J M i1.toInt i2.toInt i3.toInt i4.toInt 0 0 0 0 0 0 0 0) (fun n => ks_163 n 2000 _ 0 I J L M i1 _ i2 _ i3 _ i4 _ h3 h4 rfl rfl rfl rfl) (fun n I' J' L' M' p q => ks_295 n 2000 _ 0 I' J' L' M' i1 _ i2 _ i3 _ i4 _ 0 _ 0 _ 0 _ 0 _ 0 _ 0 _ 0 _ 0 _ p q rfl rfl rfl rfl rfl rfl rfl rfl rfl rfl rfl rfl) (fun n r I1 L1 h => a_163 X hS (Nat.le_refl _) h) (fun n I' L' r I1 L1 h => a_295 X hS (Nat.le_refl _) h) (ia_mix (f := i1.toInt) (tt := i2.toInt) (a := i3.toInt) (w := i4.toInt) (by decide) (by omega) h2) (by omega) h5 h6 h7
theorem tw_169 {i1 i2 i3 i4 : Int32} (hu : u < 512) (h : LSt u (z, kd, I, L, R) k n) : Two X (u + 1) 169 296 [.int i1, .int i2, .int i3, .int i4] (z, kd, I, L, R) k n := by
  obtain ⟨t, tr, TS, J, M, b4, b5, b6, b7, len, sl, CK, CM, h1, h2, h3, h4, h5, h6, h7⟩ := h
  try dsimp only at h2
  try dsimp only at h3
  try dsimp only at h4
  try dsimp only at h5
  have hS : Sh z kd R := h2.1.2.1
  exact two_A (gC := fun n => g_169 n 2000 (z, kd, R) 0 I L i1 i2 i3 i4) (kC := fun n => kf_169 n 2000 (z, kd, R) 0 J M i1.toInt i2.toInt i3.toInt i4.toInt) (gM := fun n I L => g_296 n 2000 (z, kd, R) 0 I L i1 i2 i3 i4 0 0 0 0 0) (kM := fun n J M => kf_296 n 2000 (z, kd, R) 0 J M i1.toInt i2.toInt i3.toInt i4.toInt 0 0 0 0 0) (fun n => ks_169 n 2000 _ 0 I J L M i1 _ i2 _ i3 _ i4 _ h3 h4 rfl rfl rfl rfl) (fun n I' J' L' M' p q => ks_296 n 2000 _ 0 I' J' L' M' i1 _ i2 _ i3 _ i4 _ 0 _ 0 _ 0 _ 0 _ 0 _ p q rfl rfl rfl rfl rfl rfl rfl rfl rfl) (fun n r I1 L1 h => a_169 X hS (Nat.le_refl _) h) (fun n I' L' r I1 L1 h => a_296 X hS (Nat.le_refl _) h) (ia_send (m := i1.toInt) (day := i2.toInt) (lo := i3.toInt) (hi := i4.toInt) (by decide) (by omega) h2) (by omega) h5 h6 h7
theorem tw_172 {i1 : Int32} (hu : u < 512) (h : LSt u (z, kd, I, L, R) k n) : Two X (u + 1) 172 297 [.int i1] (z, kd, I, L, R) k n := by
  obtain ⟨t, tr, TS, J, M, b4, b5, b6, b7, len, sl, CK, CM, h1, h2, h3, h4, h5, h6, h7⟩ := h
  try dsimp only at h2
  try dsimp only at h3
  try dsimp only at h4
  try dsimp only at h5
  have hS : Sh z kd R := h2.1.2.1
  exact two_A (gC := fun n => g_172 n 2000 (z, kd, R) 0 I L i1) (kC := fun n => kf_172 n 2000 (z, kd, R) 0 J M i1.toInt) (gM := fun n I L => g_297 n 2000 (z, kd, R) 0 I L i1) (kM := fun n J M => kf_297 n 2000 (z, kd, R) 0 J M i1.toInt) (fun n => ks_172 n 2000 _ 0 I J L M i1 _ h3 h4 rfl) (fun n I' J' L' M' p q => ks_297 n 2000 _ 0 I' J' L' M' i1 _ p q rfl) (fun n r I1 L1 h => a_172 X hS (Nat.le_refl _) h) (fun n I' L' r I1 L1 h => a_297 X hS (Nat.le_refl _) h) (ia_again (b := i1.toInt) (by decide) (by omega) h2) (by omega) h5 h6 h7
theorem tw_173 {i1 i2 : Int32} (hu : u < 512) (h : LSt u (z, kd, I, L, R) k n) : Two X (u + 1) 173 298 [.int i1, .int i2] (z, kd, I, L, R) k n := by
  obtain ⟨t, tr, TS, J, M, b4, b5, b6, b7, len, sl, CK, CM, h1, h2, h3, h4, h5, h6, h7⟩ := h
  try dsimp only at h2
  try dsimp only at h3
  try dsimp only at h4
  try dsimp only at h5
  exact two_recall h3 h4 h2 (by omega) h5 h6 h7
theorem tw_179 {i1 i2 : Int32} (hu : u < 512) (h : LSt u (z, kd, I, L, R) k n) : Two X (u + 1) 179 300 [.int i1, .int i2] (z, kd, I, L, R) k n := by
  obtain ⟨t, tr, TS, J, M, b4, b5, b6, b7, len, sl, CK, CM, h1, h2, h3, h4, h5, h6, h7⟩ := h
  try dsimp only at h2
  try dsimp only at h3
  try dsimp only at h4
  try dsimp only at h5
  have hS : Sh z kd R := h2.1.2.1
  exact two_A (gC := fun n => g_179 n 2000 (z, kd, R) 0 I L i1 i2) (kC := fun n => kf_179 n 2000 (z, kd, R) 0 J M i1.toInt i2.toInt) (gM := fun n I L => g_300 n 2000 (z, kd, R) 0 I L i1 i2) (kM := fun n J M => kf_300 n 2000 (z, kd, R) 0 J M i1.toInt i2.toInt) (fun n => ks_179 n 2000 _ 0 I J L M i1 _ i2 _ h3 h4 rfl rfl) (fun n I' J' L' M' p q => ks_300 n 2000 _ 0 I' J' L' M' i1 _ i2 _ p q rfl rfl) (fun n r I1 L1 h => a_179 X hS (Nat.le_refl _) h) (fun n I' L' r I1 L1 h => a_300 X hS (Nat.le_refl _) h) (ia_yields (x := i1.toInt) (g := i2.toInt) (by decide) (by omega) h2) (by omega) h5 h6 h7
theorem tw_180 {i1 i2 i3 : Int32} (hu : u < 512) (h : LSt u (z, kd, I, L, R) k n) : Two X (u + 1) 180 301 [.int i1, .int i2, .int i3] (z, kd, I, L, R) k n := by
  obtain ⟨t, tr, TS, J, M, b4, b5, b6, b7, len, sl, CK, CM, h1, h2, h3, h4, h5, h6, h7⟩ := h
  try dsimp only at h2
  try dsimp only at h3
  try dsimp only at h4
  try dsimp only at h5
  have hS : Sh z kd R := h2.1.2.1
  exact two_A (gC := fun n => g_180 n 2000 (z, kd, R) 0 I L i1 i2 i3 0 0 0 0) (kC := fun n => kf_180 n 2000 (z, kd, R) 0 J M i1.toInt i2.toInt i3.toInt 0 0 0 0) (gM := fun n I L => g_301 n 2000 (z, kd, R) 0 I L i1 i2 i3 0 0 0 0) (kM := fun n J M => kf_301 n 2000 (z, kd, R) 0 J M i1.toInt i2.toInt i3.toInt 0 0 0 0) (fun n => ks_180 n 2000 _ 0 I J L M i1 _ i2 _ i3 _ 0 _ 0 _ 0 _ 0 _ h3 h4 rfl rfl rfl rfl rfl rfl rfl) (fun n I' J' L' M' p q => ks_301 n 2000 _ 0 I' J' L' M' i1 _ i2 _ i3 _ 0 _ 0 _ 0 _ 0 _ p q rfl rfl rfl rfl rfl rfl rfl) (fun n r I1 L1 h => a_180 X hS (Nat.le_refl _) h) (fun n I' L' r I1 L1 h => a_301 X hS (Nat.le_refl _) h) (ia_drift (al := i1.toInt) (lim := i2.toInt) (w := i3.toInt) (by decide) (by omega) h2) (by omega) h5 h6 h7
theorem tw_181 {i1 : Int32} (hu : u < 512) (h : LSt u (z, kd, I, L, R) k n) : Two X (u + 1) 181 302 [.int i1] (z, kd, I, L, R) k n := by
  obtain ⟨t, tr, TS, J, M, b4, b5, b6, b7, len, sl, CK, CM, h1, h2, h3, h4, h5, h6, h7⟩ := h
  try dsimp only at h2
  try dsimp only at h3
  try dsimp only at h4
  try dsimp only at h5
  have hS : Sh z kd R := h2.1.2.1
  exact two_P (gC := fun n => g_181 n 2000 0 z kd I L R i1 0 0) (kC := fun n => kf_181 n 2000 0 z kd J M R i1.toInt 0 0) (gM := fun n e I L => g_302 n 2000 e 0 I L i1 0 0 0 0) (kM := fun n e J M => kf_302 n 2000 e 0 J M i1.toInt 0 0 0 0) (fun n => ks_181 n 2000 0 z kd I J L M R i1 _ 0 _ 0 _ h3 h4 rfl rfl rfl) (fun n e I' J' L' M' p q => ks_302 n 2000 e 0 I' J' L' M' i1 _ 0 _ 0 _ 0 _ 0 _ p q rfl rfl rfl rfl rfl) (fun n r z1 kd1 I1 L1 R1 k1 m1 h => a_181 X hS (Nat.le_refl _) h) (fun n z' kd' R' I' L' r I1 L1 hS h => a_302 X hS (Nat.le_refl _) h) (ia_week (x := i1.toInt) (by decide) (by omega) h2) hS (by omega) h5 h6 h7
theorem tw_183 {i1 i2 : Int32} (hu : u < 512) (h : LSt u (z, kd, I, L, R) k n) : Two X (u + 1) 183 303 [.int i1, .int i2] (z, kd, I, L, R) k n := by
  obtain ⟨t, tr, TS, J, M, b4, b5, b6, b7, len, sl, CK, CM, h1, h2, h3, h4, h5, h6, h7⟩ := h
  try dsimp only at h2
  try dsimp only at h3
  try dsimp only at h4
  try dsimp only at h5
  have hS : Sh z kd R := h2.1.2.1
  exact two_A (gC := fun n => g_183 n 2000 (z, kd, R) 0 I L i1 i2) (kC := fun n => kf_183 n 2000 (z, kd, R) 0 J M i1.toInt i2.toInt) (gM := fun n I L => g_303 n 2000 (z, kd, R) 0 I L i1 i2) (kM := fun n J M => kf_303 n 2000 (z, kd, R) 0 J M i1.toInt i2.toInt) (fun n => ks_183 n 2000 _ 0 I J L M i1 _ i2 _ h3 h4 rfl rfl) (fun n I' J' L' M' p q => ks_303 n 2000 _ 0 I' J' L' M' i1 _ i2 _ p q rfl rfl) (fun n r I1 L1 h => a_183 X hS (Nat.le_refl _) h) (fun n I' L' r I1 L1 h => a_303 X hS (Nat.le_refl _) h) (ia_came (d := i1.toInt) (c := i2.toInt) (by decide) (by omega) h2) (by omega) h5 h6 h7
theorem tw_184 {i1 : Int32} (hu : u < 512) (h : LSt u (z, kd, I, L, R) k n) : Two X (u + 1) 184 192 [.int i1] (z, kd, I, L, R) k n := by
  obtain ⟨t, tr, TS, J, M, b4, b5, b6, b7, len, sl, CK, CM, h1, h2, h3, h4, h5, h6, h7⟩ := h
  try dsimp only at h2
  try dsimp only at h3
  try dsimp only at h4
  try dsimp only at h5
  have hS : Sh z kd R := h2.1.2.1
  exact two_P (gC := fun n => g_184 n 2000 0 z kd I L R i1 0) (kC := fun n => kf_184 n 2000 0 z kd J M R i1.toInt 0) (gM := fun n e I L => g_192 n 2000 e 0 I L i1 0) (kM := fun n e J M => kf_192 n 2000 e 0 J M i1.toInt 0) (fun n => ks_184 n 2000 0 z kd I J L M R i1 _ 0 h3 h4 rfl) (fun n e I' J' L' M' p q => ks_192 n 2000 e 0 I' J' L' M' i1 _ 0 _ p q rfl rfl) (fun n r z1 kd1 I1 L1 R1 k1 m1 h => a_184 X hS (Nat.le_refl _) h) (fun n z' kd' R' I' L' r I1 L1 hS h => a_192 X hS (Nat.le_refl _) h) (ia_image (k := i1.toInt) (by decide) (by omega) h2) hS (by omega) h5 h6 h7
theorem tw_187 {i1 : Int32} (hu : u < 512) (h : LSt u (z, kd, I, L, R) k n) : Two X (u + 1) 187 195 [.int i1] (z, kd, I, L, R) k n := by
  obtain ⟨t, tr, TS, J, M, b4, b5, b6, b7, len, sl, CK, CM, h1, h2, h3, h4, h5, h6, h7⟩ := h
  try dsimp only at h2
  try dsimp only at h3
  try dsimp only at h4
  try dsimp only at h5
  have hS : Sh z kd R := h2.1.2.1
  exact two_A (gC := fun n => g_187 n 2000 (z, kd, R) 0 I L i1) (kC := fun n => kf_187 n 2000 (z, kd, R) 0 J M i1.toInt) (gM := fun n I L => g_195 n 2000 (z, kd, R) 0 I L i1 0) (kM := fun n J M => kf_195 n 2000 (z, kd, R) 0 J M i1.toInt 0) (fun n => ks_187 n 2000 _ 0 I J L M i1 _ h3 h4 rfl) (fun n I' J' L' M' p q => ks_195 n 2000 _ 0 I' J' L' M' i1 _ 0 _ p q rfl rfl) (fun n r I1 L1 h => a_187 X hS (Nat.le_refl _) h) (fun n I' L' r I1 L1 h => a_195 X hS (Nat.le_refl _) h) (ia_back (k := i1.toInt) (by decide) (by omega) h2) (by omega) h5 h6 h7
theorem tw_188 {i1 : Int32} (hu : u < 512) (h : LSt u (z, kd, I, L, R) k n) : Two X (u + 1) 188 304 [.int i1] (z, kd, I, L, R) k n := by
  obtain ⟨t, tr, TS, J, M, b4, b5, b6, b7, len, sl, CK, CM, h1, h2, h3, h4, h5, h6, h7⟩ := h
  try dsimp only at h2
  try dsimp only at h3
  try dsimp only at h4
  try dsimp only at h5
  have hS : Sh z kd R := h2.1.2.1
  exact two_A (gC := fun n => g_188 n 2000 (z, kd, R) 0 I L i1) (kC := fun n => kf_188 n 2000 (z, kd, R) 0 J M i1.toInt) (gM := fun n I L => g_304 n 2000 (z, kd, R) 0 I L i1 0 0) (kM := fun n J M => kf_304 n 2000 (z, kd, R) 0 J M i1.toInt 0 0) (fun n => ks_188 n 2000 _ 0 I J L M i1 _ h3 h4 rfl) (fun n I' J' L' M' p q => ks_304 n 2000 _ 0 I' J' L' M' i1 _ 0 _ 0 _ p q rfl rfl rfl) (fun n r I1 L1 h => a_188 X hS (Nat.le_refl _) h) (fun n I' L' r I1 L1 h => a_304 X hS (Nat.le_refl _) h) (ia_count (w := i1.toInt) (by decide) (by omega) h2) (by omega) h5 h6 h7
theorem tw_190 (hu : u < 512) (h : LSt u (z, kd, I, L, R) k n) : Two X (u + 1) 190 305 [] (z, kd, I, L, R) k n := by
  obtain ⟨t, tr, TS, J, M, b4, b5, b6, b7, len, sl, CK, CM, h1, h2, h3, h4, h5, h6, h7⟩ := h
  try dsimp only at h2
  try dsimp only at h3
  try dsimp only at h4
  try dsimp only at h5
  have hS : Sh z kd R := h2.1.2.1
  exact two_A (gC := fun n => g_190 n 2000 (z, kd, R) 0 I L) (kC := fun n => kf_190 n 2000 (z, kd, R) 0 J M) (gM := fun n I L => g_305 n 2000 (z, kd, R) 0 I L) (kM := fun n J M => kf_305 n 2000 (z, kd, R) 0 J M) (fun n => ks_190 n 2000 _ 0 I J L M h3 h4) (fun n I' J' L' M' p q => ks_305 n 2000 _ 0 I' J' L' M' p q) (fun n r I1 L1 h => a_190 X hS (Nat.le_refl _) h) (fun n I' L' r I1 L1 h => a_305 X hS (Nat.le_refl _) h) (ia_status (by decide) (by omega) h2) (by omega) h5 h6 h7
end TWS
