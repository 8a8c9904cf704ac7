/-! TREE: class and reference -/
def cR (ρ : Int → Int) : Int → Int × Int := fun i => nrm (ρ (664 + 2 * i)) (ρ (664 + 2 * i + 1))
/-- what the tree at tr says is what the row ρ says -/
def TrT (J : JI) (tr : Nat) (ρ : Int → Int) : Prop := TrX J tr (fun i => ρ (290 + i)) (fun i => ρ (472 + i)) (cR ρ) (ρ 8) (ρ 9) 400 400 ∧ ρ 471 = ρ 8
theorem Sh_u2 {z : Nat} {kd : KD} {R : RF} {a k : Nat} {v : Option Nat} (h : Sh z kd R) (hk : R0.all (fun q => !(q.1 == a && q.2.1 == k)) = true) : Sh z kd (u2 R a k v) := by
  refine ⟨h.1, h.2.1, fun q hq => ?_⟩
  have := List.all_eq_true.mp hk q hq
  rw [u2_ite, if_neg]
  · exact h.2.2 q hq
  · rintro ⟨c1, c2⟩
    rw [c1, c2] at this
    simp at this
theorem HlO_Rt {z : Nat} {kd : KD} {R R' : RF} {h tr tr' : Nat} (hr : ∀ j, j < 7 → R' h j = R h j) (h7 : R' h 7 = some tr') (g : HlO (z, kd, R) h tr) : HlO (z, kd, R') h tr' := by
  obtain ⟨g1, g2, g3, g4, g5, g6, g7, g8, g9⟩ := g
  refine ⟨g1, ⟨?_, g2.2⟩, ⟨?_, g3.2⟩, ⟨?_, g4.2⟩, ⟨?_, g5.2⟩, ⟨?_, g6.2⟩, ⟨?_, g7.2⟩, ⟨?_, g8.2⟩, h7⟩
  · exact (hr 0 (by decide)).trans g2.1
  · exact (hr 1 (by decide)).trans g3.1
  · exact (hr 2 (by decide)).trans g4.1
  · exact (hr 3 (by decide)).trans g5.1
  · exact (hr 4 (by decide)).trans g6.1
  · exact (hr 5 (by decide)).trans g7.1
  · exact (hr 6 (by decide)).trans g8.1
theorem TrO_Rt {z : Nat} {kd : KD} {R R' : RF} {tr : Nat} (hr : ∀ j, R' tr j = R tr j) (g : TrO (z, kd, R) tr) : TrO (z, kd, R') tr := by
  obtain ⟨g1, g2, g3, g4, g5, g6, g7, g8, g9, g10, g11⟩ := g
  exact ⟨g1, ⟨(hr 0).trans g2.1, g2.2⟩, ⟨(hr 1).trans g3.1, g3.2⟩, ⟨(hr 2).trans g4.1, g4.2⟩, ⟨(hr 3).trans g5.1, g5.2⟩, ⟨(hr 4).trans g6.1, g6.2⟩, ⟨(hr 5).trans g7.1, g7.2⟩, ⟨(hr 6).trans g8.1, g8.2⟩, ⟨(hr 7).trans g9.1, g9.2⟩, ⟨(hr 8).trans g10.1, g10.2⟩, ⟨(hr 9).trans g11.1, g11.2⟩⟩
theorem imO_R {z : Nat} {kd : KD} {R R' : RF} {J J' : JI} {k h : Nat} (hr : ∀ a j, a = 20 ∨ 144 ≤ a → R' a j = R a j) (h9 : J' 109 k = J 109 k) (h8 : ∀ j, J' 108 j = J 108 j) (hz : ∀ a, 144 ≤ a → ∀ j, J' a j = J a j) (q : imO z kd R J k h) : imO z kd R' J' k h := by
  have q := imO_congr (J' := J') h9 h8 (fun a x _ j => hz a x j) q
  obtain ⟨q1, q2, q3, q4, q5, q6, q7, q8⟩ := q
  exact ⟨(hr 20 k (Or.inl rfl)).trans q1, q2, q3, q4, HlO_Rt (fun j _ => hr h j (by omega)) ((hr h 7 (by omega)).trans q5.2.2.2.2.2.2.2.2) q5, TrO_Rt (fun j => hr (h + 8) j (by omega)) q6, q7, q8⟩
theorem rwO_t {ρ ρ' : Int → Int} (h1 : ∀ i, i < 290 → ¬ i = 8 → ¬ i = 9 → ρ' i = ρ i) (h8 : 0 ≤ ρ' 8 ∧ ρ' 8 ≤ 24) (h9 : 0 ≤ ρ' 9 ∧ ρ' 9 ≤ 16) (h : rwO ρ) : rwO ρ' := by
  obtain ⟨u1, u2, u3, u4, u5, u6, u7, u8, u9, u10, u11, u12, u13, u14, u15, u16, u17⟩ := h
  have e6 := h1 6 (by omega) (by omega) (by omega)
  have e7 := h1 7 (by omega) (by omega) (by omega)
  refine ⟨fun c a b => ?_, ?_, ?_, ?_, ?_, ?_, ?_, h8, h9, fun i a b => ?_, fun i a b => ?_, fun i a b => ?_, ?_, fun i a b => ?_, fun i a b => ?_, fun b x y => ?_, fun i a b => ?_⟩
  · rw [h1 c (by omega) (by omega) (by omega)]; exact u1 c a b
  · rw [h1 0 (by omega) (by omega) (by omega), h1 1 (by omega) (by omega) (by omega), h1 2 (by omega) (by omega) (by omega)]; exact u2
  · rw [h1 3 (by omega) (by omega) (by omega)]; exact u3
  · rw [h1 4 (by omega) (by omega) (by omega)]; exact u4
  · rw [h1 5 (by omega) (by omega) (by omega)]; exact u5
  · rw [e6]; exact u6
  · rw [e7]; exact u7
  · rw [h1 i (by omega) (by omega) (by omega)]; exact u10 i a b
  · rw [h1 i (by omega) (by omega) (by omega)]; exact u11 i a b
  · rw [h1 i (by omega) (by omega) (by omega)]; exact u12 i a b
  · refine Int.le_trans (Int.le_of_eq (sm_congr 10 (fun i a b => ?_))) u13
    rw [h1 (60 + i) (by omega) (by omega) (by omega)]
  · rw [h1 i (by omega) (by omega) (by omega)]; exact u14 i a b
  · rw [h1 i (by omega) (by omega) (by omega)]; exact u15 i a b
  · rw [e6] at y
    rw [h1 (90 + 7 * b) (by omega) (by omega) (by omega), h1 (90 + 7 * b + 1) (by omega) (by omega) (by omega), h1 (90 + 7 * b + 2) (by omega) (by omega) (by omega), h1 (90 + 7 * b + 3) (by omega) (by omega) (by omega), h1 (90 + 7 * b + 4) (by omega) (by omega) (by omega), h1 (90 + 7 * b + 5) (by omega) (by omega) (by omega), h1 (90 + 7 * b + 6) (by omega) (by omega) (by omega)]
    exact u16 b x y
  · rw [e7] at b
    rw [h1 (202 + 2 * i) (by omega) (by omega) (by omega), h1 (202 + 2 * i + 1) (by omega) (by omega) (by omega)]
    exact u17 i a b
theorem hlC_t {J J' : JI} {tr sp : Nat} {ρ ρ' : Int → Int} (h1 : ∀ i, i < 290 → ¬ i = 8 → ¬ i = 9 → ρ' i = ρ i) (hj : ∀ a i, 1 ≤ a → a ≤ 8 → J' a i = J a i) (h7 : ρ 7 ≤ 40) (t : J' sp 10 = ρ' 8 ∧ J' sp 11 = ρ' 9 ∧ (∀ w, 0 ≤ w → w < ρ' 9 → J' (sp + 6) w = ρ' (290 + 11 * w)) ∧ (∀ w p, 0 ≤ w → w < ρ' 9 → 0 ≤ p → p < 10 → J' (sp + 8) (w * 10 + p) = ρ' (290 + 11 * w + 1 + p)) ∧ 0 ≤ J' sp 12 ∧ J' sp 12 ≤ 400) (h : hlC J 1 tr ρ) : hlC J' 1 sp ρ' := by
  obtain ⟨v1, v2, v3, v4, v5, v6, v7, v8, v9, v10, v11, v12, v13, v14, v15, v16, v17⟩ := h
  have e7 := h1 7 (by omega) (by omega) (by omega)
  refine ⟨fun c a b => ?_, fun i a b => ?_, fun i a b => ?_, fun i a b => ?_, fun i a b => ?_, fun i a b => ?_, fun i a b => ?_, ?_, ?_, ?_, ?_, ?_, t⟩
  · rw [hj _ _ (by omega) (by omega), h1 c (by omega) (by omega) (by omega)]; exact v1 c a b
  · rw [hj _ _ (by omega) (by omega), h1 _ (by omega) (by omega) (by omega)]; exact v2 i a b
  · rw [hj _ _ (by omega) (by omega), h1 _ (by omega) (by omega) (by omega)]; exact v3 i a b
  · rw [hj _ _ (by omega) (by omega), h1 _ (by omega) (by omega) (by omega)]; exact v4 i a b
  · rw [hj _ _ (by omega) (by omega), h1 _ (by omega) (by omega) (by omega)]; exact v5 i a b
  · rw [hj _ _ (by omega) (by omega), h1 _ (by omega) (by omega) (by omega)]; exact v6 i a b
  · rw [e7] at b
    rw [hj _ _ (by omega) (by omega), h1 (202 + 2 * i) (by omega) (by omega) (by omega), h1 (202 + 2 * i + 1) (by omega) (by omega) (by omega)]; exact v7 i a b
  · rw [hj _ _ (by omega) (by omega), h1 _ (by omega) (by omega) (by omega)]; exact v8
  · rw [hj _ _ (by omega) (by omega), h1 _ (by omega) (by omega) (by omega)]; exact v9
  · rw [hj _ _ (by omega) (by omega), e7]; exact v10
  · rw [hj _ _ (by omega) (by omega), h1 _ (by omega) (by omega) (by omega)]; exact v11
  · rw [hj _ _ (by omega) (by omega), h1 _ (by omega) (by omega) (by omega)]; exact v12
/-- the class's cells ahead of the first token -/
def jt4 (sp : Nat) (J : JI) : JI := w2 (w2 (w2 (w2 (w2 (fl (w2 J 104 2 (J 0 13)) (sp + 8) 160 0) sp 10 0) sp 11 0) sp 12 0) 104 5 0) 104 7 0
def kt1 (X : JI) : JI := w2 (w2 (w2 X 105 9 0) 105 13 0) 105 12 (-1)
def kt3 (X : JI) : JI := w2 (w2 (w2 (w2 X 105 14 0) 105 16 0) 105 19 0) 105 26 0
theorem jt4_n {sp : Nat} {J : JI} {a : Nat} {i : Int} (h : ¬ (a = 104 ∧ (i = 2 ∨ i = 5 ∨ i = 7))) (h1 : ¬ (a = sp ∧ 10 ≤ i ∧ i ≤ 12)) (h2 : ¬ a = sp + 8) : jt4 sp J a i = J a i := by
  unfold jt4
  rw [w2_n (by omega), w2_n (by omega), w2_n (by omega), w2_n (by omega), w2_n (by omega), fl_n (by omega), w2_n (by omega)]
theorem kt1_n {X : JI} {a : Nat} {i : Int} (h : ¬ (a = 105 ∧ (i = 9 ∨ i = 12 ∨ i = 13))) : kt1 X a i = X a i := by
  unfold kt1
  rw [w2_n (by omega), w2_n (by omega), w2_n (by omega)]
theorem kt3_n {X : JI} {a : Nat} {i : Int} (h : ¬ (a = 105 ∧ (i = 14 ∨ i = 16 ∨ i = 19 ∨ i = 26))) : kt3 X a i = X a i := by
  unfold kt3
  rw [w2_n (by omega), w2_n (by omega), w2_n (by omega), w2_n (by omega)]
theorem cx0 {sp : Nat} {J J5 X M K2 L2 : JI} (hsp : sp = 9 ∨ sp = 93) (h13 : 0 ≤ J 0 13 ∧ J 0 13 ≤ 400) (x7 : X 105 7 = J 0 13) (xt : ∀ i, 0 ≤ i → i < 400 → J 89 i = X 110 i) (hM : ∀ i : Nat, i < 5 → M 116 i = cws.getD (4 + i) 0) (gn : GN (jt4 sp J) J5) (x : NX (kt1 X) M K2 L2) : CX sp 0 0 J5 (kt3 K2) L2 := by
  have o := (NX_o x).1
  have go := GN_o gn
  have j2 : jt4 sp J 104 2 = J 0 13 := by
    unfold jt4
    rw [w2_n (by omega), w2_n (by omega), w2_n (by omega), w2_n (by omega), w2_n (by omega), fl_n (by omega), w2_ap, if_pos ⟨rfl, rfl⟩]
  have j5 : jt4 sp J 104 5 = 0 := by unfold jt4; rw [w2_n (by omega), w2_ap, if_pos ⟨rfl, rfl⟩]
  have j7 : jt4 sp J 104 7 = 0 := by unfold jt4; rw [w2_ap, if_pos ⟨rfl, rfl⟩]
  have j12 : jt4 sp J sp 12 = 0 := by unfold jt4; rw [w2_n (by omega), w2_n (by omega), w2_ap, if_pos ⟨rfl, rfl⟩]
  have j11 : jt4 sp J sp 11 = 0 := by unfold jt4; rw [w2_n (by omega), w2_n (by omega), w2_n (by omega), w2_ap, if_pos ⟨rfl, rfl⟩]
  have k9 : kt1 X 105 9 = 0 := by unfold kt1; rw [w2_n (by omega), w2_n (by omega), w2_ap, if_pos ⟨rfl, rfl⟩]
  have k13 : kt1 X 105 13 = 0 := by unfold kt1; rw [w2_n (by omega), w2_ap, if_pos ⟨rfl, rfl⟩]
  have tk := TK_of (J := jt4 sp J) (K := kt1 X) (by rw [j2, kt1_n (by omega)]; exact x7.symm) (by rw [j2]; omega) (fun i a b => by rw [j2] at b; rw [jt4_n (by omega) (by omega) (by omega), kt1_n (by omega)]; exact xt i a (by omega)) (by rw [j5, k9]) (by rw [j5]; omega) gn x
  have t4 := tk.1.2.2.2.1
  refine ⟨⟨TK_c tk.1 (fun _ _ _ => rfl) (fun _ => rfl) (fun i _ _ => kt3_n (by omega)) (fun i => kt3_n (by omega)) rfl, ?_, ?_, ?_, ?_, fun i hi => ?_⟩, ⟨fun w a b => absurd a (by omega), fun c a b => absurd a (by omega)⟩, ⟨?_, by omega, by omega⟩, ⟨?_, ?_, by omega, by omega⟩, fun i a b => ?_⟩
  · rw [kt3_n (by omega), o _ _ (by omega)]; exact k13
  · rw [go _ _ (by omega), j7]; exact ⟨rfl, by omega, by omega⟩
  · have : kt3 K2 105 16 = 0 := rfl
    rw [this]; omega
  · rw [go _ _ (by omega), j12]; omega
  · rw [(NX_o x).2 _ _ (by omega)]; exact hM i hi
  · rfl
  · rfl
  · rw [go _ _ (by omega), j11]
  · rw [go _ _ (by omega)]
    unfold jt4
    rw [w2_n (by omega), w2_n (by omega), w2_n (by omega), w2_n (by omega), w2_n (by omega), fl_p (by omega)]
