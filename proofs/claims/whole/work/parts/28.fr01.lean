def WI_126 : List (Nat × Nat) := []
def WL_126 : List (Nat × Nat) := []
set_option maxHeartbeats 8000000 in
set_option maxRecDepth 100000 in
theorem fa_126 : ∀ (n dp : Nat) (e : EN) (I : (Nat → Nat → Int32)) (L : (Nat → Nat → Int64)) (i1 : Int32) (i2 : Int32), Pc (g_126 n dp e 0 I L i1 i2) (F3 WI_126 WL_126 I L) := by
  intro n
  induction n with
  | zero => intro dp e I L i1 i2; exact Pc_none
  | succ n ih =>
    intro dp e I L i1 i2
    · rw [e_126_0]
      repeat' first
        | with_reducible exact Pc_none
        | with_reducible exact Pc_s3
        | with_reducible refine Pc_ite ?_ ?_
theorem f_126_0 (n dp : Nat) (e : EN) (I : (Nat → Nat → Int32)) (L : (Nat → Nat → Int64)) (i1 : Int32) (i2 : Int32) : Pc (g_126 n dp e 0 I L i1 i2) (F3 WI_126 WL_126 I L) := (fa_126 n dp e I L i1 i2)
def WI_132 : List (Nat × Nat) := []
def WL_132 : List (Nat × Nat) := []
set_option maxHeartbeats 8000000 in
set_option maxRecDepth 100000 in
theorem fa_132 : ∀ (n dp : Nat) (e : EN) (I : (Nat → Nat → Int32)) (L : (Nat → Nat → Int64)) (i1 : Int32) (i2 : Int32) (i3 : Int32) (i4 : Int32) (i5 : Int32), Pc (g_132 n dp e 0 I L i1 i2 i3 i4 i5) (F3 WI_132 WL_132 I L) ∧
    Pc (g_132 n dp e 1 I L i1 i2 i3 i4 i5) (F3 WI_132 WL_132 I L) ∧
    Pc (g_132 n dp e 2 I L i1 i2 i3 i4 i5) (F3 WI_132 WL_132 I L) ∧
    Pc (g_132 n dp e 3 I L i1 i2 i3 i4 i5) (F3 WI_132 WL_132 I L) := by
  intro n
  induction n with
  | zero => intro dp e I L i1 i2 i3 i4 i5; exact ⟨Pc_none, Pc_none, Pc_none, Pc_none⟩
  | succ n ih =>
    intro dp e I L i1 i2 i3 i4 i5
    refine ⟨?_, ?_, ?_, ?_⟩
    · rw [e_132_0]
      repeat' first
        | with_reducible exact Pc_none
        | with_reducible exact Pc_s3
        | with_reducible exact (ih _ _ _ _ _ _ _ _ _).2.1
    · rw [e_132_1]
      repeat' first
        | with_reducible exact Pc_none
        | with_reducible exact Pc_s3
        | with_reducible refine Pc_ite ?_ ?_
        | with_reducible exact (ih _ _ _ _ _ _ _ _ _).2.2.1
    · rw [e_132_2]
      repeat' first
        | with_reducible exact Pc_none
        | with_reducible exact Pc_s3
        | with_reducible refine Pc_ite ?_ ?_
        | with_reducible exact (ih _ _ _ _ _ _ _ _ _).2.2.2
        | with_reducible exact (ih _ _ _ _ _ _ _ _ _).2.2.1
        | with_reducible refine Pc_bR ?_
        | with_reducible refine Pc_st (fun _ => ?_)
    · rw [e_132_3]
      repeat' first
        | with_reducible exact Pc_none
        | with_reducible exact Pc_s3
        | with_reducible refine Pc_ite ?_ ?_
        | with_reducible exact (ih _ _ _ _ _ _ _ _ _).2.1
        | with_reducible refine Pc_st (fun _ => ?_)
theorem f_132_0 (n dp : Nat) (e : EN) (I : (Nat → Nat → Int32)) (L : (Nat → Nat → Int64)) (i1 : Int32) (i2 : Int32) (i3 : Int32) (i4 : Int32) (i5 : Int32) : Pc (g_132 n dp e 0 I L i1 i2 i3 i4 i5) (F3 WI_132 WL_132 I L) := (fa_132 n dp e I L i1 i2 i3 i4 i5).1
theorem f_132_1 (n dp : Nat) (e : EN) (I : (Nat → Nat → Int32)) (L : (Nat → Nat → Int64)) (i1 : Int32) (i2 : Int32) (i3 : Int32) (i4 : Int32) (i5 : Int32) : Pc (g_132 n dp e 1 I L i1 i2 i3 i4 i5) (F3 WI_132 WL_132 I L) := (fa_132 n dp e I L i1 i2 i3 i4 i5).2.1
theorem f_132_2 (n dp : Nat) (e : EN) (I : (Nat → Nat → Int32)) (L : (Nat → Nat → Int64)) (i1 : Int32) (i2 : Int32) (i3 : Int32) (i4 : Int32) (i5 : Int32) : Pc (g_132 n dp e 2 I L i1 i2 i3 i4 i5) (F3 WI_132 WL_132 I L) := (fa_132 n dp e I L i1 i2 i3 i4 i5).2.2.1
theorem f_132_3 (n dp : Nat) (e : EN) (I : (Nat → Nat → Int32)) (L : (Nat → Nat → Int64)) (i1 : Int32) (i2 : Int32) (i3 : Int32) (i4 : Int32) (i5 : Int32) : Pc (g_132 n dp e 3 I L i1 i2 i3 i4 i5) (F3 WI_132 WL_132 I L) := (fa_132 n dp e I L i1 i2 i3 i4 i5).2.2.2
def WI_135 : List (Nat × Nat) := []
def WL_135 : List (Nat × Nat) := []
set_option maxHeartbeats 8000000 in
set_option maxRecDepth 100000 in
theorem fa_135 : ∀ (n dp : Nat) (e : EN) (I : (Nat → Nat → Int32)) (L : (Nat → Nat → Int64)) (i1 : Int32), Pc (g_135 n dp e 0 I L i1) (F3 WI_135 WL_135 I L) := by
  intro n
  induction n with
  | zero => intro dp e I L i1; exact Pc_none
  | succ n ih =>
    intro dp e I L i1
    · rw [e_135_0]
      repeat' first
        | with_reducible exact Pc_none
        | with_reducible exact Pc_s3
        | with_reducible refine Pc_ite ?_ ?_
        | ((with_reducible refine Pc_c33 (f_121_0 _ _ _ _ _ _) ?_ ?_ (fun _ _ _ => ?_)); exact (sbs_of rfl); exact sbs_of rfl; dsimp only)
theorem f_135_0 (n dp : Nat) (e : EN) (I : (Nat → Nat → Int32)) (L : (Nat → Nat → Int64)) (i1 : Int32) : Pc (g_135 n dp e 0 I L i1) (F3 WI_135 WL_135 I L) := (fa_135 n dp e I L i1)
def WI_136 : List (Nat × Nat) := [(6, 0), (0, 0), (92, 0)]
def WL_136 : List (Nat × Nat) := []
set_option maxHeartbeats 8000000 in
set_option maxRecDepth 100000 in
theorem fa_136 : ∀ (n dp : Nat) (e : EN) (I : (Nat → Nat → Int32)) (L : (Nat → Nat → Int64)) (i1 : Int32) (i2 : Int32), Pc (g_136 n dp e 0 I L i1 i2) (F3 WI_136 WL_136 I L) := by
  intro n
  induction n with
  | zero => intro dp e I L i1 i2; exact Pc_none
  | succ n ih =>
    intro dp e I L i1 i2
    · rw [e_136_0]
      repeat' first
        | with_reducible exact Pc_none
        | with_reducible exact Pc_s3
        | with_reducible refine Pc_ite ?_ ?_
        | ((with_reducible refine Pc_c33 (f_14_0 _ _ _ _ _ _ _ _) ?_ ?_ (fun _ _ _ => ?_)); exact (sbs_of rfl); exact sbs_of rfl; dsimp only)
        | ((with_reducible refine Pc_c33 (f_15_0 _ _ _ _ _ _) ?_ ?_ (fun _ _ _ => ?_)); exact (sbs_of rfl); exact sbs_of rfl; dsimp only)
        | ((with_reducible refine Pc_c33 (f_19_0 _ _ _ _ _ _) ?_ ?_ (fun _ _ _ => ?_)); exact (sbs_of rfl); exact sbs_of rfl; dsimp only)
        | ((with_reducible refine Pc_u3 ?_ (fun _ => ?_)); exact rfl)
        | with_reducible refine Pc_st (fun _ => ?_)
theorem f_136_0 (n dp : Nat) (e : EN) (I : (Nat → Nat → Int32)) (L : (Nat → Nat → Int64)) (i1 : Int32) (i2 : Int32) : Pc (g_136 n dp e 0 I L i1 i2) (F3 WI_136 WL_136 I L) := (fa_136 n dp e I L i1 i2)
def WI_140 : List (Nat × Nat) := []
def WL_140 : List (Nat × Nat) := []
set_option maxHeartbeats 8000000 in
set_option maxRecDepth 100000 in
theorem fa_140 : ∀ (n dp : Nat) (e : EN) (I : (Nat → Nat → Int32)) (L : (Nat → Nat → Int64)) (i1 : Int32), Pc (g_140 n dp e 0 I L i1) (F3 WI_140 WL_140 I L) := by
  intro n
  induction n with
  | zero => intro dp e I L i1; exact Pc_none
  | succ n ih =>
    intro dp e I L i1
    · rw [e_140_0]
      repeat' first
        | with_reducible exact Pc_none
        | with_reducible exact Pc_s3
        | with_reducible refine Pc_ite ?_ ?_
        | ((with_reducible refine Pc_c33 (f_121_0 _ _ _ _ _ _) ?_ ?_ (fun _ _ _ => ?_)); exact (sbs_of rfl); exact sbs_of rfl; dsimp only)
        | with_reducible refine Pc_bR ?_
        | with_reducible refine Pc_st (fun _ => ?_)
theorem f_140_0 (n dp : Nat) (e : EN) (I : (Nat → Nat → Int32)) (L : (Nat → Nat → Int64)) (i1 : Int32) : Pc (g_140 n dp e 0 I L i1) (F3 WI_140 WL_140 I L) := (fa_140 n dp e I L i1)
def WI_139 : List (Nat × Nat) := []
def WL_139 : List (Nat × Nat) := []
set_option maxHeartbeats 8000000 in
set_option maxRecDepth 100000 in
theorem fa_139 : ∀ (n dp : Nat) (e : EN) (I : (Nat → Nat → Int32)) (L : (Nat → Nat → Int64)) (i1 : Int32) (i2 : Int32) (i3 : Int32) (i4 : Int32), Pc (g_139 n dp e 0 I L i1 i2 i3 i4) (F3 WI_139 WL_139 I L) ∧
    Pc (g_139 n dp e 1 I L i1 i2 i3 i4) (F3 WI_139 WL_139 I L) := by
  intro n
  induction n with
  | zero => intro dp e I L i1 i2 i3 i4; exact ⟨Pc_none, Pc_none⟩
  | succ n ih =>
    intro dp e I L i1 i2 i3 i4
    refine ⟨?_, ?_⟩
    · rw [e_139_0]
      repeat' first
        | with_reducible exact Pc_none
        | with_reducible exact Pc_s3
        | with_reducible refine Pc_ite ?_ ?_
        | ((with_reducible refine Pc_c33 (f_16_0 _ _ _ _ _) ?_ ?_ (fun _ _ _ => ?_)); exact (sbs_of rfl); exact sbs_of rfl; dsimp only)
        | with_reducible exact (ih _ _ _ _ _ _ _ _).2
    · rw [e_139_1]
      repeat' first
        | with_reducible exact Pc_none
        | with_reducible exact Pc_s3
        | with_reducible refine Pc_ite ?_ ?_
        | ((with_reducible refine Pc_c33 (f_121_0 _ _ _ _ _ _) ?_ ?_ (fun _ _ _ => ?_)); exact (sbs_of rfl); exact sbs_of rfl; dsimp only)
        | ((with_reducible refine Pc_c33 (f_140_0 _ _ _ _ _ _) ?_ ?_ (fun _ _ _ => ?_)); exact (sbs_of rfl); exact sbs_of rfl; dsimp only)
        | with_reducible exact (ih _ _ _ _ _ _ _ _).2
        | with_reducible refine Pc_bR ?_
        | with_reducible refine Pc_st (fun _ => ?_)
theorem f_139_0 (n dp : Nat) (e : EN) (I : (Nat → Nat → Int32)) (L : (Nat → Nat → Int64)) (i1 : Int32) (i2 : Int32) (i3 : Int32) (i4 : Int32) : Pc (g_139 n dp e 0 I L i1 i2 i3 i4) (F3 WI_139 WL_139 I L) := (fa_139 n dp e I L i1 i2 i3 i4).1
theorem f_139_1 (n dp : Nat) (e : EN) (I : (Nat → Nat → Int32)) (L : (Nat → Nat → Int64)) (i1 : Int32) (i2 : Int32) (i3 : Int32) (i4 : Int32) : Pc (g_139 n dp e 1 I L i1 i2 i3 i4) (F3 WI_139 WL_139 I L) := (fa_139 n dp e I L i1 i2 i3 i4).2
def WI_141 : List (Nat × Nat) := []
def WL_141 : List (Nat × Nat) := []
set_option maxHeartbeats 8000000 in
set_option maxRecDepth 100000 in
theorem fa_141 : ∀ (n dp : Nat) (e : EN) (I : (Nat → Nat → Int32)) (L : (Nat → Nat → Int64)) (i1 : Int32) (i2 : Int32), Pc (g_141 n dp e 0 I L i1 i2) (F3 WI_141 WL_141 I L) := by
  intro n
  induction n with
  | zero => intro dp e I L i1 i2; exact Pc_none
  | succ n ih =>
    intro dp e I L i1 i2
    · rw [e_141_0]
      repeat' first
        | with_reducible exact Pc_none
        | with_reducible exact Pc_s3
        | with_reducible refine Pc_ite ?_ ?_
        | with_reducible refine Pc_st (fun _ => ?_)
theorem f_141_0 (n dp : Nat) (e : EN) (I : (Nat → Nat → Int32)) (L : (Nat → Nat → Int64)) (i1 : Int32) (i2 : Int32) : Pc (g_141 n dp e 0 I L i1 i2) (F3 WI_141 WL_141 I L) := (fa_141 n dp e I L i1 i2)
def WI_138 : List (Nat × Nat) := []
def WL_138 : List (Nat × Nat) := []
set_option maxHeartbeats 8000000 in
set_option maxRecDepth 100000 in
theorem fa_138 : ∀ (n dp : Nat) (e : EN) (I : (Nat → Nat → Int32)) (L : (Nat → Nat → Int64)) (i1 : Int32) (i2 : Int32), Pc (g_138 n dp e 0 I L i1 i2) (F3 WI_138 WL_138 I L) ∧
    Pc (g_138 n dp e 1 I L i1 i2) (F3 WI_138 WL_138 I L) := by
  intro n
  induction n with
  | zero => intro dp e I L i1 i2; exact ⟨Pc_none, Pc_none⟩
  | succ n ih =>
    intro dp e I L i1 i2
    refine ⟨?_, ?_⟩
    · rw [e_138_0]
      repeat' first
        | with_reducible exact Pc_none
        | with_reducible exact Pc_s3
        | with_reducible exact (ih _ _ _ _ _ _).2
    · rw [e_138_1]
      repeat' first
        | with_reducible exact Pc_none
        | with_reducible exact Pc_s3
        | with_reducible refine Pc_ite ?_ ?_
        | ((with_reducible refine Pc_c33 (f_139_0 _ _ _ _ _ _ _ _ _) ?_ ?_ (fun _ _ _ => ?_)); exact (sbs_of rfl); exact sbs_of rfl; dsimp only)
        | ((with_reducible refine Pc_c33 (f_141_0 _ _ _ _ _ _ _) ?_ ?_ (fun _ _ _ => ?_)); exact (sbs_of rfl); exact sbs_of rfl; dsimp only)
        | with_reducible exact (ih _ _ _ _ _ _).2
theorem f_138_0 (n dp : Nat) (e : EN) (I : (Nat → Nat → Int32)) (L : (Nat → Nat → Int64)) (i1 : Int32) (i2 : Int32) : Pc (g_138 n dp e 0 I L i1 i2) (F3 WI_138 WL_138 I L) := (fa_138 n dp e I L i1 i2).1
theorem f_138_1 (n dp : Nat) (e : EN) (I : (Nat → Nat → Int32)) (L : (Nat → Nat → Int64)) (i1 : Int32) (i2 : Int32) : Pc (g_138 n dp e 1 I L i1 i2) (F3 WI_138 WL_138 I L) := (fa_138 n dp e I L i1 i2).2
def WI_142 : List (Nat × Nat) := []
def WL_142 : List (Nat × Nat) := []
set_option maxHeartbeats 8000000 in
set_option maxRecDepth 100000 in
theorem fa_142 : ∀ (n dp : Nat) (e : EN) (I : (Nat → Nat → Int32)) (L : (Nat → Nat → Int64)) (i1 : Int32) (i2 : Int32) (i3 : Int32), Pc (g_142 n dp e 0 I L i1 i2 i3) (F3 WI_142 WL_142 I L) ∧
    Pc (g_142 n dp e 1 I L i1 i2 i3) (F3 WI_142 WL_142 I L) ∧
    Pc (g_142 n dp e 2 I L i1 i2 i3) (F3 WI_142 WL_142 I L) := by
  intro n
  induction n with
  | zero => intro dp e I L i1 i2 i3; exact ⟨Pc_none, Pc_none, Pc_none⟩
  | succ n ih =>
    intro dp e I L i1 i2 i3
    refine ⟨?_, ?_, ?_⟩
    · rw [e_142_0]
      repeat' first
        | with_reducible exact Pc_none
        | with_reducible exact Pc_s3
        | with_reducible refine Pc_ite ?_ ?_
        | ((with_reducible refine Pc_c33 (f_16_0 _ _ _ _ _) ?_ ?_ (fun _ _ _ => ?_)); exact (sbs_of rfl); exact sbs_of rfl; dsimp only)
        | with_reducible exact (ih _ _ _ _ _ _ _).2.1
    · rw [e_142_1]
      repeat' first
        | with_reducible exact Pc_none
        | with_reducible exact Pc_s3
        | with_reducible refine Pc_ite ?_ ?_
        | ((with_reducible refine Pc_c33 (f_140_0 _ _ _ _ _ _) ?_ ?_ (fun _ _ _ => ?_)); exact (sbs_of rfl); exact sbs_of rfl; dsimp only)
        | with_reducible exact (ih _ _ _ _ _ _ _).2.2
    · rw [e_142_2]
      repeat' first
        | with_reducible exact Pc_none
        | with_reducible exact Pc_s3
        | with_reducible exact (ih _ _ _ _ _ _ _).2.1
theorem f_142_0 (n dp : Nat) (e : EN) (I : (Nat → Nat → Int32)) (L : (Nat → Nat → Int64)) (i1 : Int32) (i2 : Int32) (i3 : Int32) : Pc (g_142 n dp e 0 I L i1 i2 i3) (F3 WI_142 WL_142 I L) := (fa_142 n dp e I L i1 i2 i3).1
theorem f_142_1 (n dp : Nat) (e : EN) (I : (Nat → Nat → Int32)) (L : (Nat → Nat → Int64)) (i1 : Int32) (i2 : Int32) (i3 : Int32) : Pc (g_142 n dp e 1 I L i1 i2 i3) (F3 WI_142 WL_142 I L) := (fa_142 n dp e I L i1 i2 i3).2.1
theorem f_142_2 (n dp : Nat) (e : EN) (I : (Nat → Nat → Int32)) (L : (Nat → Nat → Int64)) (i1 : Int32) (i2 : Int32) (i3 : Int32) : Pc (g_142 n dp e 2 I L i1 i2 i3) (F3 WI_142 WL_142 I L) := (fa_142 n dp e I L i1 i2 i3).2.2
def WI_143 : List (Nat × Nat) := []
def WL_143 : List (Nat × Nat) := []
set_option maxHeartbeats 8000000 in
set_option maxRecDepth 100000 in
theorem fa_143 : ∀ (n dp : Nat) (e : EN) (I : (Nat → Nat → Int32)) (L : (Nat → Nat → Int64)) (i1 : Int32) (i2 : Int32), Pc (g_143 n dp e 0 I L i1 i2) (F3 WI_143 WL_143 I L) ∧
    Pc (g_143 n dp e 1 I L i1 i2) (F3 WI_143 WL_143 I L) := by
  intro n
  induction n with
  | zero => intro dp e I L i1 i2; exact ⟨Pc_none, Pc_none⟩
  | succ n ih =>
    intro dp e I L i1 i2
    refine ⟨?_, ?_⟩
    · rw [e_143_0]
      repeat' first
        | with_reducible exact Pc_none
        | with_reducible exact Pc_s3
        | with_reducible exact (ih _ _ _ _ _ _).2
    · rw [e_143_1]
      repeat' first
        | with_reducible exact Pc_none
        | with_reducible exact Pc_s3
        | with_reducible refine Pc_ite ?_ ?_
        | ((with_reducible refine Pc_c33 (f_139_0 _ _ _ _ _ _ _ _ _) ?_ ?_ (fun _ _ _ => ?_)); exact (sbs_of rfl); exact sbs_of rfl; dsimp only)
        | ((with_reducible refine Pc_c33 (f_126_0 _ _ _ _ _ _ _) ?_ ?_ (fun _ _ _ => ?_)); exact (sbs_of rfl); exact sbs_of rfl; dsimp only)
        | with_reducible exact (ih _ _ _ _ _ _).2
theorem f_143_0 (n dp : Nat) (e : EN) (I : (Nat → Nat → Int32)) (L : (Nat → Nat → Int64)) (i1 : Int32) (i2 : Int32) : Pc (g_143 n dp e 0 I L i1 i2) (F3 WI_143 WL_143 I L) := (fa_143 n dp e I L i1 i2).1
theorem f_143_1 (n dp : Nat) (e : EN) (I : (Nat → Nat → Int32)) (L : (Nat → Nat → Int64)) (i1 : Int32) (i2 : Int32) : Pc (g_143 n dp e 1 I L i1 i2) (F3 WI_143 WL_143 I L) := (fa_143 n dp e I L i1 i2).2
def WI_146 : List (Nat × Nat) := [(77, 0), (74, 0), (75, 0), (22, 0), (21, 0), (23, 0)]
def WL_146 : List (Nat × Nat) := []
set_option maxHeartbeats 8000000 in
set_option maxRecDepth 100000 in
theorem fa_146 : ∀ (n dp : Nat) (e : EN) (I : (Nat → Nat → Int32)) (L : (Nat → Nat → Int64)) (i1 : Int32) (i2 : Int32) (i4 : Int32) (i5 : Int32) (i6 : Int32) (a3 : Nat), Pc (g_146 n dp e 0 I L i1 i2 i4 i5 i6 a3) (F2 WI_146 WL_146 I L) ∧
    Pc (g_146 n dp e 1 I L i1 i2 i4 i5 i6 a3) (F2 WI_146 WL_146 I L) ∧
    Pc (g_146 n dp e 2 I L i1 i2 i4 i5 i6 a3) (F2 WI_146 WL_146 I L) ∧
    Pc (g_146 n dp e 3 I L i1 i2 i4 i5 i6 a3) (F2 WI_146 WL_146 I L) ∧
    Pc (g_146 n dp e 4 I L i1 i2 i4 i5 i6 a3) (F2 WI_146 WL_146 I L) := by
  intro n
  induction n with
  | zero => intro dp e I L i1 i2 i4 i5 i6 a3; exact ⟨Pc_none, Pc_none, Pc_none, Pc_none, Pc_none⟩
  | succ n ih =>
    intro dp e I L i1 i2 i4 i5 i6 a3
    refine ⟨?_, ?_, ?_, ?_, ?_⟩
    · rw [e_146_0]
      repeat' first
        | with_reducible exact Pc_none
        | with_reducible exact Pc_s2
        | with_reducible refine Pc_ite ?_ ?_
        | ((with_reducible refine Pc_c22 (f_36_0 _ _ _ _ _ _ _ _ _) ?_ ?_ (fun _ _ => ?_)); exact (sbs_cons (mem_at 0 rfl) (sbs_nil)); exact sbs_of rfl; dsimp only)
        | with_reducible exact (ih _ _ _ _ _ _ _ _ _ _).2.1
        | ((with_reducible refine Pc_u2 ?_ (fun _ => ?_)); exact rfl)
        | with_reducible refine Pc_bR ?_
        | with_reducible refine Pc_st (fun _ => ?_)
    · rw [e_146_1]
      repeat' first
        | with_reducible exact Pc_none
        | with_reducible exact Pc_s2
        | with_reducible refine Pc_ite ?_ ?_
        | with_reducible exact (ih _ _ _ _ _ _ _ _ _ _).2.2.2.2
        | ((with_reducible refine Pc_c32 (f_77_0 _ _ _ _ _ _ _ _ _ _) ?_ ?_ (fun _ _ _ => ?_)); exact (sbs_of rfl); exact sbs_of rfl; dsimp only)
        | with_reducible exact (ih _ _ _ _ _ _ _ _ _ _).2.2.1
        | ((with_reducible refine Pc_u2 ?_ (fun _ => ?_)); exact rfl)
        | with_reducible refine Pc_st (fun _ => ?_)
    · rw [e_146_2]
      repeat' first
        | with_reducible exact Pc_none
        | with_reducible exact Pc_s2
        | with_reducible exact (ih _ _ _ _ _ _ _ _ _ _).2.2.2.1
    · rw [e_146_3]
      repeat' first
        | with_reducible exact Pc_none
        | with_reducible exact Pc_s2
        | with_reducible refine Pc_ite ?_ ?_
        | with_reducible exact (ih _ _ _ _ _ _ _ _ _ _).2.2.2.2
        | with_reducible exact (ih _ _ _ _ _ _ _ _ _ _).2.2.2.1
        | ((with_reducible refine Pc_u2 ?_ (fun _ => ?_)); exact rfl)
        | with_reducible refine Pc_bR ?_
        | with_reducible refine Pc_st (fun _ => ?_)
    · rw [e_146_4]
      repeat' first
        | with_reducible exact Pc_none
        | with_reducible exact Pc_s2
        | with_reducible exact (ih _ _ _ _ _ _ _ _ _ _).2.1
theorem f_146_0 (n dp : Nat) (e : EN) (I : (Nat → Nat → Int32)) (L : (Nat → Nat → Int64)) (i1 : Int32) (i2 : Int32) (i4 : Int32) (i5 : Int32) (i6 : Int32) (a3 : Nat) : Pc (g_146 n dp e 0 I L i1 i2 i4 i5 i6 a3) (F2 WI_146 WL_146 I L) := (fa_146 n dp e I L i1 i2 i4 i5 i6 a3).1
theorem f_146_1 (n dp : Nat) (e : EN) (I : (Nat → Nat → Int32)) (L : (Nat → Nat → Int64)) (i1 : Int32) (i2 : Int32) (i4 : Int32) (i5 : Int32) (i6 : Int32) (a3 : Nat) : Pc (g_146 n dp e 1 I L i1 i2 i4 i5 i6 a3) (F2 WI_146 WL_146 I L) := (fa_146 n dp e I L i1 i2 i4 i5 i6 a3).2.1
theorem f_146_2 (n dp : Nat) (e : EN) (I : (Nat → Nat → Int32)) (L : (Nat → Nat → Int64)) (i1 : Int32) (i2 : Int32) (i4 : Int32) (i5 : Int32) (i6 : Int32) (a3 : Nat) : Pc (g_146 n dp e 2 I L i1 i2 i4 i5 i6 a3) (F2 WI_146 WL_146 I L) := (fa_146 n dp e I L i1 i2 i4 i5 i6 a3).2.2.1
theorem f_146_3 (n dp : Nat) (e : EN) (I : (Nat → Nat → Int32)) (L : (Nat → Nat → Int64)) (i1 : Int32) (i2 : Int32) (i4 : Int32) (i5 : Int32) (i6 : Int32) (a3 : Nat) : Pc (g_146 n dp e 3 I L i1 i2 i4 i5 i6 a3) (F2 WI_146 WL_146 I L) := (fa_146 n dp e I L i1 i2 i4 i5 i6 a3).2.2.2.1
theorem f_146_4 (n dp : Nat) (e : EN) (I : (Nat → Nat → Int32)) (L : (Nat → Nat → Int64)) (i1 : Int32) (i2 : Int32) (i4 : Int32) (i5 : Int32) (i6 : Int32) (a3 : Nat) : Pc (g_146 n dp e 4 I L i1 i2 i4 i5 i6 a3) (F2 WI_146 WL_146 I L) := (fa_146 n dp e I L i1 i2 i4 i5 i6 a3).2.2.2.2
def WI_145 : List (Nat × Nat) := [(73, 0), (74, 0), (75, 0), (77, 0), (22, 0), (21, 0), (23, 0), (78, 0)]
def WL_145 : List (Nat × Nat) := []
set_option maxHeartbeats 8000000 in
set_option maxRecDepth 100000 in
theorem fa_145 : ∀ (n dp : Nat) (e : EN) (I : (Nat → Nat → Int32)) (L : (Nat → Nat → Int64)) (i1 : Int32) (i2 : Int32), Pc (g_145 n dp e 0 I L i1 i2) (F2 WI_145 WL_145 I L) ∧
    Pc (g_145 n dp e 1 I L i1 i2) (F2 WI_145 WL_145 I L) ∧
    Pc (g_145 n dp e 2 I L i1 i2) (F2 WI_145 WL_145 I L) ∧
    Pc (g_145 n dp e 3 I L i1 i2) (F2 WI_145 WL_145 I L) := by
  intro n
  induction n with
  | zero => intro dp e I L i1 i2; exact ⟨Pc_none, Pc_none, Pc_none, Pc_none⟩
  | succ n ih =>
    intro dp e I L i1 i2
    refine ⟨?_, ?_, ?_, ?_⟩
    · rw [e_145_0]
      repeat' first
        | with_reducible exact Pc_none
        | with_reducible exact Pc_s2
        | with_reducible refine Pc_ite ?_ ?_
        | ((with_reducible refine Pc_c22 (f_36_0 _ _ _ _ _ _ _ _ _) ?_ ?_ (fun _ _ => ?_)); exact (sbs_cons (mem_at 1 rfl) (sbs_nil)); exact sbs_of rfl; dsimp only)
        | ((with_reducible refine Pc_c22 (f_36_0 _ _ _ _ _ _ _ _ _) ?_ ?_ (fun _ _ => ?_)); exact (sbs_cons (mem_at 2 rfl) (sbs_nil)); exact sbs_of rfl; dsimp only)
        | ((with_reducible refine Pc_c32 (f_16_0 _ _ _ _ _) ?_ ?_ (fun _ _ _ => ?_)); exact (sbs_of rfl); exact sbs_of rfl; dsimp only)
        | with_reducible exact (ih _ _ _ _ _ _).2.1
        | ((with_reducible refine Pc_u2 ?_ (fun _ => ?_)); exact rfl)
        | with_reducible refine Pc_st (fun _ => ?_)
    · rw [e_145_1]
      repeat' first
        | with_reducible exact Pc_none
        | with_reducible exact Pc_s2
        | with_reducible refine Pc_ite ?_ ?_
        | with_reducible exact (ih _ _ _ _ _ _).2.2.1
        | ((with_reducible refine Pc_c32 (f_121_0 _ _ _ _ _ _) ?_ ?_ (fun _ _ _ => ?_)); exact (sbs_of rfl); exact sbs_of rfl; dsimp only)
        | ((with_reducible refine Pc_c22 (f_146_0 _ _ _ _ _ _ _ _ _ _ _) ?_ ?_ (fun _ _ => ?_)); exact (sbs_of rfl); exact sbs_of rfl; dsimp only)
        | with_reducible exact (ih _ _ _ _ _ _).2.1
        | ((with_reducible refine Pc_u2 ?_ (fun _ => ?_)); exact rfl)
        | with_reducible refine Pc_st (fun _ => ?_)
    · rw [e_145_2]
      repeat' first
        | with_reducible exact Pc_none
        | with_reducible exact Pc_s2
        | with_reducible refine Pc_ite ?_ ?_
        | with_reducible exact (ih _ _ _ _ _ _).2.2.2
        | ((with_reducible refine Pc_u2 ?_ (fun _ => ?_)); exact rfl)
        | with_reducible refine Pc_st (fun _ => ?_)
    · rw [e_145_3]
      repeat' first
        | with_reducible exact Pc_none
        | with_reducible exact Pc_s2
        | with_reducible exact (ih _ _ _ _ _ _).2.2.1
theorem f_145_0 (n dp : Nat) (e : EN) (I : (Nat → Nat → Int32)) (L : (Nat → Nat → Int64)) (i1 : Int32) (i2 : Int32) : Pc (g_145 n dp e 0 I L i1 i2) (F2 WI_145 WL_145 I L) := (fa_145 n dp e I L i1 i2).1
theorem f_145_1 (n dp : Nat) (e : EN) (I : (Nat → Nat → Int32)) (L : (Nat → Nat → Int64)) (i1 : Int32) (i2 : Int32) : Pc (g_145 n dp e 1 I L i1 i2) (F2 WI_145 WL_145 I L) := (fa_145 n dp e I L i1 i2).2.1
theorem f_145_2 (n dp : Nat) (e : EN) (I : (Nat → Nat → Int32)) (L : (Nat → Nat → Int64)) (i1 : Int32) (i2 : Int32) : Pc (g_145 n dp e 2 I L i1 i2) (F2 WI_145 WL_145 I L) := (fa_145 n dp e I L i1 i2).2.2.1
theorem f_145_3 (n dp : Nat) (e : EN) (I : (Nat → Nat → Int32)) (L : (Nat → Nat → Int64)) (i1 : Int32) (i2 : Int32) : Pc (g_145 n dp e 3 I L i1 i2) (F2 WI_145 WL_145 I L) := (fa_145 n dp e I L i1 i2).2.2.2
def WI_150 : List (Nat × Nat) := []
def WL_150 : List (Nat × Nat) := []
set_option maxHeartbeats 8000000 in
set_option maxRecDepth 100000 in
theorem fa_150 : ∀ (n dp : Nat) (e : EN) (I : (Nat → Nat → Int32)) (L : (Nat → Nat → Int64)) (i1 : Int32) (i2 : Int32) (i3 : Int32), Pc (g_150 n dp e 0 I L i1 i2 i3) (F3 WI_150 WL_150 I L) := by
  intro n
  induction n with
  | zero => intro dp e I L i1 i2 i3; exact Pc_none
  | succ n ih =>
    intro dp e I L i1 i2 i3
    · rw [e_150_0]
      repeat' first
        | with_reducible exact Pc_none
        | with_reducible exact Pc_s3
        | with_reducible refine Pc_ite ?_ ?_
theorem f_150_0 (n dp : Nat) (e : EN) (I : (Nat → Nat → Int32)) (L : (Nat → Nat → Int64)) (i1 : Int32) (i2 : Int32) (i3 : Int32) : Pc (g_150 n dp e 0 I L i1 i2 i3) (F3 WI_150 WL_150 I L) := (fa_150 n dp e I L i1 i2 i3)
def WI_149 : List (Nat × Nat) := [(78, 0)]
def WL_149 : List (Nat × Nat) := []
set_option maxHeartbeats 8000000 in
set_option maxRecDepth 100000 in
theorem fa_149 : ∀ (n dp : Nat) (e : EN) (I : (Nat → Nat → Int32)) (L : (Nat → Nat → Int64)) (i1 : Int32) (i2 : Int32) (i3 : Int32) (i4 : Int32), Pc (g_149 n dp e 0 I L i1 i2 i3 i4) (F2 WI_149 WL_149 I L) ∧
    Pc (g_149 n dp e 1 I L i1 i2 i3 i4) (F2 WI_149 WL_149 I L) ∧
    Pc (g_149 n dp e 2 I L i1 i2 i3 i4) (F2 WI_149 WL_149 I L) ∧
    Pc (g_149 n dp e 3 I L i1 i2 i3 i4) (F2 WI_149 WL_149 I L) := by
  intro n
  induction n with
  | zero => intro dp e I L i1 i2 i3 i4; exact ⟨Pc_none, Pc_none, Pc_none, Pc_none⟩
  | succ n ih =>
    intro dp e I L i1 i2 i3 i4
    refine ⟨?_, ?_, ?_, ?_⟩
    · rw [e_149_0]
      repeat' first
        | with_reducible exact Pc_none
        | with_reducible exact Pc_s2
        | with_reducible exact (ih _ _ _ _ _ _ _ _).2.1
    · rw [e_149_1]
      repeat' first
        | with_reducible exact Pc_none
        | with_reducible exact Pc_s2
        | with_reducible refine Pc_ite ?_ ?_
        | with_reducible exact (ih _ _ _ _ _ _ _ _).2.2.1
        | with_reducible refine Pc_st (fun _ => ?_)
    · rw [e_149_2]
      repeat' first
        | with_reducible exact Pc_none
        | with_reducible exact Pc_s2
        | with_reducible refine Pc_ite ?_ ?_
        | with_reducible exact (ih _ _ _ _ _ _ _ _).2.2.2
        | ((with_reducible refine Pc_c32 (f_150_0 _ _ _ _ _ _ _ _) ?_ ?_ (fun _ _ _ => ?_)); exact (sbs_of rfl); exact sbs_of rfl; dsimp only)
        | with_reducible exact (ih _ _ _ _ _ _ _ _).2.2.1
        | ((with_reducible refine Pc_u2 ?_ (fun _ => ?_)); exact rfl)
        | with_reducible refine Pc_st (fun _ => ?_)
    · rw [e_149_3]
      repeat' first
        | with_reducible exact Pc_none
        | with_reducible exact Pc_s2
        | with_reducible refine Pc_ite ?_ ?_
        | with_reducible exact (ih _ _ _ _ _ _ _ _).2.1
        | ((with_reducible refine Pc_u2 ?_ (fun _ => ?_)); exact rfl)
        | with_reducible refine Pc_st (fun _ => ?_)
theorem f_149_0 (n dp : Nat) (e : EN) (I : (Nat → Nat → Int32)) (L : (Nat → Nat → Int64)) (i1 : Int32) (i2 : Int32) (i3 : Int32) (i4 : Int32) : Pc (g_149 n dp e 0 I L i1 i2 i3 i4) (F2 WI_149 WL_149 I L) := (fa_149 n dp e I L i1 i2 i3 i4).1
theorem f_149_1 (n dp : Nat) (e : EN) (I : (Nat → Nat → Int32)) (L : (Nat → Nat → Int64)) (i1 : Int32) (i2 : Int32) (i3 : Int32) (i4 : Int32) : Pc (g_149 n dp e 1 I L i1 i2 i3 i4) (F2 WI_149 WL_149 I L) := (fa_149 n dp e I L i1 i2 i3 i4).2.1
theorem f_149_2 (n dp : Nat) (e : EN) (I : (Nat → Nat → Int32)) (L : (Nat → Nat → Int64)) (i1 : Int32) (i2 : Int32) (i3 : Int32) (i4 : Int32) : Pc (g_149 n dp e 2 I L i1 i2 i3 i4) (F2 WI_149 WL_149 I L) := (fa_149 n dp e I L i1 i2 i3 i4).2.2.1
theorem f_149_3 (n dp : Nat) (e : EN) (I : (Nat → Nat → Int32)) (L : (Nat → Nat → Int64)) (i1 : Int32) (i2 : Int32) (i3 : Int32) (i4 : Int32) : Pc (g_149 n dp e 3 I L i1 i2 i3 i4) (F2 WI_149 WL_149 I L) := (fa_149 n dp e I L i1 i2 i3 i4).2.2.2
def WI_152 : List (Nat × Nat) := [(73, 0), (76, 0)]
def WL_152 : List (Nat × Nat) := []
set_option maxHeartbeats 8000000 in
set_option maxRecDepth 100000 in
theorem fa_152 : ∀ (n dp : Nat) (e : EN) (I : (Nat → Nat → Int32)) (L : (Nat → Nat → Int64)) (i1 : Int32) (i2 : Int32), Pc (g_152 n dp e 0 I L i1 i2) (F2 WI_152 WL_152 I L) ∧
    Pc (g_152 n dp e 1 I L i1 i2) (F2 WI_152 WL_152 I L) := by
  intro n
  induction n with
  | zero => intro dp e I L i1 i2; exact ⟨Pc_none, Pc_none⟩
  | succ n ih =>
    intro dp e I L i1 i2
    refine ⟨?_, ?_⟩
    · rw [e_152_0]
      repeat' first
        | with_reducible exact Pc_none
        | with_reducible exact Pc_s2
        | with_reducible exact (ih _ _ _ _ _ _).2
        | ((with_reducible refine Pc_u2 ?_ (fun _ => ?_)); exact rfl)
        | with_reducible refine Pc_st (fun _ => ?_)
    · rw [e_152_1]
      repeat' first
        | with_reducible exact Pc_none
        | with_reducible exact Pc_s2
        | with_reducible refine Pc_ite ?_ ?_
        | with_reducible exact (ih _ _ _ _ _ _).2
        | ((with_reducible refine Pc_u2 ?_ (fun _ => ?_)); exact rfl)
        | with_reducible refine Pc_st (fun _ => ?_)
theorem f_152_0 (n dp : Nat) (e : EN) (I : (Nat → Nat → Int32)) (L : (Nat → Nat → Int64)) (i1 : Int32) (i2 : Int32) : Pc (g_152 n dp e 0 I L i1 i2) (F2 WI_152 WL_152 I L) := (fa_152 n dp e I L i1 i2).1
theorem f_152_1 (n dp : Nat) (e : EN) (I : (Nat → Nat → Int32)) (L : (Nat → Nat → Int64)) (i1 : Int32) (i2 : Int32) : Pc (g_152 n dp e 1 I L i1 i2) (F2 WI_152 WL_152 I L) := (fa_152 n dp e I L i1 i2).2
def WI_153 : List (Nat × Nat) := []
def WL_153 : List (Nat × Nat) := []
set_option maxHeartbeats 8000000 in
set_option maxRecDepth 100000 in
theorem fa_153 : ∀ (n dp : Nat) (e : EN) (I : (Nat → Nat → Int32)) (L : (Nat → Nat → Int64)) (i1 : Int32) (i2 : Int32), Pc (g_153 n dp e 0 I L i1 i2) (F3 WI_153 WL_153 I L) := by
  intro n
  induction n with
  | zero => intro dp e I L i1 i2; exact Pc_none
  | succ n ih =>
    intro dp e I L i1 i2
    · rw [e_153_0]
      repeat' first
        | with_reducible exact Pc_none
        | with_reducible exact Pc_s3
        | with_reducible refine Pc_ite ?_ ?_
theorem f_153_0 (n dp : Nat) (e : EN) (I : (Nat → Nat → Int32)) (L : (Nat → Nat → Int64)) (i1 : Int32) (i2 : Int32) : Pc (g_153 n dp e 0 I L i1 i2) (F3 WI_153 WL_153 I L) := (fa_153 n dp e I L i1 i2)
def WI_154 : List (Nat × Nat) := []
def WL_154 : List (Nat × Nat) := []
set_option maxHeartbeats 8000000 in
set_option maxRecDepth 100000 in
theorem fa_154 : ∀ (n dp : Nat) (e : EN) (I : (Nat → Nat → Int32)) (L : (Nat → Nat → Int64)) (i1 : Int32) (i2 : Int32), Pc (g_154 n dp e 0 I L i1 i2) (F3 WI_154 WL_154 I L) ∧
    Pc (g_154 n dp e 1 I L i1 i2) (F3 WI_154 WL_154 I L) ∧
    Pc (g_154 n dp e 2 I L i1 i2) (F3 WI_154 WL_154 I L) := by
  intro n
  induction n with
  | zero => intro dp e I L i1 i2; exact ⟨Pc_none, Pc_none, Pc_none⟩
  | succ n ih =>
    intro dp e I L i1 i2
    refine ⟨?_, ?_, ?_⟩
    · rw [e_154_0]
      repeat' first
        | with_reducible exact Pc_none
        | with_reducible exact Pc_s3
        | with_reducible exact (ih _ _ _ _ _ _).2.1
    · rw [e_154_1]
      repeat' first
        | with_reducible exact Pc_none
        | with_reducible exact Pc_s3
        | with_reducible refine Pc_ite ?_ ?_
        | with_reducible exact (ih _ _ _ _ _ _).2.2
    · rw [e_154_2]
      repeat' first
        | with_reducible exact Pc_none
        | with_reducible exact Pc_s3
        | with_reducible exact (ih _ _ _ _ _ _).2.1
theorem f_154_0 (n dp : Nat) (e : EN) (I : (Nat → Nat → Int32)) (L : (Nat → Nat → Int64)) (i1 : Int32) (i2 : Int32) : Pc (g_154 n dp e 0 I L i1 i2) (F3 WI_154 WL_154 I L) := (fa_154 n dp e I L i1 i2).1
theorem f_154_1 (n dp : Nat) (e : EN) (I : (Nat → Nat → Int32)) (L : (Nat → Nat → Int64)) (i1 : Int32) (i2 : Int32) : Pc (g_154 n dp e 1 I L i1 i2) (F3 WI_154 WL_154 I L) := (fa_154 n dp e I L i1 i2).2.1
theorem f_154_2 (n dp : Nat) (e : EN) (I : (Nat → Nat → Int32)) (L : (Nat → Nat → Int64)) (i1 : Int32) (i2 : Int32) : Pc (g_154 n dp e 2 I L i1 i2) (F3 WI_154 WL_154 I L) := (fa_154 n dp e I L i1 i2).2.2
def WI_151 : List (Nat × Nat) := [(73, 0), (76, 0), (79, 0), (80, 0)]
def WL_151 : List (Nat × Nat) := []
set_option maxHeartbeats 8000000 in
set_option maxRecDepth 100000 in
theorem fa_151 : ∀ (n dp : Nat) (e : EN) (I : (Nat → Nat → Int32)) (L : (Nat → Nat → Int64)) (i1 : Int32) (i2 : Int32) (i3 : Int32) (i4 : Int32), Pc (g_151 n dp e 0 I L i1 i2 i3 i4) (F2 WI_151 WL_151 I L) ∧
    Pc (g_151 n dp e 1 I L i1 i2 i3 i4) (F2 WI_151 WL_151 I L) ∧
    Pc (g_151 n dp e 2 I L i1 i2 i3 i4) (F2 WI_151 WL_151 I L) := by
  intro n
  induction n with
  | zero => intro dp e I L i1 i2 i3 i4; exact ⟨Pc_none, Pc_none, Pc_none⟩
  | succ n ih =>
    intro dp e I L i1 i2 i3 i4
    refine ⟨?_, ?_, ?_⟩
    · rw [e_151_0]
      repeat' first
        | with_reducible exact Pc_none
        | with_reducible exact Pc_s2
        | with_reducible refine Pc_ite ?_ ?_
        | with_reducible exact (ih _ _ _ _ _ _ _ _).2.1
        | ((with_reducible refine Pc_c22 (f_152_0 _ _ _ _ _ _ _) ?_ ?_ (fun _ _ => ?_)); exact (sbs_of rfl); exact sbs_of rfl; dsimp only)
        | with_reducible refine Pc_st (fun _ => ?_)
    · rw [e_151_1]
      repeat' first
        | with_reducible exact Pc_none
        | with_reducible exact Pc_s2
        | with_reducible refine Pc_ite ?_ ?_
        | ((with_reducible refine Pc_c32 (f_153_0 _ _ _ _ _ _ _) ?_ ?_ (fun _ _ _ => ?_)); exact (sbs_of rfl); exact sbs_of rfl; dsimp only)
        | with_reducible exact (ih _ _ _ _ _ _ _ _).2.2
        | ((with_reducible refine Pc_c32 (f_154_0 _ _ _ _ _ _ _) ?_ ?_ (fun _ _ _ => ?_)); exact (sbs_of rfl); exact sbs_of rfl; dsimp only)
        | with_reducible exact (ih _ _ _ _ _ _ _ _).1
        | ((with_reducible refine Pc_c22 (ih _ _ _ _ _ _ _ _).1 ?_ ?_ (fun _ _ => ?_)); exact (fun _ h => h); exact (fun _ h => h); dsimp only)
        | ((with_reducible refine Pc_u2 ?_ (fun _ => ?_)); exact rfl)
        | with_reducible refine Pc_st (fun _ => ?_)
    · rw [e_151_2]
      repeat' first
        | with_reducible exact Pc_none
        | with_reducible exact Pc_s2
        | with_reducible exact (ih _ _ _ _ _ _ _ _).2.1
theorem f_151_0 (n dp : Nat) (e : EN) (I : (Nat → Nat → Int32)) (L : (Nat → Nat → Int64)) (i1 : Int32) (i2 : Int32) (i3 : Int32) (i4 : Int32) : Pc (g_151 n dp e 0 I L i1 i2 i3 i4) (F2 WI_151 WL_151 I L) := (fa_151 n dp e I L i1 i2 i3 i4).1
theorem f_151_1 (n dp : Nat) (e : EN) (I : (Nat → Nat → Int32)) (L : (Nat → Nat → Int64)) (i1 : Int32) (i2 : Int32) (i3 : Int32) (i4 : Int32) : Pc (g_151 n dp e 1 I L i1 i2 i3 i4) (F2 WI_151 WL_151 I L) := (fa_151 n dp e I L i1 i2 i3 i4).2.1
theorem f_151_2 (n dp : Nat) (e : EN) (I : (Nat → Nat → Int32)) (L : (Nat → Nat → Int64)) (i1 : Int32) (i2 : Int32) (i3 : Int32) (i4 : Int32) : Pc (g_151 n dp e 2 I L i1 i2 i3 i4) (F2 WI_151 WL_151 I L) := (fa_151 n dp e I L i1 i2 i3 i4).2.2
def WI_148 : List (Nat × Nat) := [(73, 0), (76, 0), (80, 0), (78, 0), (79, 0)]
def WL_148 : List (Nat × Nat) := []
set_option maxHeartbeats 8000000 in
set_option maxRecDepth 100000 in
theorem fa_148 : ∀ (n dp : Nat) (e : EN) (I : (Nat → Nat → Int32)) (L : (Nat → Nat → Int64)), Pc (g_148 n dp e 0 I L) (F2 WI_148 WL_148 I L) := by
  intro n
  induction n with
  | zero => intro dp e I L; exact Pc_none
  | succ n ih =>
    intro dp e I L
    · rw [e_148_0]
      repeat' first
        | with_reducible exact Pc_none
        | with_reducible exact Pc_s2
        | with_reducible refine Pc_ite ?_ ?_
        | ((with_reducible refine Pc_c22 (f_36_0 _ _ _ _ _ _ _ _ _) ?_ ?_ (fun _ _ => ?_)); exact (sbs_cons (mem_at 1 rfl) (sbs_nil)); exact sbs_of rfl; dsimp only)
        | ((with_reducible refine Pc_c22 (f_36_0 _ _ _ _ _ _ _ _ _) ?_ ?_ (fun _ _ => ?_)); exact (sbs_cons (mem_at 2 rfl) (sbs_nil)); exact sbs_of rfl; dsimp only)
        | ((with_reducible refine Pc_c22 (f_149_0 _ _ _ _ _ _ _ _ _) ?_ ?_ (fun _ _ => ?_)); exact (sbs_of rfl); exact sbs_of rfl; dsimp only)
        | ((with_reducible refine Pc_c22 (f_151_0 _ _ _ _ _ _ _ _ _) ?_ ?_ (fun _ _ => ?_)); exact (sbs_of rfl); exact sbs_of rfl; dsimp only)
        | ((with_reducible refine Pc_u2 ?_ (fun _ => ?_)); exact rfl)
        | with_reducible refine Pc_st (fun _ => ?_)
theorem f_148_0 (n dp : Nat) (e : EN) (I : (Nat → Nat → Int32)) (L : (Nat → Nat → Int64)) : Pc (g_148 n dp e 0 I L) (F2 WI_148 WL_148 I L) := (fa_148 n dp e I L)
def WI_156 : List (Nat × Nat) := []
def WL_156 : List (Nat × Nat) := []
set_option maxHeartbeats 8000000 in
set_option maxRecDepth 100000 in
theorem fa_156 : ∀ (n dp : Nat) (e : EN) (I : (Nat → Nat → Int32)) (L : (Nat → Nat → Int64)) (i1 : Int32) (i2 : Int32) (i3 : Int32) (i4 : Int32) (i5 : Int32) (i6 : Int32), Pc (g_156 n dp e 0 I L i1 i2 i3 i4 i5 i6) (F3 WI_156 WL_156 I L) := by
  intro n
  induction n with
  | zero => intro dp e I L i1 i2 i3 i4 i5 i6; exact Pc_none
  | succ n ih =>
    intro dp e I L i1 i2 i3 i4 i5 i6
    · rw [e_156_0]
      repeat' first
        | with_reducible exact Pc_none
        | with_reducible exact Pc_s3
        | with_reducible refine Pc_ite ?_ ?_
        | ((with_reducible refine Pc_c33 (f_14_0 _ _ _ _ _ _ _ _) ?_ ?_ (fun _ _ _ => ?_)); exact (sbs_of rfl); exact sbs_of rfl; dsimp only)
theorem f_156_0 (n dp : Nat) (e : EN) (I : (Nat → Nat → Int32)) (L : (Nat → Nat → Int64)) (i1 : Int32) (i2 : Int32) (i3 : Int32) (i4 : Int32) (i5 : Int32) (i6 : Int32) : Pc (g_156 n dp e 0 I L i1 i2 i3 i4 i5 i6) (F3 WI_156 WL_156 I L) := (fa_156 n dp e I L i1 i2 i3 i4 i5 i6)
def WI_157 : List (Nat × Nat) := [(81, 0)]
def WL_157 : List (Nat × Nat) := []
set_option maxHeartbeats 8000000 in
set_option maxRecDepth 100000 in
theorem fa_157 : ∀ (n dp : Nat) (e : EN) (I : (Nat → Nat → Int32)) (L : (Nat → Nat → Int64)), Pc (g_157 n dp e 0 I L) (F2 WI_157 WL_157 I L) := by
  intro n
  induction n with
  | zero => intro dp e I L; exact Pc_none
  | succ n ih =>
    intro dp e I L
    · rw [e_157_0]
      repeat' first
        | with_reducible exact Pc_none
        | with_reducible exact Pc_s2
        | ((with_reducible refine Pc_u2 ?_ (fun _ => ?_)); exact rfl)
        | with_reducible refine Pc_st (fun _ => ?_)
theorem f_157_0 (n dp : Nat) (e : EN) (I : (Nat → Nat → Int32)) (L : (Nat → Nat → Int64)) : Pc (g_157 n dp e 0 I L) (F2 WI_157 WL_157 I L) := (fa_157 n dp e I L)
def WI_158 : List (Nat × Nat) := [(7, 0), (1, 0)]
def WL_158 : List (Nat × Nat) := []
set_option maxHeartbeats 8000000 in
set_option maxRecDepth 100000 in
theorem fa_158 : ∀ (n dp : Nat) (e : EN) (I : (Nat → Nat → Int32)) (L : (Nat → Nat → Int64)) (i1 : Int32) (i2 : Int32) (i3 : Int32) (i4 : Int32) (i5 : Int32) (i6 : Int32), Pc (g_158 n dp e 0 I L i1 i2 i3 i4 i5 i6) (F3 WI_158 WL_158 I L) := by
  intro n
  induction n with
  | zero => intro dp e I L i1 i2 i3 i4 i5 i6; exact Pc_none
  | succ n ih =>
    intro dp e I L i1 i2 i3 i4 i5 i6
    · rw [e_158_0]
      repeat' first
        | with_reducible exact Pc_none
        | with_reducible exact Pc_s3
        | with_reducible refine Pc_ite ?_ ?_
        | ((with_reducible refine Pc_u3 ?_ (fun _ => ?_)); exact rfl)
        | with_reducible refine Pc_st (fun _ => ?_)
theorem f_158_0 (n dp : Nat) (e : EN) (I : (Nat → Nat → Int32)) (L : (Nat → Nat → Int64)) (i1 : Int32) (i2 : Int32) (i3 : Int32) (i4 : Int32) (i5 : Int32) (i6 : Int32) : Pc (g_158 n dp e 0 I L i1 i2 i3 i4 i5 i6) (F3 WI_158 WL_158 I L) := (fa_158 n dp e I L i1 i2 i3 i4 i5 i6)
def WI_155 : List (Nat × Nat) := [(0, 0), (92, 0), (81, 0), (7, 0), (1, 0)]
def WL_155 : List (Nat × Nat) := []
set_option maxHeartbeats 8000000 in
set_option maxRecDepth 100000 in
theorem fa_155 : ∀ (n dp : Nat) (e : EN) (I : (Nat → Nat → Int32)) (L : (Nat → Nat → Int64)) (i1 : Int32) (i2 : Int32) (i3 : Int32) (i4 : Int32) (i5 : Int32) (i6 : Int32), Pc (g_155 n dp e 0 I L i1 i2 i3 i4 i5 i6) (F3 WI_155 WL_155 I L) := by
  intro n
  induction n with
  | zero => intro dp e I L i1 i2 i3 i4 i5 i6; exact Pc_none
  | succ n ih =>
    intro dp e I L i1 i2 i3 i4 i5 i6
    · rw [e_155_0]
      repeat' first
        | with_reducible exact Pc_none
        | with_reducible exact Pc_s3
        | with_reducible refine Pc_ite ?_ ?_
        | ((with_reducible refine Pc_c33 (f_156_0 _ _ _ _ _ _ _ _ _ _ _) ?_ ?_ (fun _ _ _ => ?_)); exact (sbs_of rfl); exact sbs_of rfl; dsimp only)
        | ((with_reducible refine Pc_c33 (f_15_0 _ _ _ _ _ _) ?_ ?_ (fun _ _ _ => ?_)); exact (sbs_of rfl); exact sbs_of rfl; dsimp only)
        | ((with_reducible refine Pc_c23 (f_157_0 _ _ _ _ _) ?_ ?_ (fun _ _ => ?_)); exact (sbs_of rfl); exact sbs_of rfl; dsimp only)
        | ((with_reducible refine Pc_c33 (f_158_0 _ _ _ _ _ _ _ _ _ _ _) ?_ ?_ (fun _ _ _ => ?_)); exact (sbs_of rfl); exact sbs_of rfl; dsimp only)
        | ((with_reducible refine Pc_c33 (f_19_0 _ _ _ _ _ _) ?_ ?_ (fun _ _ _ => ?_)); exact (sbs_of rfl); exact sbs_of rfl; dsimp only)
theorem f_155_0 (n dp : Nat) (e : EN) (I : (Nat → Nat → Int32)) (L : (Nat → Nat → Int64)) (i1 : Int32) (i2 : Int32) (i3 : Int32) (i4 : Int32) (i5 : Int32) (i6 : Int32) : Pc (g_155 n dp e 0 I L i1 i2 i3 i4 i5 i6) (F3 WI_155 WL_155 I L) := (fa_155 n dp e I L i1 i2 i3 i4 i5 i6)
def WI_159 : List (Nat × Nat) := []
def WL_159 : List (Nat × Nat) := []
set_option maxHeartbeats 8000000 in
set_option maxRecDepth 100000 in
theorem fa_159 : ∀ (n dp : Nat) (e : EN) (I : (Nat → Nat → Int32)) (L : (Nat → Nat → Int64)) (i1 : Int32) (i2 : Int32), Pc (g_159 n dp e 0 I L i1 i2) (F3 WI_159 WL_159 I L) := by
  intro n
  induction n with
  | zero => intro dp e I L i1 i2; exact Pc_none
  | succ n ih =>
    intro dp e I L i1 i2
    · rw [e_159_0]
      repeat' first
        | with_reducible exact Pc_none
        | with_reducible exact Pc_s3
        | with_reducible refine Pc_ite ?_ ?_
        | ((with_reducible refine Pc_c33 (f_14_0 _ _ _ _ _ _ _ _) ?_ ?_ (fun _ _ _ => ?_)); exact (sbs_of rfl); exact sbs_of rfl; dsimp only)
theorem f_159_0 (n dp : Nat) (e : EN) (I : (Nat → Nat → Int32)) (L : (Nat → Nat → Int64)) (i1 : Int32) (i2 : Int32) : Pc (g_159 n dp e 0 I L i1 i2) (F3 WI_159 WL_159 I L) := (fa_159 n dp e I L i1 i2)
def WI_161 : List (Nat × Nat) := [(7, 0), (1, 0)]
def WL_161 : List (Nat × Nat) := []
set_option maxHeartbeats 8000000 in
set_option maxRecDepth 100000 in
theorem fa_161 : ∀ (n dp : Nat) (e : EN) (I : (Nat → Nat → Int32)) (L : (Nat → Nat → Int64)) (i2 : Int32) (i3 : Int32) (i4 : Int32), Pc (g_161 n dp e 0 I L i2 i3 i4) (F3 WI_161 WL_161 I L) ∧
    Pc (g_161 n dp e 1 I L i2 i3 i4) (F3 WI_161 WL_161 I L) ∧
    Pc (g_161 n dp e 2 I L i2 i3 i4) (F3 WI_161 WL_161 I L) := by
  intro n
  induction n with
  | zero => intro dp e I L i2 i3 i4; exact ⟨Pc_none, Pc_none, Pc_none⟩
  | succ n ih =>
    intro dp e I L i2 i3 i4
    refine ⟨?_, ?_, ?_⟩
    · rw [e_161_0]
      repeat' first
        | with_reducible exact Pc_none
        | with_reducible exact Pc_s3
        | with_reducible exact (ih _ _ _ _ _ _ _).2.1
    · rw [e_161_1]
      repeat' first
        | with_reducible exact Pc_none
        | with_reducible exact Pc_s3
        | with_reducible refine Pc_ite ?_ ?_
        | ((with_reducible refine Pc_c33 (f_156_0 _ _ _ _ _ _ _ _ _ _ _) ?_ ?_ (fun _ _ _ => ?_)); exact (sbs_of rfl); exact sbs_of rfl; dsimp only)
        | with_reducible exact (ih _ _ _ _ _ _ _).2.2
        | ((with_reducible refine Pc_c33 (f_158_0 _ _ _ _ _ _ _ _ _ _ _) ?_ ?_ (fun _ _ _ => ?_)); exact (sbs_of rfl); exact sbs_of rfl; dsimp only)
    · rw [e_161_2]
      repeat' first
        | with_reducible exact Pc_none
        | with_reducible exact Pc_s3
        | with_reducible exact (ih _ _ _ _ _ _ _).2.1
theorem f_161_0 (n dp : Nat) (e : EN) (I : (Nat → Nat → Int32)) (L : (Nat → Nat → Int64)) (i2 : Int32) (i3 : Int32) (i4 : Int32) : Pc (g_161 n dp e 0 I L i2 i3 i4) (F3 WI_161 WL_161 I L) := (fa_161 n dp e I L i2 i3 i4).1
theorem f_161_1 (n dp : Nat) (e : EN) (I : (Nat → Nat → Int32)) (L : (Nat → Nat → Int64)) (i2 : Int32) (i3 : Int32) (i4 : Int32) : Pc (g_161 n dp e 1 I L i2 i3 i4) (F3 WI_161 WL_161 I L) := (fa_161 n dp e I L i2 i3 i4).2.1
theorem f_161_2 (n dp : Nat) (e : EN) (I : (Nat → Nat → Int32)) (L : (Nat → Nat → Int64)) (i2 : Int32) (i3 : Int32) (i4 : Int32) : Pc (g_161 n dp e 2 I L i2 i3 i4) (F3 WI_161 WL_161 I L) := (fa_161 n dp e I L i2 i3 i4).2.2
def WI_160 : List (Nat × Nat) := [(0, 0), (92, 0), (7, 0), (1, 0), (81, 0)]
def WL_160 : List (Nat × Nat) := []
set_option maxHeartbeats 8000000 in
set_option maxRecDepth 100000 in
theorem fa_160 : ∀ (n dp : Nat) (e : EN) (I : (Nat → Nat → Int32)) (L : (Nat → Nat → Int64)), Pc (g_160 n dp e 0 I L) (F3 WI_160 WL_160 I L) := by
  intro n
  induction n with
  | zero => intro dp e I L; exact Pc_none
  | succ n ih =>
    intro dp e I L
    · rw [e_160_0]
      repeat' first
        | with_reducible exact Pc_none
        | with_reducible exact Pc_s3
        | with_reducible refine Pc_ite ?_ ?_
        | ((with_reducible refine Pc_c33 (f_15_0 _ _ _ _ _ _) ?_ ?_ (fun _ _ _ => ?_)); exact (sbs_of rfl); exact sbs_of rfl; dsimp only)
        | ((with_reducible refine Pc_c33 (f_161_0 _ _ _ _ _ _ _ _) ?_ ?_ (fun _ _ _ => ?_)); exact (sbs_of rfl); exact sbs_of rfl; dsimp only)
        | ((with_reducible refine Pc_c23 (f_157_0 _ _ _ _ _) ?_ ?_ (fun _ _ => ?_)); exact (sbs_of rfl); exact sbs_of rfl; dsimp only)
        | ((with_reducible refine Pc_c33 (f_19_0 _ _ _ _ _ _) ?_ ?_ (fun _ _ _ => ?_)); exact (sbs_of rfl); exact sbs_of rfl; dsimp only)
        | ((with_reducible refine Pc_u3 ?_ (fun _ => ?_)); exact rfl)
        | with_reducible refine Pc_st (fun _ => ?_)
theorem f_160_0 (n dp : Nat) (e : EN) (I : (Nat → Nat → Int32)) (L : (Nat → Nat → Int64)) : Pc (g_160 n dp e 0 I L) (F3 WI_160 WL_160 I L) := (fa_160 n dp e I L)
def WI_162 : List (Nat × Nat) := []
def WL_162 : List (Nat × Nat) := []
set_option maxHeartbeats 8000000 in
set_option maxRecDepth 100000 in
theorem fa_162 : ∀ (n dp : Nat) (e : EN) (I : (Nat → Nat → Int32)) (L : (Nat → Nat → Int64)), Pc (g_162 n dp e 0 I L) (F3 WI_162 WL_162 I L) := by
  intro n
  induction n with
  | zero => intro dp e I L; exact Pc_none
  | succ n ih =>
    intro dp e I L
    · rw [e_162_0]
      repeat' first
        | with_reducible exact Pc_none
        | with_reducible exact Pc_s3
theorem f_162_0 (n dp : Nat) (e : EN) (I : (Nat → Nat → Int32)) (L : (Nat → Nat → Int64)) : Pc (g_162 n dp e 0 I L) (F3 WI_162 WL_162 I L) := (fa_162 n dp e I L)
def WI_166 (a3 : Nat) (a4 : Nat) : List (Nat × Nat) := [(a3, 0), (a4, 0)]
def WL_166 : List (Nat × Nat) := []
set_option maxHeartbeats 8000000 in
set_option maxRecDepth 100000 in
theorem fa_166 : ∀ (n dp : Nat) (e : EN) (I : (Nat → Nat → Int32)) (L : (Nat → Nat → Int64)) (i1 : Int32) (i2 : Int32) (i5 : Int32) (i6 : Int32) (i7 : Int32) (i8 : Int32) (i9 : Int32) (i10 : Int32) (a3 : Nat) (a4 : Nat), Pc (g_166 n dp e 0 I L i1 i2 i5 i6 i7 i8 i9 i10 a3 a4) (F2 (WI_166 a3 a4) WL_166 I L) ∧
    Pc (g_166 n dp e 1 I L i1 i2 i5 i6 i7 i8 i9 i10 a3 a4) (F2 (WI_166 a3 a4) WL_166 I L) ∧
    Pc (g_166 n dp e 2 I L i1 i2 i5 i6 i7 i8 i9 i10 a3 a4) (F2 (WI_166 a3 a4) WL_166 I L) := by
  intro n
  induction n with
  | zero => intro dp e I L i1 i2 i5 i6 i7 i8 i9 i10 a3 a4; exact ⟨Pc_none, Pc_none, Pc_none⟩
  | succ n ih =>
    intro dp e I L i1 i2 i5 i6 i7 i8 i9 i10 a3 a4
    refine ⟨?_, ?_, ?_⟩
    · rw [e_166_0]
      repeat' first
        | with_reducible exact Pc_none
        | with_reducible exact Pc_s2
        | with_reducible refine Pc_ite ?_ ?_
        | with_reducible exact (ih _ _ _ _ _ _ _ _ _ _ _ _ _ _).2.1
        | ((with_reducible refine Pc_u2 ?_ (fun _ => ?_)); exact (by first | exact rfl | exact fw_at 0 rfl | exact fw_at 1 rfl))
        | with_reducible refine Pc_st (fun _ => ?_)
    · rw [e_166_1]
      repeat' first
        | with_reducible exact Pc_none
        | with_reducible exact Pc_s2
        | with_reducible refine Pc_ite ?_ ?_
        | with_reducible exact (ih _ _ _ _ _ _ _ _ _ _ _ _ _ _).2.2
        | with_reducible refine Pc_st (fun _ => ?_)
    · rw [e_166_2]
      repeat' first
        | with_reducible exact Pc_none
        | with_reducible exact Pc_s2
        | with_reducible refine Pc_ite ?_ ?_
        | with_reducible exact (ih _ _ _ _ _ _ _ _ _ _ _ _ _ _).2.1
        | with_reducible exact (ih _ _ _ _ _ _ _ _ _ _ _ _ _ _).2.2
        | ((with_reducible refine Pc_u2 ?_ (fun _ => ?_)); exact (by first | exact rfl | exact fw_at 0 rfl | exact fw_at 1 rfl))
        | with_reducible refine Pc_st (fun _ => ?_)
theorem f_166_0 (n dp : Nat) (e : EN) (I : (Nat → Nat → Int32)) (L : (Nat → Nat → Int64)) (i1 : Int32) (i2 : Int32) (i5 : Int32) (i6 : Int32) (i7 : Int32) (i8 : Int32) (i9 : Int32) (i10 : Int32) (a3 : Nat) (a4 : Nat) : Pc (g_166 n dp e 0 I L i1 i2 i5 i6 i7 i8 i9 i10 a3 a4) (F2 (WI_166 a3 a4) WL_166 I L) := (fa_166 n dp e I L i1 i2 i5 i6 i7 i8 i9 i10 a3 a4).1
theorem f_166_1 (n dp : Nat) (e : EN) (I : (Nat → Nat → Int32)) (L : (Nat → Nat → Int64)) (i1 : Int32) (i2 : Int32) (i5 : Int32) (i6 : Int32) (i7 : Int32) (i8 : Int32) (i9 : Int32) (i10 : Int32) (a3 : Nat) (a4 : Nat) : Pc (g_166 n dp e 1 I L i1 i2 i5 i6 i7 i8 i9 i10 a3 a4) (F2 (WI_166 a3 a4) WL_166 I L) := (fa_166 n dp e I L i1 i2 i5 i6 i7 i8 i9 i10 a3 a4).2.1
theorem f_166_2 (n dp : Nat) (e : EN) (I : (Nat → Nat → Int32)) (L : (Nat → Nat → Int64)) (i1 : Int32) (i2 : Int32) (i5 : Int32) (i6 : Int32) (i7 : Int32) (i8 : Int32) (i9 : Int32) (i10 : Int32) (a3 : Nat) (a4 : Nat) : Pc (g_166 n dp e 2 I L i1 i2 i5 i6 i7 i8 i9 i10 a3 a4) (F2 (WI_166 a3 a4) WL_166 I L) := (fa_166 n dp e I L i1 i2 i5 i6 i7 i8 i9 i10 a3 a4).2.2
def WI_165 : List (Nat × Nat) := [(81, 0), (82, 0), (83, 0), (84, 0), (85, 0), (86, 0)]
def WL_165 : List (Nat × Nat) := []
set_option maxHeartbeats 8000000 in
set_option maxRecDepth 100000 in
theorem fa_165 : ∀ (n dp : Nat) (e : EN) (I : (Nat → Nat → Int32)) (L : (Nat → Nat → Int64)) (i1 : Int32) (i2 : Int32), Pc (g_165 n dp e 0 I L i1 i2) (F2 WI_165 WL_165 I L) ∧
    Pc (g_165 n dp e 1 I L i1 i2) (F2 WI_165 WL_165 I L) ∧
    Pc (g_165 n dp e 2 I L i1 i2) (F2 WI_165 WL_165 I L) := by
  intro n
  induction n with
  | zero => intro dp e I L i1 i2; exact ⟨Pc_none, Pc_none, Pc_none⟩
  | succ n ih =>
    intro dp e I L i1 i2
    refine ⟨?_, ?_, ?_⟩
    · rw [e_165_0]
      repeat' first
        | with_reducible exact Pc_none
        | with_reducible exact Pc_s2
        | with_reducible exact (ih _ _ _ _ _ _).2.1
    · rw [e_165_1]
      repeat' first
        | with_reducible exact Pc_none
        | with_reducible exact Pc_s2
        | with_reducible refine Pc_ite ?_ ?_
        | ((with_reducible refine Pc_c22 (f_166_0 _ _ _ _ _ _ _ _ _ _ _ _ _ _ _) ?_ ?_ (fun _ _ => ?_)); exact (sbs_cons (mem_at 2 rfl) (sbs_cons (mem_at 3 rfl) (sbs_nil))); exact sbs_of rfl; dsimp only)
        | ((with_reducible refine Pc_c22 (f_166_0 _ _ _ _ _ _ _ _ _ _ _ _ _ _ _) ?_ ?_ (fun _ _ => ?_)); exact (sbs_cons (mem_at 4 rfl) (sbs_cons (mem_at 5 rfl) (sbs_nil))); exact sbs_of rfl; dsimp only)
        | with_reducible exact (ih _ _ _ _ _ _).2.2
        | ((with_reducible refine Pc_u2 ?_ (fun _ => ?_)); exact rfl)
        | with_reducible refine Pc_st (fun _ => ?_)
    · rw [e_165_2]
      repeat' first
        | with_reducible exact Pc_none
        | with_reducible exact Pc_s2
        | with_reducible exact (ih _ _ _ _ _ _).2.1
theorem f_165_0 (n dp : Nat) (e : EN) (I : (Nat → Nat → Int32)) (L : (Nat → Nat → Int64)) (i1 : Int32) (i2 : Int32) : Pc (g_165 n dp e 0 I L i1 i2) (F2 WI_165 WL_165 I L) := (fa_165 n dp e I L i1 i2).1
theorem f_165_1 (n dp : Nat) (e : EN) (I : (Nat → Nat → Int32)) (L : (Nat → Nat → Int64)) (i1 : Int32) (i2 : Int32) : Pc (g_165 n dp e 1 I L i1 i2) (F2 WI_165 WL_165 I L) := (fa_165 n dp e I L i1 i2).2.1
theorem f_165_2 (n dp : Nat) (e : EN) (I : (Nat → Nat → Int32)) (L : (Nat → Nat → Int64)) (i1 : Int32) (i2 : Int32) : Pc (g_165 n dp e 2 I L i1 i2) (F2 WI_165 WL_165 I L) := (fa_165 n dp e I L i1 i2).2.2
def WI_168 : List (Nat × Nat) := []
def WL_168 : List (Nat × Nat) := []
set_option maxHeartbeats 8000000 in
set_option maxRecDepth 100000 in
theorem fa_168 : ∀ (n dp : Nat) (e : EN) (I : (Nat → Nat → Int32)) (L : (Nat → Nat → Int64)) (i1 : Int32) (i2 : Int32) (i3 : Int32), Pc (g_168 n dp e 0 I L i1 i2 i3) (F3 WI_168 WL_168 I L) ∧
    Pc (g_168 n dp e 1 I L i1 i2 i3) (F3 WI_168 WL_168 I L) := by
  intro n
  induction n with
  | zero => intro dp e I L i1 i2 i3; exact ⟨Pc_none, Pc_none⟩
  | succ n ih =>
    intro dp e I L i1 i2 i3
    refine ⟨?_, ?_⟩
    · rw [e_168_0]
      repeat' first
        | with_reducible exact Pc_none
        | with_reducible exact Pc_s3
        | with_reducible exact (ih _ _ _ _ _ _ _).2
    · rw [e_168_1]
      repeat' first
        | with_reducible exact Pc_none
        | with_reducible exact Pc_s3
        | with_reducible refine Pc_ite ?_ ?_
        | with_reducible exact (ih _ _ _ _ _ _ _).2
        | with_reducible refine Pc_st (fun _ => ?_)
theorem f_168_0 (n dp : Nat) (e : EN) (I : (Nat → Nat → Int32)) (L : (Nat → Nat → Int64)) (i1 : Int32) (i2 : Int32) (i3 : Int32) : Pc (g_168 n dp e 0 I L i1 i2 i3) (F3 WI_168 WL_168 I L) := (fa_168 n dp e I L i1 i2 i3).1
theorem f_168_1 (n dp : Nat) (e : EN) (I : (Nat → Nat → Int32)) (L : (Nat → Nat → Int64)) (i1 : Int32) (i2 : Int32) (i3 : Int32) : Pc (g_168 n dp e 1 I L i1 i2 i3) (F3 WI_168 WL_168 I L) := (fa_168 n dp e I L i1 i2 i3).2
def WI_167 : List (Nat × Nat) := [(81, 0)]
def WL_167 : List (Nat × Nat) := []
set_option maxHeartbeats 8000000 in
set_option maxRecDepth 100000 in
theorem fa_167 : ∀ (n dp : Nat) (e : EN) (I : (Nat → Nat → Int32)) (L : (Nat → Nat → Int64)) (i1 : Int32) (i2 : Int32) (i3 : Int32) (i4 : Int32) (i5 : Int32) (i6 : Int32), Pc (g_167 n dp e 0 I L i1 i2 i3 i4 i5 i6) (F2 WI_167 WL_167 I L) ∧
    Pc (g_167 n dp e 1 I L i1 i2 i3 i4 i5 i6) (F2 WI_167 WL_167 I L) ∧
    Pc (g_167 n dp e 2 I L i1 i2 i3 i4 i5 i6) (F2 WI_167 WL_167 I L) := by
  intro n
  induction n with
  | zero => intro dp e I L i1 i2 i3 i4 i5 i6; exact ⟨Pc_none, Pc_none, Pc_none⟩
  | succ n ih =>
    intro dp e I L i1 i2 i3 i4 i5 i6
    refine ⟨?_, ?_, ?_⟩
    · rw [e_167_0]
      repeat' first
        | with_reducible exact Pc_none
        | with_reducible exact Pc_s2
        | with_reducible refine Pc_ite ?_ ?_
        | with_reducible exact (ih _ _ _ _ _ _ _ _ _ _).2.1
        | with_reducible refine Pc_st (fun _ => ?_)
    · rw [e_167_1]
      repeat' first
        | with_reducible exact Pc_none
        | with_reducible exact Pc_s2
        | with_reducible refine Pc_ite ?_ ?_
        | with_reducible exact (ih _ _ _ _ _ _ _ _ _ _).2.2
        | ((with_reducible refine Pc_c32 (f_168_0 _ _ _ _ _ _ _ _) ?_ ?_ (fun _ _ _ => ?_)); exact (sbs_of rfl); exact sbs_of rfl; dsimp only)
        | ((with_reducible refine Pc_u2 ?_ (fun _ => ?_)); exact rfl)
        | with_reducible refine Pc_st (fun _ => ?_)
    · rw [e_167_2]
      repeat' first
        | with_reducible exact Pc_none
        | with_reducible exact Pc_s2
        | with_reducible exact (ih _ _ _ _ _ _ _ _ _ _).2.1
theorem f_167_0 (n dp : Nat) (e : EN) (I : (Nat → Nat → Int32)) (L : (Nat → Nat → Int64)) (i1 : Int32) (i2 : Int32) (i3 : Int32) (i4 : Int32) (i5 : Int32) (i6 : Int32) : Pc (g_167 n dp e 0 I L i1 i2 i3 i4 i5 i6) (F2 WI_167 WL_167 I L) := (fa_167 n dp e I L i1 i2 i3 i4 i5 i6).1
theorem f_167_1 (n dp : Nat) (e : EN) (I : (Nat → Nat → Int32)) (L : (Nat → Nat → Int64)) (i1 : Int32) (i2 : Int32) (i3 : Int32) (i4 : Int32) (i5 : Int32) (i6 : Int32) : Pc (g_167 n dp e 1 I L i1 i2 i3 i4 i5 i6) (F2 WI_167 WL_167 I L) := (fa_167 n dp e I L i1 i2 i3 i4 i5 i6).2.1
theorem f_167_2 (n dp : Nat) (e : EN) (I : (Nat → Nat → Int32)) (L : (Nat → Nat → Int64)) (i1 : Int32) (i2 : Int32) (i3 : Int32) (i4 : Int32) (i5 : Int32) (i6 : Int32) : Pc (g_167 n dp e 2 I L i1 i2 i3 i4 i5 i6) (F2 WI_167 WL_167 I L) := (fa_167 n dp e I L i1 i2 i3 i4 i5 i6).2.2
def WI_164 : List (Nat × Nat) := [(81, 0), (82, 0), (83, 0), (84, 0), (85, 0), (86, 0)]
def WL_164 : List (Nat × Nat) := []
set_option maxHeartbeats 8000000 in
set_option maxRecDepth 100000 in
theorem fa_164 : ∀ (n dp : Nat) (e : EN) (I : (Nat → Nat → Int32)) (L : (Nat → Nat → Int64)) (i1 : Int32) (i2 : Int32) (i3 : Int32) (i4 : Int32) (i5 : Int32), Pc (g_164 n dp e 0 I L i1 i2 i3 i4 i5) (F2 WI_164 WL_164 I L) ∧
    Pc (g_164 n dp e 1 I L i1 i2 i3 i4 i5) (F2 WI_164 WL_164 I L) ∧
    Pc (g_164 n dp e 2 I L i1 i2 i3 i4 i5) (F2 WI_164 WL_164 I L) ∧
    Pc (g_164 n dp e 3 I L i1 i2 i3 i4 i5) (F2 WI_164 WL_164 I L) ∧
    Pc (g_164 n dp e 4 I L i1 i2 i3 i4 i5) (F2 WI_164 WL_164 I L) := by
  intro n
  induction n with
  | zero => intro dp e I L i1 i2 i3 i4 i5; exact ⟨Pc_none, Pc_none, Pc_none, Pc_none, Pc_none⟩
  | succ n ih =>
    intro dp e I L i1 i2 i3 i4 i5
    refine ⟨?_, ?_, ?_, ?_, ?_⟩
    · rw [e_164_0]
      repeat' first
        | with_reducible exact Pc_none
        | with_reducible exact Pc_s2
        | with_reducible refine Pc_ite ?_ ?_
        | with_reducible exact (ih _ _ _ _ _ _ _ _ _).2.1
    · rw [e_164_1]
      repeat' first
        | with_reducible exact Pc_none
        | with_reducible exact Pc_s2
        | with_reducible refine Pc_ite ?_ ?_
        | with_reducible exact (ih _ _ _ _ _ _ _ _ _).2.2.1
        | ((with_reducible refine Pc_c22 (f_165_0 _ _ _ _ _ _ _) ?_ ?_ (fun _ _ => ?_)); exact (sbs_of rfl); exact sbs_of rfl; dsimp only)
        | ((with_reducible refine Pc_u2 ?_ (fun _ => ?_)); exact rfl)
        | with_reducible refine Pc_st (fun _ => ?_)
    · rw [e_164_2]
      repeat' first
        | with_reducible exact Pc_none
        | with_reducible exact Pc_s2
        | with_reducible refine Pc_ite ?_ ?_
        | with_reducible exact (ih _ _ _ _ _ _ _ _ _).2.2.2.1
        | ((with_reducible refine Pc_u2 ?_ (fun _ => ?_)); exact rfl)
        | with_reducible refine Pc_st (fun _ => ?_)
    · rw [e_164_3]
      repeat' first
        | with_reducible exact Pc_none
        | with_reducible exact Pc_s2
        | with_reducible refine Pc_ite ?_ ?_
        | with_reducible exact (ih _ _ _ _ _ _ _ _ _).2.2.2.2
        | ((with_reducible refine Pc_c22 (f_167_0 _ _ _ _ _ _ _ _ _ _ _) ?_ ?_ (fun _ _ => ?_)); exact (sbs_of rfl); exact sbs_of rfl; dsimp only)
    · rw [e_164_4]
      repeat' first
        | with_reducible exact Pc_none
        | with_reducible exact Pc_s2
        | with_reducible exact (ih _ _ _ _ _ _ _ _ _).2.2.2.1
theorem f_164_0 (n dp : Nat) (e : EN) (I : (Nat → Nat → Int32)) (L : (Nat → Nat → Int64)) (i1 : Int32) (i2 : Int32) (i3 : Int32) (i4 : Int32) (i5 : Int32) : Pc (g_164 n dp e 0 I L i1 i2 i3 i4 i5) (F2 WI_164 WL_164 I L) := (fa_164 n dp e I L i1 i2 i3 i4 i5).1
theorem f_164_1 (n dp : Nat) (e : EN) (I : (Nat → Nat → Int32)) (L : (Nat → Nat → Int64)) (i1 : Int32) (i2 : Int32) (i3 : Int32) (i4 : Int32) (i5 : Int32) : Pc (g_164 n dp e 1 I L i1 i2 i3 i4 i5) (F2 WI_164 WL_164 I L) := (fa_164 n dp e I L i1 i2 i3 i4 i5).2.1
theorem f_164_2 (n dp : Nat) (e : EN) (I : (Nat → Nat → Int32)) (L : (Nat → Nat → Int64)) (i1 : Int32) (i2 : Int32) (i3 : Int32) (i4 : Int32) (i5 : Int32) : Pc (g_164 n dp e 2 I L i1 i2 i3 i4 i5) (F2 WI_164 WL_164 I L) := (fa_164 n dp e I L i1 i2 i3 i4 i5).2.2.1
theorem f_164_3 (n dp : Nat) (e : EN) (I : (Nat → Nat → Int32)) (L : (Nat → Nat → Int64)) (i1 : Int32) (i2 : Int32) (i3 : Int32) (i4 : Int32) (i5 : Int32) : Pc (g_164 n dp e 3 I L i1 i2 i3 i4 i5) (F2 WI_164 WL_164 I L) := (fa_164 n dp e I L i1 i2 i3 i4 i5).2.2.2.1
theorem f_164_4 (n dp : Nat) (e : EN) (I : (Nat → Nat → Int32)) (L : (Nat → Nat → Int64)) (i1 : Int32) (i2 : Int32) (i3 : Int32) (i4 : Int32) (i5 : Int32) : Pc (g_164 n dp e 4 I L i1 i2 i3 i4 i5) (F2 WI_164 WL_164 I L) := (fa_164 n dp e I L i1 i2 i3 i4 i5).2.2.2.2
def WI_163 : List (Nat × Nat) := [(81, 0), (82, 0), (83, 0), (84, 0), (85, 0), (86, 0)]
def WL_163 : List (Nat × Nat) := []
set_option maxHeartbeats 8000000 in
set_option maxRecDepth 100000 in
theorem fa_163 : ∀ (n dp : Nat) (e : EN) (I : (Nat → Nat → Int32)) (L : (Nat → Nat → Int64)) (i1 : Int32) (i2 : Int32) (i3 : Int32) (i4 : Int32), Pc (g_163 n dp e 0 I L i1 i2 i3 i4) (F3 WI_163 WL_163 I L) := by
  intro n
  induction n with
  | zero => intro dp e I L i1 i2 i3 i4; exact Pc_none
  | succ n ih =>
    intro dp e I L i1 i2 i3 i4
    · rw [e_163_0]
      repeat' first
        | with_reducible exact Pc_none
        | with_reducible exact Pc_s3
        | with_reducible refine Pc_ite ?_ ?_
        | ((with_reducible refine Pc_c33 (f_14_0 _ _ _ _ _ _ _ _) ?_ ?_ (fun _ _ _ => ?_)); exact (sbs_of rfl); exact sbs_of rfl; dsimp only)
        | ((with_reducible refine Pc_c23 (f_164_0 _ _ _ _ _ _ _ _ _ _) ?_ ?_ (fun _ _ => ?_)); exact (sbs_of rfl); exact sbs_of rfl; dsimp only)
theorem f_163_0 (n dp : Nat) (e : EN) (I : (Nat → Nat → Int32)) (L : (Nat → Nat → Int64)) (i1 : Int32) (i2 : Int32) (i3 : Int32) (i4 : Int32) : Pc (g_163 n dp e 0 I L i1 i2 i3 i4) (F3 WI_163 WL_163 I L) := (fa_163 n dp e I L i1 i2 i3 i4)
def WI_171 : List (Nat × Nat) := []
def WL_171 : List (Nat × Nat) := []
set_option maxHeartbeats 8000000 in
set_option maxRecDepth 100000 in
theorem fa_171 : ∀ (n dp : Nat) (e : EN) (I : (Nat → Nat → Int32)) (L : (Nat → Nat → Int64)) (i1 : Int32) (i2 : Int32) (i3 : Int32) (i4 : Int32) (i5 : Int32) (i6 : Int32), Pc (g_171 n dp e 0 I L i1 i2 i3 i4 i5 i6) (F3 WI_171 WL_171 I L) ∧
    Pc (g_171 n dp e 1 I L i1 i2 i3 i4 i5 i6) (F3 WI_171 WL_171 I L) ∧
    Pc (g_171 n dp e 2 I L i1 i2 i3 i4 i5 i6) (F3 WI_171 WL_171 I L) := by
  intro n
  induction n with
  | zero => intro dp e I L i1 i2 i3 i4 i5 i6; exact ⟨Pc_none, Pc_none, Pc_none⟩
  | succ n ih =>
    intro dp e I L i1 i2 i3 i4 i5 i6
    refine ⟨?_, ?_, ?_⟩
    · rw [e_171_0]
      repeat' first
        | with_reducible exact Pc_none
        | with_reducible exact Pc_s3
        | with_reducible exact (ih _ _ _ _ _ _ _ _ _ _).2.1
    · rw [e_171_1]
      repeat' first
        | with_reducible exact Pc_none
        | with_reducible exact Pc_s3
        | with_reducible refine Pc_ite ?_ ?_
        | with_reducible exact (ih _ _ _ _ _ _ _ _ _ _).2.2
        | with_reducible refine Pc_st (fun _ => ?_)
    · rw [e_171_2]
      repeat' first
        | with_reducible exact Pc_none
        | with_reducible exact Pc_s3
        | with_reducible exact (ih _ _ _ _ _ _ _ _ _ _).2.1
theorem f_171_0 (n dp : Nat) (e : EN) (I : (Nat → Nat → Int32)) (L : (Nat → Nat → Int64)) (i1 : Int32) (i2 : Int32) (i3 : Int32) (i4 : Int32) (i5 : Int32) (i6 : Int32) : Pc (g_171 n dp e 0 I L i1 i2 i3 i4 i5 i6) (F3 WI_171 WL_171 I L) := (fa_171 n dp e I L i1 i2 i3 i4 i5 i6).1
theorem f_171_1 (n dp : Nat) (e : EN) (I : (Nat → Nat → Int32)) (L : (Nat → Nat → Int64)) (i1 : Int32) (i2 : Int32) (i3 : Int32) (i4 : Int32) (i5 : Int32) (i6 : Int32) : Pc (g_171 n dp e 1 I L i1 i2 i3 i4 i5 i6) (F3 WI_171 WL_171 I L) := (fa_171 n dp e I L i1 i2 i3 i4 i5 i6).2.1
theorem f_171_2 (n dp : Nat) (e : EN) (I : (Nat → Nat → Int32)) (L : (Nat → Nat → Int64)) (i1 : Int32) (i2 : Int32) (i3 : Int32) (i4 : Int32) (i5 : Int32) (i6 : Int32) : Pc (g_171 n dp e 2 I L i1 i2 i3 i4 i5 i6) (F3 WI_171 WL_171 I L) := (fa_171 n dp e I L i1 i2 i3 i4 i5 i6).2.2
def WI_170 : List (Nat × Nat) := [(7, 0)]
def WL_170 : List (Nat × Nat) := []
set_option maxHeartbeats 8000000 in
set_option maxRecDepth 100000 in
theorem fa_170 : ∀ (n dp : Nat) (e : EN) (I : (Nat → Nat → Int32)) (L : (Nat → Nat → Int64)) (i1 : Int32) (i2 : Int32) (i3 : Int32) (i4 : Int32) (i5 : Int32) (i6 : Int32), Pc (g_170 n dp e 0 I L i1 i2 i3 i4 i5 i6) (F3 WI_170 WL_170 I L) ∧
    Pc (g_170 n dp e 1 I L i1 i2 i3 i4 i5 i6) (F3 WI_170 WL_170 I L) := by
  intro n
  induction n with
  | zero => intro dp e I L i1 i2 i3 i4 i5 i6; exact ⟨Pc_none, Pc_none⟩
  | succ n ih =>
    intro dp e I L i1 i2 i3 i4 i5 i6
    refine ⟨?_, ?_⟩
    · rw [e_170_0]
      repeat' first
        | with_reducible exact Pc_none
        | with_reducible exact Pc_s3
        | with_reducible exact (ih _ _ _ _ _ _ _ _ _ _).2
    · rw [e_170_1]
      repeat' first
        | with_reducible exact Pc_none
        | with_reducible exact Pc_s3
        | with_reducible refine Pc_ite ?_ ?_
        | ((with_reducible refine Pc_c33 (f_171_0 _ _ _ _ _ _ _ _ _ _ _) ?_ ?_ (fun _ _ _ => ?_)); exact (sbs_of rfl); exact sbs_of rfl; dsimp only)
        | with_reducible exact (ih _ _ _ _ _ _ _ _ _ _).2
        | ((with_reducible refine Pc_u3 ?_ (fun _ => ?_)); exact rfl)
        | with_reducible refine Pc_st (fun _ => ?_)
theorem f_170_0 (n dp : Nat) (e : EN) (I : (Nat → Nat → Int32)) (L : (Nat → Nat → Int64)) (i1 : Int32) (i2 : Int32) (i3 : Int32) (i4 : Int32) (i5 : Int32) (i6 : Int32) : Pc (g_170 n dp e 0 I L i1 i2 i3 i4 i5 i6) (F3 WI_170 WL_170 I L) := (fa_170 n dp e I L i1 i2 i3 i4 i5 i6).1
theorem f_170_1 (n dp : Nat) (e : EN) (I : (Nat → Nat → Int32)) (L : (Nat → Nat → Int64)) (i1 : Int32) (i2 : Int32) (i3 : Int32) (i4 : Int32) (i5 : Int32) (i6 : Int32) : Pc (g_170 n dp e 1 I L i1 i2 i3 i4 i5 i6) (F3 WI_170 WL_170 I L) := (fa_170 n dp e I L i1 i2 i3 i4 i5 i6).2
def WI_169 : List (Nat × Nat) := [(0, 0), (92, 0), (81, 0), (7, 0)]
def WL_169 : List (Nat × Nat) := []
set_option maxHeartbeats 8000000 in
set_option maxRecDepth 100000 in
theorem fa_169 : ∀ (n dp : Nat) (e : EN) (I : (Nat → Nat → Int32)) (L : (Nat → Nat → Int64)) (i1 : Int32) (i2 : Int32) (i3 : Int32) (i4 : Int32), Pc (g_169 n dp e 0 I L i1 i2 i3 i4) (F3 WI_169 WL_169 I L) := by
  intro n
  induction n with
  | zero => intro dp e I L i1 i2 i3 i4; exact Pc_none
  | succ n ih =>
    intro dp e I L i1 i2 i3 i4
    · rw [e_169_0]
      repeat' first
        | with_reducible exact Pc_none
        | with_reducible exact Pc_s3
        | with_reducible refine Pc_ite ?_ ?_
        | ((with_reducible refine Pc_c33 (f_14_0 _ _ _ _ _ _ _ _) ?_ ?_ (fun _ _ _ => ?_)); exact (sbs_of rfl); exact sbs_of rfl; dsimp only)
        | ((with_reducible refine Pc_c33 (f_15_0 _ _ _ _ _ _) ?_ ?_ (fun _ _ _ => ?_)); exact (sbs_of rfl); exact sbs_of rfl; dsimp only)
        | ((with_reducible refine Pc_c23 (f_157_0 _ _ _ _ _) ?_ ?_ (fun _ _ => ?_)); exact (sbs_of rfl); exact sbs_of rfl; dsimp only)
        | ((with_reducible refine Pc_c33 (f_170_0 _ _ _ _ _ _ _ _ _ _ _) ?_ ?_ (fun _ _ _ => ?_)); exact (sbs_of rfl); exact sbs_of rfl; dsimp only)
        | ((with_reducible refine Pc_c33 (f_19_0 _ _ _ _ _ _) ?_ ?_ (fun _ _ _ => ?_)); exact (sbs_of rfl); exact sbs_of rfl; dsimp only)
theorem f_169_0 (n dp : Nat) (e : EN) (I : (Nat → Nat → Int32)) (L : (Nat → Nat → Int64)) (i1 : Int32) (i2 : Int32) (i3 : Int32) (i4 : Int32) : Pc (g_169 n dp e 0 I L i1 i2 i3 i4) (F3 WI_169 WL_169 I L) := (fa_169 n dp e I L i1 i2 i3 i4)
def WI_172 : List (Nat × Nat) := [(7, 0), (0, 0), (92, 0), (81, 0)]
def WL_172 : List (Nat × Nat) := []
set_option maxHeartbeats 8000000 in
set_option maxRecDepth 100000 in
theorem fa_172 : ∀ (n dp : Nat) (e : EN) (I : (Nat → Nat → Int32)) (L : (Nat → Nat → Int64)) (i1 : Int32), Pc (g_172 n dp e 0 I L i1) (F3 WI_172 WL_172 I L) := by
  intro n
  induction n with
  | zero => intro dp e I L i1; exact Pc_none
  | succ n ih =>
    intro dp e I L i1
    · rw [e_172_0]
      repeat' first
        | with_reducible exact Pc_none
        | with_reducible exact Pc_s3
        | with_reducible refine Pc_ite ?_ ?_
        | ((with_reducible refine Pc_c33 (f_14_0 _ _ _ _ _ _ _ _) ?_ ?_ (fun _ _ _ => ?_)); exact (sbs_of rfl); exact sbs_of rfl; dsimp only)
        | ((with_reducible refine Pc_c33 (f_15_0 _ _ _ _ _ _) ?_ ?_ (fun _ _ _ => ?_)); exact (sbs_of rfl); exact sbs_of rfl; dsimp only)
        | ((with_reducible refine Pc_c23 (f_157_0 _ _ _ _ _) ?_ ?_ (fun _ _ => ?_)); exact (sbs_of rfl); exact sbs_of rfl; dsimp only)
        | ((with_reducible refine Pc_c33 (f_19_0 _ _ _ _ _ _) ?_ ?_ (fun _ _ _ => ?_)); exact (sbs_of rfl); exact sbs_of rfl; dsimp only)
        | ((with_reducible refine Pc_u3 ?_ (fun _ => ?_)); exact rfl)
        | with_reducible refine Pc_st (fun _ => ?_)
theorem f_172_0 (n dp : Nat) (e : EN) (I : (Nat → Nat → Int32)) (L : (Nat → Nat → Int64)) (i1 : Int32) : Pc (g_172 n dp e 0 I L i1) (F3 WI_172 WL_172 I L) := (fa_172 n dp e I L i1)
def WI_177 : List (Nat × Nat) := []
def WL_177 : List (Nat × Nat) := []
set_option maxHeartbeats 8000000 in
set_option maxRecDepth 100000 in
theorem fa_177 : ∀ (n dp : Nat) (e : EN) (I : (Nat → Nat → Int32)) (L : (Nat → Nat → Int64)) (i1 : Int32) (i2 : Int32), Pc (g_177 n dp e 0 I L i1 i2) (F3 WI_177 WL_177 I L) := by
  intro n
  induction n with
  | zero => intro dp e I L i1 i2; exact Pc_none
  | succ n ih =>
    intro dp e I L i1 i2
    · rw [e_177_0]
      repeat' first
        | with_reducible exact Pc_none
        | with_reducible exact Pc_s3
        | with_reducible refine Pc_ite ?_ ?_
theorem f_177_0 (n dp : Nat) (e : EN) (I : (Nat → Nat → Int32)) (L : (Nat → Nat → Int64)) (i1 : Int32) (i2 : Int32) : Pc (g_177 n dp e 0 I L i1 i2) (F3 WI_177 WL_177 I L) := (fa_177 n dp e I L i1 i2)
def WI_176 : List (Nat × Nat) := []
def WL_176 : List (Nat × Nat) := []
set_option maxHeartbeats 8000000 in
set_option maxRecDepth 100000 in
theorem fa_176 : ∀ (n dp : Nat) (e : EN) (I : (Nat → Nat → Int32)) (L : (Nat → Nat → Int64)) (i1 : Int32) (i2 : Int32) (i3 : Int32), Pc (g_176 n dp e 0 I L i1 i2 i3) (F3 WI_176 WL_176 I L) ∧
    Pc (g_176 n dp e 1 I L i1 i2 i3) (F3 WI_176 WL_176 I L) ∧
    Pc (g_176 n dp e 2 I L i1 i2 i3) (F3 WI_176 WL_176 I L) := by
  intro n
  induction n with
  | zero => intro dp e I L i1 i2 i3; exact ⟨Pc_none, Pc_none, Pc_none⟩
  | succ n ih =>
    intro dp e I L i1 i2 i3
    refine ⟨?_, ?_, ?_⟩
    · rw [e_176_0]
      repeat' first
        | with_reducible exact Pc_none
        | with_reducible exact Pc_s3
        | with_reducible exact (ih _ _ _ _ _ _ _).2.1
    · rw [e_176_1]
      repeat' first
        | with_reducible exact Pc_none
        | with_reducible exact Pc_s3
        | with_reducible refine Pc_ite ?_ ?_
        | ((with_reducible refine Pc_c33 (f_177_0 _ _ _ _ _ _ _) ?_ ?_ (fun _ _ _ => ?_)); exact (sbs_of rfl); exact sbs_of rfl; dsimp only)
        | with_reducible exact (ih _ _ _ _ _ _ _).2.2
    · rw [e_176_2]
      repeat' first
        | with_reducible exact Pc_none
        | with_reducible exact Pc_s3
        | with_reducible exact (ih _ _ _ _ _ _ _).2.1
theorem f_176_0 (n dp : Nat) (e : EN) (I : (Nat → Nat → Int32)) (L : (Nat → Nat → Int64)) (i1 : Int32) (i2 : Int32) (i3 : Int32) : Pc (g_176 n dp e 0 I L i1 i2 i3) (F3 WI_176 WL_176 I L) := (fa_176 n dp e I L i1 i2 i3).1
theorem f_176_1 (n dp : Nat) (e : EN) (I : (Nat → Nat → Int32)) (L : (Nat → Nat → Int64)) (i1 : Int32) (i2 : Int32) (i3 : Int32) : Pc (g_176 n dp e 1 I L i1 i2 i3) (F3 WI_176 WL_176 I L) := (fa_176 n dp e I L i1 i2 i3).2.1
theorem f_176_2 (n dp : Nat) (e : EN) (I : (Nat → Nat → Int32)) (L : (Nat → Nat → Int64)) (i1 : Int32) (i2 : Int32) (i3 : Int32) : Pc (g_176 n dp e 2 I L i1 i2 i3) (F3 WI_176 WL_176 I L) := (fa_176 n dp e I L i1 i2 i3).2.2
def WI_175 : List (Nat × Nat) := [(88, 0)]
def WL_175 : List (Nat × Nat) := []
set_option maxHeartbeats 8000000 in
set_option maxRecDepth 100000 in
theorem fa_175 : ∀ (n dp : Nat) (e : EN) (I : (Nat → Nat → Int32)) (L : (Nat → Nat → Int64)) (i1 : Int32) (i2 : Int32) (i3 : Int32) (i4 : Int32), Pc (g_175 n dp e 0 I L i1 i2 i3 i4) (F2 WI_175 WL_175 I L) ∧
    Pc (g_175 n dp e 1 I L i1 i2 i3 i4) (F2 WI_175 WL_175 I L) ∧
    Pc (g_175 n dp e 2 I L i1 i2 i3 i4) (F2 WI_175 WL_175 I L) ∧
    Pc (g_175 n dp e 3 I L i1 i2 i3 i4) (F2 WI_175 WL_175 I L) ∧
    Pc (g_175 n dp e 4 I L i1 i2 i3 i4) (F2 WI_175 WL_175 I L) := by
  intro n
  induction n with
  | zero => intro dp e I L i1 i2 i3 i4; exact ⟨Pc_none, Pc_none, Pc_none, Pc_none, Pc_none⟩
  | succ n ih =>
    intro dp e I L i1 i2 i3 i4
    refine ⟨?_, ?_, ?_, ?_, ?_⟩
    · rw [e_175_0]
      repeat' first
        | with_reducible exact Pc_none
        | with_reducible exact Pc_s2
        | with_reducible exact (ih _ _ _ _ _ _ _ _).2.1
    · rw [e_175_1]
      repeat' first
        | with_reducible exact Pc_none
        | with_reducible exact Pc_s2
        | with_reducible refine Pc_ite ?_ ?_
        | with_reducible exact (ih _ _ _ _ _ _ _ _).2.2.1
        | with_reducible exact (ih _ _ _ _ _ _ _ _).2.1
        | ((with_reducible refine Pc_u2 ?_ (fun _ => ?_)); exact rfl)
        | with_reducible refine Pc_st (fun _ => ?_)
    · rw [e_175_2]
      repeat' first
        | with_reducible exact Pc_none
        | with_reducible exact Pc_s2
        | with_reducible refine Pc_ite ?_ ?_
        | with_reducible exact (ih _ _ _ _ _ _ _ _).2.2.2.1
    · rw [e_175_3]
      repeat' first
        | with_reducible exact Pc_none
        | with_reducible exact Pc_s2
        | with_reducible refine Pc_ite ?_ ?_
        | with_reducible exact (ih _ _ _ _ _ _ _ _).2.2.1
        | ((with_reducible refine Pc_c32 (f_176_0 _ _ _ _ _ _ _ _) ?_ ?_ (fun _ _ _ => ?_)); exact (sbs_of rfl); exact sbs_of rfl; dsimp only)
        | with_reducible exact (ih _ _ _ _ _ _ _ _).2.2.2.2
        | ((with_reducible refine Pc_u2 ?_ (fun _ => ?_)); exact rfl)
        | with_reducible refine Pc_st (fun _ => ?_)
    · rw [e_175_4]
      repeat' first
        | with_reducible exact Pc_none
        | with_reducible exact Pc_s2
        | with_reducible exact (ih _ _ _ _ _ _ _ _).2.2.2.1
theorem f_175_0 (n dp : Nat) (e : EN) (I : (Nat → Nat → Int32)) (L : (Nat → Nat → Int64)) (i1 : Int32) (i2 : Int32) (i3 : Int32) (i4 : Int32) : Pc (g_175 n dp e 0 I L i1 i2 i3 i4) (F2 WI_175 WL_175 I L) := (fa_175 n dp e I L i1 i2 i3 i4).1
theorem f_175_1 (n dp : Nat) (e : EN) (I : (Nat → Nat → Int32)) (L : (Nat → Nat → Int64)) (i1 : Int32) (i2 : Int32) (i3 : Int32) (i4 : Int32) : Pc (g_175 n dp e 1 I L i1 i2 i3 i4) (F2 WI_175 WL_175 I L) := (fa_175 n dp e I L i1 i2 i3 i4).2.1
theorem f_175_2 (n dp : Nat) (e : EN) (I : (Nat → Nat → Int32)) (L : (Nat → Nat → Int64)) (i1 : Int32) (i2 : Int32) (i3 : Int32) (i4 : Int32) : Pc (g_175 n dp e 2 I L i1 i2 i3 i4) (F2 WI_175 WL_175 I L) := (fa_175 n dp e I L i1 i2 i3 i4).2.2.1
theorem f_175_3 (n dp : Nat) (e : EN) (I : (Nat → Nat → Int32)) (L : (Nat → Nat → Int64)) (i1 : Int32) (i2 : Int32) (i3 : Int32) (i4 : Int32) : Pc (g_175 n dp e 3 I L i1 i2 i3 i4) (F2 WI_175 WL_175 I L) := (fa_175 n dp e I L i1 i2 i3 i4).2.2.2.1
theorem f_175_4 (n dp : Nat) (e : EN) (I : (Nat → Nat → Int32)) (L : (Nat → Nat → Int64)) (i1 : Int32) (i2 : Int32) (i3 : Int32) (i4 : Int32) : Pc (g_175 n dp e 4 I L i1 i2 i3 i4) (F2 WI_175 WL_175 I L) := (fa_175 n dp e I L i1 i2 i3 i4).2.2.2.2
def WI_174 : List (Nat × Nat) := [(88, 0)]
def WL_174 : List (Nat × Nat) := []
set_option maxHeartbeats 8000000 in
set_option maxRecDepth 100000 in
theorem fa_174 : ∀ (n dp : Nat) (e : EN) (I : (Nat → Nat → Int32)) (L : (Nat → Nat → Int64)) (i1 : Int32) (i2 : Int32) (i3 : Int32), Pc (g_174 n dp e 0 I L i1 i2 i3) (F3 WI_174 WL_174 I L) ∧
    Pc (g_174 n dp e 1 I L i1 i2 i3) (F3 WI_174 WL_174 I L) ∧
    Pc (g_174 n dp e 2 I L i1 i2 i3) (F3 WI_174 WL_174 I L) := by
  intro n
  induction n with
  | zero => intro dp e I L i1 i2 i3; exact ⟨Pc_none, Pc_none, Pc_none⟩
  | succ n ih =>
    intro dp e I L i1 i2 i3
    refine ⟨?_, ?_, ?_⟩
    · rw [e_174_0]
      repeat' first
        | with_reducible exact Pc_none
        | with_reducible exact Pc_s3
        | with_reducible refine Pc_ite ?_ ?_
        | ((with_reducible refine Pc_c23 (f_175_0 _ _ _ _ _ _ _ _ _) ?_ ?_ (fun _ _ => ?_)); exact (sbs_of rfl); exact sbs_of rfl; dsimp only)
        | with_reducible exact (ih _ _ _ _ _ _ _).2.1
    · rw [e_174_1]
      repeat' first
        | with_reducible exact Pc_none
        | with_reducible exact Pc_s3
        | with_reducible refine Pc_ite ?_ ?_
        | with_reducible exact (ih _ _ _ _ _ _ _).2.2
        | with_reducible refine Pc_st (fun _ => ?_)
    · rw [e_174_2]
      repeat' first
        | with_reducible exact Pc_none
        | with_reducible exact Pc_s3
        | with_reducible exact (ih _ _ _ _ _ _ _).2.1
theorem f_174_0 (n dp : Nat) (e : EN) (I : (Nat → Nat → Int32)) (L : (Nat → Nat → Int64)) (i1 : Int32) (i2 : Int32) (i3 : Int32) : Pc (g_174 n dp e 0 I L i1 i2 i3) (F3 WI_174 WL_174 I L) := (fa_174 n dp e I L i1 i2 i3).1
theorem f_174_1 (n dp : Nat) (e : EN) (I : (Nat → Nat → Int32)) (L : (Nat → Nat → Int64)) (i1 : Int32) (i2 : Int32) (i3 : Int32) : Pc (g_174 n dp e 1 I L i1 i2 i3) (F3 WI_174 WL_174 I L) := (fa_174 n dp e I L i1 i2 i3).2.1
theorem f_174_2 (n dp : Nat) (e : EN) (I : (Nat → Nat → Int32)) (L : (Nat → Nat → Int64)) (i1 : Int32) (i2 : Int32) (i3 : Int32) : Pc (g_174 n dp e 2 I L i1 i2 i3) (F3 WI_174 WL_174 I L) := (fa_174 n dp e I L i1 i2 i3).2.2
def WI_178 : List (Nat × Nat) := [(88, 0)]
def WL_178 : List (Nat × Nat) := []
set_option maxHeartbeats 8000000 in
set_option maxRecDepth 100000 in
theorem fa_178 : ∀ (n dp : Nat) (e : EN) (I : (Nat → Nat → Int32)) (L : (Nat → Nat → Int64)) (i1 : Int32) (i2 : Int32), Pc (g_178 n dp e 0 I L i1 i2) (F3 WI_178 WL_178 I L) := by
  intro n
  induction n with
  | zero => intro dp e I L i1 i2; exact Pc_none
  | succ n ih =>
    intro dp e I L i1 i2
    · rw [e_178_0]
      repeat' first
        | with_reducible exact Pc_none
        | with_reducible exact Pc_s3
        | with_reducible refine Pc_ite ?_ ?_
        | ((with_reducible refine Pc_c23 (f_175_0 _ _ _ _ _ _ _ _ _) ?_ ?_ (fun _ _ => ?_)); exact (sbs_of rfl); exact sbs_of rfl; dsimp only)
theorem f_178_0 (n dp : Nat) (e : EN) (I : (Nat → Nat → Int32)) (L : (Nat → Nat → Int64)) (i1 : Int32) (i2 : Int32) : Pc (g_178 n dp e 0 I L i1 i2) (F3 WI_178 WL_178 I L) := (fa_178 n dp e I L i1 i2)
def WI_173 : List (Nat × Nat) := [(88, 0)]
def WL_173 : List (Nat × Nat) := []
set_option maxHeartbeats 8000000 in
set_option maxRecDepth 100000 in
theorem fa_173 : ∀ (n dp : Nat) (e : EN) (I : (Nat → Nat → Int32)) (L : (Nat → Nat → Int64)) (i1 : Int32) (i2 : Int32), Pc (g_173 n dp e 0 I L i1 i2) (F3 WI_173 WL_173 I L) := by
  intro n
  induction n with
  | zero => intro dp e I L i1 i2; exact Pc_none
  | succ n ih =>
    intro dp e I L i1 i2
    · rw [e_173_0]
      repeat' first
        | with_reducible exact Pc_none
        | with_reducible exact Pc_s3
        | with_reducible refine Pc_ite ?_ ?_
        | ((with_reducible refine Pc_c33 (f_14_0 _ _ _ _ _ _ _ _) ?_ ?_ (fun _ _ _ => ?_)); exact (sbs_of rfl); exact sbs_of rfl; dsimp only)
        | ((with_reducible refine Pc_c33 (f_174_0 _ _ _ _ _ _ _ _) ?_ ?_ (fun _ _ _ => ?_)); exact (sbs_of rfl); exact sbs_of rfl; dsimp only)
        | ((with_reducible refine Pc_c33 (f_178_0 _ _ _ _ _ _ _) ?_ ?_ (fun _ _ _ => ?_)); exact (sbs_of rfl); exact sbs_of rfl; dsimp only)
theorem f_173_0 (n dp : Nat) (e : EN) (I : (Nat → Nat → Int32)) (L : (Nat → Nat → Int64)) (i1 : Int32) (i2 : Int32) : Pc (g_173 n dp e 0 I L i1 i2) (F3 WI_173 WL_173 I L) := (fa_173 n dp e I L i1 i2)
def WI_179 : List (Nat × Nat) := [(8, 0), (1, 0), (0, 0), (92, 0)]
def WL_179 : List (Nat × Nat) := []
set_option maxHeartbeats 8000000 in
set_option maxRecDepth 100000 in
theorem fa_179 : ∀ (n dp : Nat) (e : EN) (I : (Nat → Nat → Int32)) (L : (Nat → Nat → Int64)) (i1 : Int32) (i2 : Int32), Pc (g_179 n dp e 0 I L i1 i2) (F3 WI_179 WL_179 I L) := by
  intro n
  induction n with
  | zero => intro dp e I L i1 i2; exact Pc_none
  | succ n ih =>
    intro dp e I L i1 i2
    · rw [e_179_0]
      repeat' first
        | with_reducible exact Pc_none
        | with_reducible exact Pc_s3
        | with_reducible refine Pc_ite ?_ ?_
        | ((with_reducible refine Pc_c33 (f_14_0 _ _ _ _ _ _ _ _) ?_ ?_ (fun _ _ _ => ?_)); exact (sbs_of rfl); exact sbs_of rfl; dsimp only)
        | ((with_reducible refine Pc_c33 (f_15_0 _ _ _ _ _ _) ?_ ?_ (fun _ _ _ => ?_)); exact (sbs_of rfl); exact sbs_of rfl; dsimp only)
        | ((with_reducible refine Pc_c33 (f_19_0 _ _ _ _ _ _) ?_ ?_ (fun _ _ _ => ?_)); exact (sbs_of rfl); exact sbs_of rfl; dsimp only)
        | ((with_reducible refine Pc_u3 ?_ (fun _ => ?_)); exact rfl)
        | with_reducible refine Pc_st (fun _ => ?_)
theorem f_179_0 (n dp : Nat) (e : EN) (I : (Nat → Nat → Int32)) (L : (Nat → Nat → Int64)) (i1 : Int32) (i2 : Int32) : Pc (g_179 n dp e 0 I L i1 i2) (F3 WI_179 WL_179 I L) := (fa_179 n dp e I L i1 i2)
def WI_180 : List (Nat × Nat) := []
def WL_180 : List (Nat × Nat) := []
set_option maxHeartbeats 8000000 in
set_option maxRecDepth 100000 in
theorem fa_180 : ∀ (n dp : Nat) (e : EN) (I : (Nat → Nat → Int32)) (L : (Nat → Nat → Int64)) (i1 : Int32) (i2 : Int32) (i3 : Int32) (i4 : Int32) (i5 : Int32) (i6 : Int32) (i7 : Int32), Pc (g_180 n dp e 0 I L i1 i2 i3 i4 i5 i6 i7) (F3 WI_180 WL_180 I L) ∧
    Pc (g_180 n dp e 1 I L i1 i2 i3 i4 i5 i6 i7) (F3 WI_180 WL_180 I L) ∧
    Pc (g_180 n dp e 2 I L i1 i2 i3 i4 i5 i6 i7) (F3 WI_180 WL_180 I L) := by
  intro n
  induction n with
  | zero => intro dp e I L i1 i2 i3 i4 i5 i6 i7; exact ⟨Pc_none, Pc_none, Pc_none⟩
  | succ n ih =>
    intro dp e I L i1 i2 i3 i4 i5 i6 i7
    refine ⟨?_, ?_, ?_⟩
    · rw [e_180_0]
      repeat' first
        | with_reducible exact Pc_none
        | with_reducible exact Pc_s3
        | with_reducible refine Pc_ite ?_ ?_
        | ((with_reducible refine Pc_c33 (f_14_0 _ _ _ _ _ _ _ _) ?_ ?_ (fun _ _ _ => ?_)); exact (sbs_of rfl); exact sbs_of rfl; dsimp only)
        | with_reducible exact (ih _ _ _ _ _ _ _ _ _ _ _).2.1
    · rw [e_180_1]
      repeat' first
        | with_reducible exact Pc_none
        | with_reducible exact Pc_s3
        | with_reducible refine Pc_ite ?_ ?_
        | with_reducible exact (ih _ _ _ _ _ _ _ _ _ _ _).2.2
        | with_reducible refine Pc_st (fun _ => ?_)
    · rw [e_180_2]
      repeat' first
        | with_reducible exact Pc_none
        | with_reducible exact Pc_s3
        | with_reducible exact (ih _ _ _ _ _ _ _ _ _ _ _).2.1
theorem f_180_0 (n dp : Nat) (e : EN) (I : (Nat → Nat → Int32)) (L : (Nat → Nat → Int64)) (i1 : Int32) (i2 : Int32) (i3 : Int32) (i4 : Int32) (i5 : Int32) (i6 : Int32) (i7 : Int32) : Pc (g_180 n dp e 0 I L i1 i2 i3 i4 i5 i6 i7) (F3 WI_180 WL_180 I L) := (fa_180 n dp e I L i1 i2 i3 i4 i5 i6 i7).1
theorem f_180_1 (n dp : Nat) (e : EN) (I : (Nat → Nat → Int32)) (L : (Nat → Nat → Int64)) (i1 : Int32) (i2 : Int32) (i3 : Int32) (i4 : Int32) (i5 : Int32) (i6 : Int32) (i7 : Int32) : Pc (g_180 n dp e 1 I L i1 i2 i3 i4 i5 i6 i7) (F3 WI_180 WL_180 I L) := (fa_180 n dp e I L i1 i2 i3 i4 i5 i6 i7).2.1
theorem f_180_2 (n dp : Nat) (e : EN) (I : (Nat → Nat → Int32)) (L : (Nat → Nat → Int64)) (i1 : Int32) (i2 : Int32) (i3 : Int32) (i4 : Int32) (i5 : Int32) (i6 : Int32) (i7 : Int32) : Pc (g_180 n dp e 2 I L i1 i2 i3 i4 i5 i6 i7) (F3 WI_180 WL_180 I L) := (fa_180 n dp e I L i1 i2 i3 i4 i5 i6 i7).2.2
def WI_182 : List (Nat × Nat) := [(90, 0)]
def WL_182 : List (Nat × Nat) := []
set_option maxHeartbeats 8000000 in
set_option maxRecDepth 100000 in
theorem fa_182 : ∀ (n dp : Nat) (e : EN) (I : (Nat → Nat → Int32)) (L : (Nat → Nat → Int64)) (i1 : Int32) (i2 : Int32) (i3 : Int32), Pc (g_182 n dp e 0 I L i1 i2 i3) (F2 WI_182 WL_182 I L) ∧
    Pc (g_182 n dp e 1 I L i1 i2 i3) (F2 WI_182 WL_182 I L) := by
  intro n
  induction n with
  | zero => intro dp e I L i1 i2 i3; exact ⟨Pc_none, Pc_none⟩
  | succ n ih =>
    intro dp e I L i1 i2 i3
    refine ⟨?_, ?_⟩
    · rw [e_182_0]
      repeat' first
        | with_reducible exact Pc_none
        | with_reducible exact Pc_s2
        | with_reducible exact (ih _ _ _ _ _ _ _).2
    · rw [e_182_1]
      repeat' first
        | with_reducible exact Pc_none
        | with_reducible exact Pc_s2
        | with_reducible refine Pc_ite ?_ ?_
        | with_reducible exact (ih _ _ _ _ _ _ _).2
        | ((with_reducible refine Pc_u2 ?_ (fun _ => ?_)); exact rfl)
        | with_reducible refine Pc_st (fun _ => ?_)
theorem f_182_0 (n dp : Nat) (e : EN) (I : (Nat → Nat → Int32)) (L : (Nat → Nat → Int64)) (i1 : Int32) (i2 : Int32) (i3 : Int32) : Pc (g_182 n dp e 0 I L i1 i2 i3) (F2 WI_182 WL_182 I L) := (fa_182 n dp e I L i1 i2 i3).1
theorem f_182_1 (n dp : Nat) (e : EN) (I : (Nat → Nat → Int32)) (L : (Nat → Nat → Int64)) (i1 : Int32) (i2 : Int32) (i3 : Int32) : Pc (g_182 n dp e 1 I L i1 i2 i3) (F2 WI_182 WL_182 I L) := (fa_182 n dp e I L i1 i2 i3).2
def WI_183 : List (Nat × Nat) := []
def WL_183 : List (Nat × Nat) := []
set_option maxHeartbeats 8000000 in
set_option maxRecDepth 100000 in
theorem fa_183 : ∀ (n dp : Nat) (e : EN) (I : (Nat → Nat → Int32)) (L : (Nat → Nat → Int64)) (i1 : Int32) (i2 : Int32), Pc (g_183 n dp e 0 I L i1 i2) (F3 WI_183 WL_183 I L) := by
  intro n
  induction n with
  | zero => intro dp e I L i1 i2; exact Pc_none
  | succ n ih =>
    intro dp e I L i1 i2
    · rw [e_183_0]
      repeat' first
        | with_reducible exact Pc_none
        | with_reducible exact Pc_s3
        | with_reducible refine Pc_ite ?_ ?_
        | ((with_reducible refine Pc_c33 (f_14_0 _ _ _ _ _ _ _ _) ?_ ?_ (fun _ _ _ => ?_)); exact (sbs_of rfl); exact sbs_of rfl; dsimp only)
theorem f_183_0 (n dp : Nat) (e : EN) (I : (Nat → Nat → Int32)) (L : (Nat → Nat → Int64)) (i1 : Int32) (i2 : Int32) : Pc (g_183 n dp e 0 I L i1 i2) (F3 WI_183 WL_183 I L) := (fa_183 n dp e I L i1 i2)
def WI_186 (e : EN) (a0 : Nat) : List (Nat × Nat) := [(a0, 11), (a0, 12), (a0, 13), (a0, 14), (((e.2.2 a0 0).getD 0), 0), (((e.2.2 a0 1).getD 0), 0), (((e.2.2 a0 2).getD 0), 0), (((e.2.2 a0 3).getD 0), 0), (((e.2.2 a0 4).getD 0), 0), (((e.2.2 a0 5).getD 0), 0), (((e.2.2 a0 6).getD 0), 0), (((e.2.2 a0 7).getD 0), 0), (((e.2.2 a0 8).getD 0), 0), (((e.2.2 a0 9).getD 0), 0)]
def WL_186 : List (Nat × Nat) := []
set_option maxHeartbeats 8000000 in
set_option maxRecDepth 100000 in
theorem fa_186 : ∀ (n dp : Nat) (e : EN) (I : (Nat → Nat → Int32)) (L : (Nat → Nat → Int64)) (a0 : Nat) (a1 : Nat), Pc (g_186 n dp e 0 I L a0 a1) (F2 (WI_186 e a0) WL_186 I L) := by
  intro n
  induction n with
  | zero => intro dp e I L a0 a1; exact Pc_none
  | succ n ih =>
    intro dp e I L a0 a1
    · rw [e_186_0]
      repeat' first
        | with_reducible exact Pc_none
        | with_reducible exact Pc_s2
        | with_reducible refine Pc_ite ?_ ?_
        | ((with_reducible refine Pc_u2 ?_ (fun _ => ?_)); exact (by first | exact rfl | exact fw_as 0 rfl | exact fw_as 1 rfl | exact fw_as 2 rfl | exact fw_as 3 rfl | exact fw_at 4 rfl | exact fw_at 5 rfl | exact fw_at 6 rfl | exact fw_at 7 rfl | exact fw_at 8 rfl | exact fw_at 9 rfl | exact fw_at 10 rfl | exact fw_at 11 rfl | exact fw_at 12 rfl | exact fw_at 13 rfl))
        | ((with_reducible refine Pc_v2 ?_ (fun _ => ?_)); exact (by first | exact rfl | exact fwa_at 4 rfl | exact fwa_at 5 rfl | exact fwa_at 6 rfl | exact fwa_at 7 rfl | exact fwa_at 8 rfl | exact fwa_at 9 rfl | exact fwa_at 10 rfl | exact fwa_at 11 rfl | exact fwa_at 12 rfl | exact fwa_at 13 rfl))
        | with_reducible refine Pc_bR ?_
        | with_reducible refine Pc_st (fun _ => ?_)
theorem f_186_0 (n dp : Nat) (e : EN) (I : (Nat → Nat → Int32)) (L : (Nat → Nat → Int64)) (a0 : Nat) (a1 : Nat) : Pc (g_186 n dp e 0 I L a0 a1) (F2 (WI_186 e a0) WL_186 I L) := (fa_186 n dp e I L a0 a1)
def WI_185 (e : EN) (a0 : Nat) : List (Nat × Nat) := [(a0, 9), (a0, 10), (a0, 11), (a0, 12), (a0, 13), (((e.2.2 a0 0).getD 0), 0), (((e.2.2 a0 1).getD 0), 0), (((e.2.2 a0 2).getD 0), 0), (((e.2.2 a0 3).getD 0), 0), (((e.2.2 a0 4).getD 0), 0), (((e.2.2 a0 5).getD 0), 0), (((e.2.2 a0 6).getD 0), 0), (((e.2.2 a0 7).getD 0), 11), (((e.2.2 a0 7).getD 0), 12), (((e.2.2 a0 7).getD 0), 13), (((e.2.2 a0 7).getD 0), 14), (((e.2.2 ((e.2.2 a0 7).getD 0) 0).getD 0), 0), (((e.2.2 ((e.2.2 a0 7).getD 0) 1).getD 0), 0), (((e.2.2 ((e.2.2 a0 7).getD 0) 2).getD 0), 0), (((e.2.2 ((e.2.2 a0 7).getD 0) 3).getD 0), 0), (((e.2.2 ((e.2.2 a0 7).getD 0) 4).getD 0), 0), (((e.2.2 ((e.2.2 a0 7).getD 0) 5).getD 0), 0), (((e.2.2 ((e.2.2 a0 7).getD 0) 6).getD 0), 0), (((e.2.2 ((e.2.2 a0 7).getD 0) 7).getD 0), 0), (((e.2.2 ((e.2.2 a0 7).getD 0) 8).getD 0), 0), (((e.2.2 ((e.2.2 a0 7).getD 0) 9).getD 0), 0)]
def WL_185 : List (Nat × Nat) := []
set_option maxHeartbeats 8000000 in
set_option maxRecDepth 100000 in
theorem fa_185 : ∀ (n dp : Nat) (e : EN) (I : (Nat → Nat → Int32)) (L : (Nat → Nat → Int64)) (a0 : Nat) (a1 : Nat), Pc (g_185 n dp e 0 I L a0 a1) (F2 (WI_185 e a0) WL_185 I L) := by
  intro n
  induction n with
  | zero => intro dp e I L a0 a1; exact Pc_none
  | succ n ih =>
    intro dp e I L a0 a1
    · rw [e_185_0]
      repeat' first
        | with_reducible exact Pc_none
        | with_reducible exact Pc_s2
        | with_reducible refine Pc_ite ?_ ?_
        | ((with_reducible refine Pc_c22 (f_186_0 _ _ _ _ _ _ _) ?_ ?_ (fun _ _ => ?_)); exact (sbs_cons (mem_at 12 rfl) (sbs_cons (mem_at 13 rfl) (sbs_cons (mem_at 14 rfl) (sbs_cons (mem_at 15 rfl) (sbs_cons (mem_at 16 rfl) (sbs_cons (mem_at 17 rfl) (sbs_cons (mem_at 18 rfl) (sbs_cons (mem_at 19 rfl) (sbs_cons (mem_at 20 rfl) (sbs_cons (mem_at 21 rfl) (sbs_cons (mem_at 22 rfl) (sbs_cons (mem_at 23 rfl) (sbs_cons (mem_at 24 rfl) (sbs_cons (mem_at 25 rfl) (sbs_nil))))))))))))))); exact sbs_of rfl; dsimp only)
        | ((with_reducible refine Pc_u2 ?_ (fun _ => ?_)); exact (by first | exact rfl | exact fw_as 0 rfl | exact fw_as 1 rfl | exact fw_as 2 rfl | exact fw_as 3 rfl | exact fw_as 4 rfl | exact fw_at 5 rfl | exact fw_at 6 rfl | exact fw_at 7 rfl | exact fw_at 8 rfl | exact fw_at 9 rfl | exact fw_at 10 rfl | exact fw_at 11 rfl | exact fw_as 12 rfl | exact fw_as 13 rfl | exact fw_as 14 rfl | exact fw_as 15 rfl | exact fw_at 16 rfl | exact fw_at 17 rfl | exact fw_at 18 rfl | exact fw_at 19 rfl | exact fw_at 20 rfl | exact fw_at 21 rfl | exact fw_at 22 rfl | exact fw_at 23 rfl | exact fw_at 24 rfl | exact fw_at 25 rfl))
        | ((with_reducible refine Pc_v2 ?_ (fun _ => ?_)); exact (by first | exact rfl | exact fwa_at 5 rfl | exact fwa_at 6 rfl | exact fwa_at 7 rfl | exact fwa_at 8 rfl | exact fwa_at 9 rfl | exact fwa_at 10 rfl | exact fwa_at 11 rfl | exact fwa_at 16 rfl | exact fwa_at 17 rfl | exact fwa_at 18 rfl | exact fwa_at 19 rfl | exact fwa_at 20 rfl | exact fwa_at 21 rfl | exact fwa_at 22 rfl | exact fwa_at 23 rfl | exact fwa_at 24 rfl | exact fwa_at 25 rfl))
        | with_reducible refine Pc_bR ?_
        | with_reducible refine Pc_st (fun _ => ?_)
theorem f_185_0 (n dp : Nat) (e : EN) (I : (Nat → Nat → Int32)) (L : (Nat → Nat → Int64)) (a0 : Nat) (a1 : Nat) : Pc (g_185 n dp e 0 I L a0 a1) (F2 (WI_185 e a0) WL_185 I L) := (fa_185 n dp e I L a0 a1)
def WI_187 (e : EN) : List (Nat × Nat) := [(0, 0), (92, 0), (1, 9), (1, 10), (1, 11), (1, 12), (1, 13), (((e.2.2 1 0).getD 0), 0), (((e.2.2 1 1).getD 0), 0), (((e.2.2 1 2).getD 0), 0), (((e.2.2 1 3).getD 0), 0), (((e.2.2 1 4).getD 0), 0), (((e.2.2 1 5).getD 0), 0), (((e.2.2 1 6).getD 0), 0), (((e.2.2 1 7).getD 0), 11), (((e.2.2 1 7).getD 0), 12), (((e.2.2 1 7).getD 0), 13), (((e.2.2 1 7).getD 0), 14), (((e.2.2 ((e.2.2 1 7).getD 0) 0).getD 0), 0), (((e.2.2 ((e.2.2 1 7).getD 0) 1).getD 0), 0), (((e.2.2 ((e.2.2 1 7).getD 0) 2).getD 0), 0), (((e.2.2 ((e.2.2 1 7).getD 0) 3).getD 0), 0), (((e.2.2 ((e.2.2 1 7).getD 0) 4).getD 0), 0), (((e.2.2 ((e.2.2 1 7).getD 0) 5).getD 0), 0), (((e.2.2 ((e.2.2 1 7).getD 0) 6).getD 0), 0), (((e.2.2 ((e.2.2 1 7).getD 0) 7).getD 0), 0), (((e.2.2 ((e.2.2 1 7).getD 0) 8).getD 0), 0), (((e.2.2 ((e.2.2 1 7).getD 0) 9).getD 0), 0), (24, 0), (73, 0), (81, 0)]
def WL_187 : List (Nat × Nat) := []
set_option maxHeartbeats 8000000 in
set_option maxRecDepth 100000 in
theorem fa_187 : ∀ (n dp : Nat) (e : EN) (I : (Nat → Nat → Int32)) (L : (Nat → Nat → Int64)) (i1 : Int32), Pc (g_187 n dp e 0 I L i1) (F3 (WI_187 e) WL_187 I L) := by
  intro n
  induction n with
  | zero => intro dp e I L i1; exact Pc_none
  | succ n ih =>
    intro dp e I L i1
    · rw [e_187_0]
      repeat' first
        | with_reducible exact Pc_none
        | with_reducible exact Pc_s3
        | with_reducible refine Pc_ite ?_ ?_
        | ((with_reducible refine Pc_c33 (f_14_0 _ _ _ _ _ _ _ _) ?_ ?_ (fun _ _ _ => ?_)); exact (sbs_nil); exact sbs_of rfl; dsimp only)
        | ((with_reducible refine Pc_c33 (f_15_0 _ _ _ _ _ _) ?_ ?_ (fun _ _ _ => ?_)); exact (sbs_cons (mem_at 0 rfl) (sbs_cons (mem_at 1 rfl) (sbs_nil))); exact sbs_of rfl; dsimp only)
        | ((with_reducible refine Pc_c23 (f_185_0 _ _ _ _ _ _ _) ?_ ?_ (fun _ _ => ?_)); exact (sbs_cons (mem_at 2 rfl) (sbs_cons (mem_at 3 rfl) (sbs_cons (mem_at 4 rfl) (sbs_cons (mem_at 5 rfl) (sbs_cons (mem_at 6 rfl) (sbs_cons (mem_at 7 rfl) (sbs_cons (mem_at 8 rfl) (sbs_cons (mem_at 9 rfl) (sbs_cons (mem_at 10 rfl) (sbs_cons (mem_at 11 rfl) (sbs_cons (mem_at 12 rfl) (sbs_cons (mem_at 13 rfl) (sbs_cons (mem_at 14 rfl) (sbs_cons (mem_at 15 rfl) (sbs_cons (mem_at 16 rfl) (sbs_cons (mem_at 17 rfl) (sbs_cons (mem_at 18 rfl) (sbs_cons (mem_at 19 rfl) (sbs_cons (mem_at 20 rfl) (sbs_cons (mem_at 21 rfl) (sbs_cons (mem_at 22 rfl) (sbs_cons (mem_at 23 rfl) (sbs_cons (mem_at 24 rfl) (sbs_cons (mem_at 25 rfl) (sbs_cons (mem_at 26 rfl) (sbs_cons (mem_at 27 rfl) (sbs_nil))))))))))))))))))))))))))); exact sbs_of rfl; dsimp only)
        | ((with_reducible refine Pc_c23 (f_21_0 _ _ _ _ _) ?_ ?_ (fun _ _ => ?_)); exact (sbs_cons (mem_at 28 rfl) (sbs_cons (mem_at 29 rfl) (sbs_nil))); exact sbs_of rfl; dsimp only)
        | ((with_reducible refine Pc_c23 (f_25_0 _ _ _ _ _) ?_ ?_ (fun _ _ => ?_)); exact (sbs_cons (mem_at 28 rfl) (sbs_nil)); exact sbs_of rfl; dsimp only)
        | ((with_reducible refine Pc_c23 (f_157_0 _ _ _ _ _) ?_ ?_ (fun _ _ => ?_)); exact (sbs_cons (mem_at 30 rfl) (sbs_nil)); exact sbs_of rfl; dsimp only)
        | ((with_reducible refine Pc_c33 (f_19_0 _ _ _ _ _ _) ?_ ?_ (fun _ _ _ => ?_)); exact (sbs_cons (mem_at 0 rfl) (sbs_nil)); exact sbs_of rfl; dsimp only)
        | with_reducible refine Pc_bR ?_
        | with_reducible refine Pc_st (fun _ => ?_)
        | split
theorem f_187_0 (n dp : Nat) (e : EN) (I : (Nat → Nat → Int32)) (L : (Nat → Nat → Int64)) (i1 : Int32) : Pc (g_187 n dp e 0 I L i1) (F3 (WI_187 e) WL_187 I L) := (fa_187 n dp e I L i1)
def WI_189 : List (Nat × Nat) := []
def WL_189 : List (Nat × Nat) := []
set_option maxHeartbeats 8000000 in
set_option maxRecDepth 100000 in
theorem fa_189 : ∀ (n dp : Nat) (e : EN) (I : (Nat → Nat → Int32)) (L : (Nat → Nat → Int64)) (i1 : Int32) (i2 : Int32), Pc (g_189 n dp e 0 I L i1 i2) (F3 WI_189 WL_189 I L) ∧
    Pc (g_189 n dp e 1 I L i1 i2) (F3 WI_189 WL_189 I L) := by
  intro n
  induction n with
  | zero => intro dp e I L i1 i2; exact ⟨Pc_none, Pc_none⟩
  | succ n ih =>
    intro dp e I L i1 i2
    refine ⟨?_, ?_⟩
    · rw [e_189_0]
      repeat' first
        | with_reducible exact Pc_none
        | with_reducible exact Pc_s3
        | with_reducible exact (ih _ _ _ _ _ _).2
    · rw [e_189_1]
      repeat' first
        | with_reducible exact Pc_none
        | with_reducible exact Pc_s3
        | with_reducible refine Pc_ite ?_ ?_
        | with_reducible exact (ih _ _ _ _ _ _).2
        | with_reducible refine Pc_st (fun _ => ?_)
theorem f_189_0 (n dp : Nat) (e : EN) (I : (Nat → Nat → Int32)) (L : (Nat → Nat → Int64)) (i1 : Int32) (i2 : Int32) : Pc (g_189 n dp e 0 I L i1 i2) (F3 WI_189 WL_189 I L) := (fa_189 n dp e I L i1 i2).1
theorem f_189_1 (n dp : Nat) (e : EN) (I : (Nat → Nat → Int32)) (L : (Nat → Nat → Int64)) (i1 : Int32) (i2 : Int32) : Pc (g_189 n dp e 1 I L i1 i2) (F3 WI_189 WL_189 I L) := (fa_189 n dp e I L i1 i2).2
def WI_188 : List (Nat × Nat) := []
def WL_188 : List (Nat × Nat) := []
set_option maxHeartbeats 8000000 in
set_option maxRecDepth 100000 in
theorem fa_188 : ∀ (n dp : Nat) (e : EN) (I : (Nat → Nat → Int32)) (L : (Nat → Nat → Int64)) (i1 : Int32), Pc (g_188 n dp e 0 I L i1) (F3 WI_188 WL_188 I L) := by
  intro n
  induction n with
  | zero => intro dp e I L i1; exact Pc_none
  | succ n ih =>
    intro dp e I L i1
    · rw [e_188_0]
      repeat' first
        | with_reducible exact Pc_none
        | with_reducible exact Pc_s3
        | with_reducible refine Pc_ite ?_ ?_
        | ((with_reducible refine Pc_c33 (f_14_0 _ _ _ _ _ _ _ _) ?_ ?_ (fun _ _ _ => ?_)); exact (sbs_of rfl); exact sbs_of rfl; dsimp only)
        | ((with_reducible refine Pc_c33 (f_16_0 _ _ _ _ _) ?_ ?_ (fun _ _ _ => ?_)); exact (sbs_of rfl); exact sbs_of rfl; dsimp only)
        | ((with_reducible refine Pc_c33 (f_189_0 _ _ _ _ _ _ _) ?_ ?_ (fun _ _ _ => ?_)); exact (sbs_of rfl); exact sbs_of rfl; dsimp only)
        | ((with_reducible refine Pc_c33 (f_24_0 _ _ _ _ _ _ _) ?_ ?_ (fun _ _ _ => ?_)); exact (sbs_of rfl); exact sbs_of rfl; dsimp only)
        | with_reducible refine Pc_bR ?_
theorem f_188_0 (n dp : Nat) (e : EN) (I : (Nat → Nat → Int32)) (L : (Nat → Nat → Int64)) (i1 : Int32) : Pc (g_188 n dp e 0 I L i1) (F3 WI_188 WL_188 I L) := (fa_188 n dp e I L i1)
def WI_190 : List (Nat × Nat) := []
def WL_190 : List (Nat × Nat) := []
set_option maxHeartbeats 8000000 in
set_option maxRecDepth 100000 in
theorem fa_190 : ∀ (n dp : Nat) (e : EN) (I : (Nat → Nat → Int32)) (L : (Nat → Nat → Int64)), Pc (g_190 n dp e 0 I L) (F3 WI_190 WL_190 I L) := by
  intro n
  induction n with
  | zero => intro dp e I L; exact Pc_none
  | succ n ih =>
    intro dp e I L
    · rw [e_190_0]
      repeat' first
        | with_reducible exact Pc_none
        | with_reducible exact Pc_s3
theorem f_190_0 (n dp : Nat) (e : EN) (I : (Nat → Nat → Int32)) (L : (Nat → Nat → Int64)) : Pc (g_190 n dp e 0 I L) (F3 WI_190 WL_190 I L) := (fa_190 n dp e I L)
def WI_193 : List (Nat × Nat) := []
def WL_193 : List (Nat × Nat) := []
set_option maxHeartbeats 8000000 in
set_option maxRecDepth 100000 in
theorem fa_193 : ∀ (n dp : Nat) (e : EN) (I : (Nat → Nat → Int32)) (L : (Nat → Nat → Int64)) (j0 : Int64) (j2 : Int64) (j4 : Int64), Pc (g_193 n dp e 0 I L j0 j2 j4) (F3 WI_193 WL_193 I L) := by
  intro n
  induction n with
  | zero => intro dp e I L j0 j2 j4; exact Pc_none
  | succ n ih =>
    intro dp e I L j0 j2 j4
    · rw [e_193_0]
      repeat' first
        | with_reducible exact Pc_none
        | with_reducible exact Pc_s3
        | with_reducible refine Pc_ite ?_ ?_
theorem f_193_0 (n dp : Nat) (e : EN) (I : (Nat → Nat → Int32)) (L : (Nat → Nat → Int64)) (j0 : Int64) (j2 : Int64) (j4 : Int64) : Pc (g_193 n dp e 0 I L j0 j2 j4) (F3 WI_193 WL_193 I L) := (fa_193 n dp e I L j0 j2 j4)
def WI_194 : List (Nat × Nat) := [(105, 0), (106, 0)]
def WL_194 : List (Nat × Nat) := []
set_option maxHeartbeats 8000000 in
set_option maxRecDepth 100000 in
theorem fa_194 : ∀ (n dp : Nat) (e : EN) (I : (Nat → Nat → Int32)) (L : (Nat → Nat → Int64)) (i1 : Int32), Pc (g_194 n dp e 0 I L i1) (F3 WI_194 WL_194 I L) := by
  intro n
  induction n with
  | zero => intro dp e I L i1; exact Pc_none
  | succ n ih =>
    intro dp e I L i1
    · rw [e_194_0]
      repeat' first
        | with_reducible exact Pc_none
        | with_reducible exact Pc_s3
        | with_reducible refine Pc_ite ?_ ?_
        | ((with_reducible refine Pc_u3 ?_ (fun _ => ?_)); exact rfl)
        | with_reducible refine Pc_st (fun _ => ?_)
theorem f_194_0 (n dp : Nat) (e : EN) (I : (Nat → Nat → Int32)) (L : (Nat → Nat → Int64)) (i1 : Int32) : Pc (g_194 n dp e 0 I L i1) (F3 WI_194 WL_194 I L) := (fa_194 n dp e I L i1)
def WI_192 : List (Nat × Nat) := [(105, 0), (106, 0), (109, 0), (108, 0)]
def WL_192 : List (Nat × Nat) := []
set_option maxHeartbeats 8000000 in
set_option maxRecDepth 100000 in
theorem fa_192 : ∀ (n dp : Nat) (e : EN) (I : (Nat → Nat → Int32)) (L : (Nat → Nat → Int64)) (i1 : Int32) (i2 : Int32), Pc (g_192 n dp e 0 I L i1 i2) (F3 WI_192 WL_192 I L) ∧
    Pc (g_192 n dp e 1 I L i1 i2) (F3 WI_192 WL_192 I L) := by
  intro n
  induction n with
  | zero => intro dp e I L i1 i2; exact ⟨Pc_none, Pc_none⟩
  | succ n ih =>
    intro dp e I L i1 i2
    refine ⟨?_, ?_⟩
    · rw [e_192_0]
      repeat' first
        | with_reducible exact Pc_none
        | with_reducible exact Pc_s3
        | with_reducible refine Pc_ite ?_ ?_
        | ((with_reducible refine Pc_c33 (f_193_0 _ _ _ _ _ _ _ _) ?_ ?_ (fun _ _ _ => ?_)); exact (sbs_of rfl); exact sbs_of rfl; dsimp only)
        | ((with_reducible refine Pc_c33 (f_194_0 _ _ _ _ _ _) ?_ ?_ (fun _ _ _ => ?_)); exact (sbs_of rfl); exact sbs_of rfl; dsimp only)
        | with_reducible exact (ih _ _ _ _ _ _).2
        | ((with_reducible refine Pc_u3 ?_ (fun _ => ?_)); exact rfl)
        | with_reducible refine Pc_st (fun _ => ?_)
    · rw [e_192_1]
      repeat' first
        | with_reducible exact Pc_none
        | with_reducible exact Pc_s3
        | with_reducible refine Pc_ite ?_ ?_
        | ((with_reducible refine Pc_c33 (f_194_0 _ _ _ _ _ _) ?_ ?_ (fun _ _ _ => ?_)); exact (sbs_of rfl); exact sbs_of rfl; dsimp only)
        | with_reducible exact (ih _ _ _ _ _ _).2
        | ((with_reducible refine Pc_u3 ?_ (fun _ => ?_)); exact rfl)
        | with_reducible refine Pc_st (fun _ => ?_)
theorem f_192_0 (n dp : Nat) (e : EN) (I : (Nat → Nat → Int32)) (L : (Nat → Nat → Int64)) (i1 : Int32) (i2 : Int32) : Pc (g_192 n dp e 0 I L i1 i2) (F3 WI_192 WL_192 I L) := (fa_192 n dp e I L i1 i2).1
theorem f_192_1 (n dp : Nat) (e : EN) (I : (Nat → Nat → Int32)) (L : (Nat → Nat → Int64)) (i1 : Int32) (i2 : Int32) : Pc (g_192 n dp e 1 I L i1 i2) (F3 WI_192 WL_192 I L) := (fa_192 n dp e I L i1 i2).2
def WI_195 : List (Nat × Nat) := [(105, 0), (106, 0), (107, 0)]
def WL_195 : List (Nat × Nat) := []
set_option maxHeartbeats 8000000 in
set_option maxRecDepth 100000 in
theorem fa_195 : ∀ (n dp : Nat) (e : EN) (I : (Nat → Nat → Int32)) (L : (Nat → Nat → Int64)) (i1 : Int32) (i2 : Int32), Pc (g_195 n dp e 0 I L i1 i2) (F3 WI_195 WL_195 I L) ∧
    Pc (g_195 n dp e 1 I L i1 i2) (F3 WI_195 WL_195 I L) := by
  intro n
  induction n with
  | zero => intro dp e I L i1 i2; exact ⟨Pc_none, Pc_none⟩
  | succ n ih =>
    intro dp e I L i1 i2
    refine ⟨?_, ?_⟩
    · rw [e_195_0]
      repeat' first
        | with_reducible exact Pc_none
        | with_reducible exact Pc_s3
        | with_reducible refine Pc_ite ?_ ?_
        | ((with_reducible refine Pc_c33 (f_193_0 _ _ _ _ _ _ _ _) ?_ ?_ (fun _ _ _ => ?_)); exact (sbs_of rfl); exact sbs_of rfl; dsimp only)
        | ((with_reducible refine Pc_c33 (f_194_0 _ _ _ _ _ _) ?_ ?_ (fun _ _ _ => ?_)); exact (sbs_of rfl); exact sbs_of rfl; dsimp only)
        | with_reducible exact (ih _ _ _ _ _ _).2
        | ((with_reducible refine Pc_u3 ?_ (fun _ => ?_)); exact rfl)
        | with_reducible refine Pc_st (fun _ => ?_)
    · rw [e_195_1]
      repeat' first
        | with_reducible exact Pc_none
        | with_reducible exact Pc_s3
        | with_reducible refine Pc_ite ?_ ?_
        | ((with_reducible refine Pc_c33 (f_194_0 _ _ _ _ _ _) ?_ ?_ (fun _ _ _ => ?_)); exact (sbs_of rfl); exact sbs_of rfl; dsimp only)
        | with_reducible exact (ih _ _ _ _ _ _).2
        | ((with_reducible refine Pc_u3 ?_ (fun _ => ?_)); exact rfl)
        | with_reducible refine Pc_st (fun _ => ?_)
theorem f_195_0 (n dp : Nat) (e : EN) (I : (Nat → Nat → Int32)) (L : (Nat → Nat → Int64)) (i1 : Int32) (i2 : Int32) : Pc (g_195 n dp e 0 I L i1 i2) (F3 WI_195 WL_195 I L) := (fa_195 n dp e I L i1 i2).1
theorem f_195_1 (n dp : Nat) (e : EN) (I : (Nat → Nat → Int32)) (L : (Nat → Nat → Int64)) (i1 : Int32) (i2 : Int32) : Pc (g_195 n dp e 1 I L i1 i2) (F3 WI_195 WL_195 I L) := (fa_195 n dp e I L i1 i2).2
def WI_197 : List (Nat × Nat) := []
def WL_197 : List (Nat × Nat) := []
set_option maxHeartbeats 8000000 in
set_option maxRecDepth 100000 in
theorem fa_197 : ∀ (n dp : Nat) (e : EN) (I : (Nat → Nat → Int32)) (L : (Nat → Nat → Int64)) (i0 : Int32), Pc (g_197 n dp e 0 I L i0) (F3 WI_197 WL_197 I L) := by
  intro n
  induction n with
  | zero => intro dp e I L i0; exact Pc_none
  | succ n ih =>
    intro dp e I L i0
    · rw [e_197_0]
      repeat' first
        | with_reducible exact Pc_none
        | with_reducible exact Pc_s3
        | with_reducible refine Pc_ite ?_ ?_
        | ((with_reducible refine Pc_c33 (f_193_0 _ _ _ _ _ _ _ _) ?_ ?_ (fun _ _ _ => ?_)); exact (sbs_of rfl); exact sbs_of rfl; dsimp only)
theorem f_197_0 (n dp : Nat) (e : EN) (I : (Nat → Nat → Int32)) (L : (Nat → Nat → Int64)) (i0 : Int32) : Pc (g_197 n dp e 0 I L i0) (F3 WI_197 WL_197 I L) := (fa_197 n dp e I L i0)
def WI_198 : List (Nat × Nat) := []
def WL_198 : List (Nat × Nat) := []
set_option maxHeartbeats 8000000 in
set_option maxRecDepth 100000 in
theorem fa_198 : ∀ (n dp : Nat) (e : EN) (I : (Nat → Nat → Int32)) (L : (Nat → Nat → Int64)), Pc (g_198 n dp e 0 I L) (F3 WI_198 WL_198 I L) := by
  intro n
  induction n with
  | zero => intro dp e I L; exact Pc_none
  | succ n ih =>
    intro dp e I L
    · rw [e_198_0]
      repeat' first
        | with_reducible exact Pc_none
        | with_reducible exact Pc_s3
theorem f_198_0 (n dp : Nat) (e : EN) (I : (Nat → Nat → Int32)) (L : (Nat → Nat → Int64)) : Pc (g_198 n dp e 0 I L) (F3 WI_198 WL_198 I L) := (fa_198 n dp e I L)
def WI_200 : List (Nat × Nat) := [(105, 0)]
def WL_200 : List (Nat × Nat) := []
set_option maxHeartbeats 8000000 in
set_option maxRecDepth 100000 in
theorem fa_200 : ∀ (n dp : Nat) (e : EN) (I : (Nat → Nat → Int32)) (L : (Nat → Nat → Int64)) (i1 : Int32), Pc (g_200 n dp e 0 I L i1) (F3 WI_200 WL_200 I L) := by
  intro n
  induction n with
  | zero => intro dp e I L i1; exact Pc_none
  | succ n ih =>
    intro dp e I L i1
    · rw [e_200_0]
      repeat' first
        | with_reducible exact Pc_none
        | with_reducible exact Pc_s3
        | ((with_reducible refine Pc_u3 ?_ (fun _ => ?_)); exact rfl)
        | with_reducible refine Pc_st (fun _ => ?_)
theorem f_200_0 (n dp : Nat) (e : EN) (I : (Nat → Nat → Int32)) (L : (Nat → Nat → Int64)) (i1 : Int32) : Pc (g_200 n dp e 0 I L i1) (F3 WI_200 WL_200 I L) := (fa_200 n dp e I L i1)
def WI_199 : List (Nat × Nat) := [(107, 0), (105, 0)]
def WL_199 : List (Nat × Nat) := []
set_option maxHeartbeats 8000000 in
set_option maxRecDepth 100000 in
theorem fa_199 : ∀ (n dp : Nat) (e : EN) (I : (Nat → Nat → Int32)) (L : (Nat → Nat → Int64)) (i1 : Int32) (i2 : Int32), Pc (g_199 n dp e 0 I L i1 i2) (F3 WI_199 WL_199 I L) := by
  intro n
  induction n with
  | zero => intro dp e I L i1 i2; exact Pc_none
  | succ n ih =>
    intro dp e I L i1 i2
    · rw [e_199_0]
      repeat' first
        | with_reducible exact Pc_none
        | with_reducible exact Pc_s3
        | with_reducible refine Pc_ite ?_ ?_
        | ((with_reducible refine Pc_c33 (f_200_0 _ _ _ _ _ _) ?_ ?_ (fun _ _ _ => ?_)); exact (sbs_of rfl); exact sbs_of rfl; dsimp only)
        | ((with_reducible refine Pc_u3 ?_ (fun _ => ?_)); exact rfl)
        | with_reducible refine Pc_st (fun _ => ?_)
theorem f_199_0 (n dp : Nat) (e : EN) (I : (Nat → Nat → Int32)) (L : (Nat → Nat → Int64)) (i1 : Int32) (i2 : Int32) : Pc (g_199 n dp e 0 I L i1 i2) (F3 WI_199 WL_199 I L) := (fa_199 n dp e I L i1 i2)
def WI_196 : List (Nat × Nat) := [(105, 0), (106, 0), (107, 0)]
def WL_196 : List (Nat × Nat) := []
set_option maxHeartbeats 8000000 in
set_option maxRecDepth 100000 in
theorem fa_196 : ∀ (n dp : Nat) (e : EN) (I : (Nat → Nat → Int32)) (L : (Nat → Nat → Int64)) (i1 : Int32) (i2 : Int32), Pc (g_196 n dp e 0 I L i1 i2) (F3 WI_196 WL_196 I L) := by
  intro n
  induction n with
  | zero => intro dp e I L i1 i2; exact Pc_none
  | succ n ih =>
    intro dp e I L i1 i2
    · rw [e_196_0]
      repeat' first
        | with_reducible exact Pc_none
        | with_reducible exact Pc_s3
        | with_reducible refine Pc_ite ?_ ?_
        | ((with_reducible refine Pc_c33 (f_197_0 _ _ _ _ _ _) ?_ ?_ (fun _ _ _ => ?_)); exact (sbs_of rfl); exact sbs_of rfl; dsimp only)
        | ((with_reducible refine Pc_c33 (f_194_0 _ _ _ _ _ _) ?_ ?_ (fun _ _ _ => ?_)); exact (sbs_of rfl); exact sbs_of rfl; dsimp only)
        | ((with_reducible refine Pc_c33 (f_193_0 _ _ _ _ _ _ _ _) ?_ ?_ (fun _ _ _ => ?_)); exact (sbs_of rfl); exact sbs_of rfl; dsimp only)
        | ((with_reducible refine Pc_c33 (f_198_0 _ _ _ _ _) ?_ ?_ (fun _ _ _ => ?_)); exact (sbs_of rfl); exact sbs_of rfl; dsimp only)
        | ((with_reducible refine Pc_c33 (f_199_0 _ _ _ _ _ _ _) ?_ ?_ (fun _ _ _ => ?_)); exact (sbs_of rfl); exact sbs_of rfl; dsimp only)
        | ((with_reducible refine Pc_u3 ?_ (fun _ => ?_)); exact rfl)
        | with_reducible refine Pc_st (fun _ => ?_)
theorem f_196_0 (n dp : Nat) (e : EN) (I : (Nat → Nat → Int32)) (L : (Nat → Nat → Int64)) (i1 : Int32) (i2 : Int32) : Pc (g_196 n dp e 0 I L i1 i2) (F3 WI_196 WL_196 I L) := (fa_196 n dp e I L i1 i2)
def WI_202 : List (Nat × Nat) := []
def WL_202 : List (Nat × Nat) := []
set_option maxHeartbeats 8000000 in
set_option maxRecDepth 100000 in
theorem fa_202 : ∀ (n dp : Nat) (e : EN) (I : (Nat → Nat → Int32)) (L : (Nat → Nat → Int64)) (i0 : Int32), Pc (g_202 n dp e 0 I L i0) (F3 WI_202 WL_202 I L) := by
  intro n
  induction n with
  | zero => intro dp e I L i0; exact Pc_none
  | succ n ih =>
    intro dp e I L i0
    · rw [e_202_0]
      repeat' first
        | with_reducible exact Pc_none
        | with_reducible exact Pc_s3
        | with_reducible refine Pc_ite ?_ ?_
        | ((with_reducible refine Pc_c33 (f_193_0 _ _ _ _ _ _ _ _) ?_ ?_ (fun _ _ _ => ?_)); exact (sbs_of rfl); exact sbs_of rfl; dsimp only)
theorem f_202_0 (n dp : Nat) (e : EN) (I : (Nat → Nat → Int32)) (L : (Nat → Nat → Int64)) (i0 : Int32) : Pc (g_202 n dp e 0 I L i0) (F3 WI_202 WL_202 I L) := (fa_202 n dp e I L i0)
def WI_201 : List (Nat × Nat) := [(105, 0), (106, 0), (107, 0)]
def WL_201 : List (Nat × Nat) := []
set_option maxHeartbeats 8000000 in
set_option maxRecDepth 100000 in
theorem fa_201 : ∀ (n dp : Nat) (e : EN) (I : (Nat → Nat → Int32)) (L : (Nat → Nat → Int64)) (i1 : Int32) (i2 : Int32) (i3 : Int32), Pc (g_201 n dp e 0 I L i1 i2 i3) (F3 WI_201 WL_201 I L) := by
  intro n
  induction n with
  | zero => intro dp e I L i1 i2 i3; exact Pc_none
  | succ n ih =>
    intro dp e I L i1 i2 i3
    · rw [e_201_0]
      repeat' first
        | with_reducible exact Pc_none
        | with_reducible exact Pc_s3
        | with_reducible refine Pc_ite ?_ ?_
        | ((with_reducible refine Pc_c33 (f_202_0 _ _ _ _ _ _) ?_ ?_ (fun _ _ _ => ?_)); exact (sbs_of rfl); exact sbs_of rfl; dsimp only)
        | ((with_reducible refine Pc_c33 (f_194_0 _ _ _ _ _ _) ?_ ?_ (fun _ _ _ => ?_)); exact (sbs_of rfl); exact sbs_of rfl; dsimp only)
        | ((with_reducible refine Pc_c33 (f_197_0 _ _ _ _ _ _) ?_ ?_ (fun _ _ _ => ?_)); exact (sbs_of rfl); exact sbs_of rfl; dsimp only)
        | ((with_reducible refine Pc_c33 (f_193_0 _ _ _ _ _ _ _ _) ?_ ?_ (fun _ _ _ => ?_)); exact (sbs_of rfl); exact sbs_of rfl; dsimp only)
        | ((with_reducible refine Pc_c33 (f_199_0 _ _ _ _ _ _ _) ?_ ?_ (fun _ _ _ => ?_)); exact (sbs_of rfl); exact sbs_of rfl; dsimp only)
        | ((with_reducible refine Pc_u3 ?_ (fun _ => ?_)); exact rfl)
        | with_reducible refine Pc_st (fun _ => ?_)
theorem f_201_0 (n dp : Nat) (e : EN) (I : (Nat → Nat → Int32)) (L : (Nat → Nat → Int64)) (i1 : Int32) (i2 : Int32) (i3 : Int32) : Pc (g_201 n dp e 0 I L i1 i2 i3) (F3 WI_201 WL_201 I L) := (fa_201 n dp e I L i1 i2 i3)
def WI_204 : List (Nat × Nat) := []
def WL_204 : List (Nat × Nat) := []
set_option maxHeartbeats 8000000 in
set_option maxRecDepth 100000 in
theorem fa_204 : ∀ (n dp : Nat) (e : EN) (I : (Nat → Nat → Int32)) (L : (Nat → Nat → Int64)) (i1 : Int32) (i2 : Int32), Pc (g_204 n dp e 0 I L i1 i2) (F3 WI_204 WL_204 I L) ∧
    Pc (g_204 n dp e 1 I L i1 i2) (F3 WI_204 WL_204 I L) := by
  intro n
  induction n with
  | zero => intro dp e I L i1 i2; exact ⟨Pc_none, Pc_none⟩
  | succ n ih =>
    intro dp e I L i1 i2
    refine ⟨?_, ?_⟩
    · rw [e_204_0]
      repeat' first
        | with_reducible exact Pc_none
        | with_reducible exact Pc_s3
        | with_reducible exact (ih _ _ _ _ _ _).2
    · rw [e_204_1]
      repeat' first
        | with_reducible exact Pc_none
        | with_reducible exact Pc_s3
        | with_reducible refine Pc_ite ?_ ?_
        | with_reducible exact (ih _ _ _ _ _ _).2
theorem f_204_0 (n dp : Nat) (e : EN) (I : (Nat → Nat → Int32)) (L : (Nat → Nat → Int64)) (i1 : Int32) (i2 : Int32) : Pc (g_204 n dp e 0 I L i1 i2) (F3 WI_204 WL_204 I L) := (fa_204 n dp e I L i1 i2).1
theorem f_204_1 (n dp : Nat) (e : EN) (I : (Nat → Nat → Int32)) (L : (Nat → Nat → Int64)) (i1 : Int32) (i2 : Int32) : Pc (g_204 n dp e 1 I L i1 i2) (F3 WI_204 WL_204 I L) := (fa_204 n dp e I L i1 i2).2
def WI_203 : List (Nat × Nat) := [(105, 0), (106, 0), (107, 0)]
def WL_203 : List (Nat × Nat) := []
set_option maxHeartbeats 8000000 in
set_option maxRecDepth 100000 in
theorem fa_203 : ∀ (n dp : Nat) (e : EN) (I : (Nat → Nat → Int32)) (L : (Nat → Nat → Int64)) (i1 : Int32) (i2 : Int32) (i3 : Int32), Pc (g_203 n dp e 0 I L i1 i2 i3) (F3 WI_203 WL_203 I L) ∧
    Pc (g_203 n dp e 1 I L i1 i2 i3) (F3 WI_203 WL_203 I L) := by
  intro n
  induction n with
  | zero => intro dp e I L i1 i2 i3; exact ⟨Pc_none, Pc_none⟩
  | succ n ih =>
    intro dp e I L i1 i2 i3
    refine ⟨?_, ?_⟩
    · rw [e_203_0]
      repeat' first
        | with_reducible exact Pc_none
        | with_reducible exact Pc_s3
        | with_reducible refine Pc_ite ?_ ?_
        | ((with_reducible refine Pc_c33 (f_202_0 _ _ _ _ _ _) ?_ ?_ (fun _ _ _ => ?_)); exact (sbs_of rfl); exact sbs_of rfl; dsimp only)
        | ((with_reducible refine Pc_c33 (f_194_0 _ _ _ _ _ _) ?_ ?_ (fun _ _ _ => ?_)); exact (sbs_of rfl); exact sbs_of rfl; dsimp only)
        | ((with_reducible refine Pc_c33 (f_193_0 _ _ _ _ _ _ _ _) ?_ ?_ (fun _ _ _ => ?_)); exact (sbs_of rfl); exact sbs_of rfl; dsimp only)
        | with_reducible exact (ih _ _ _ _ _ _ _).2
        | ((with_reducible refine Pc_c33 (f_204_0 _ _ _ _ _ _ _) ?_ ?_ (fun _ _ _ => ?_)); exact (sbs_of rfl); exact sbs_of rfl; dsimp only)
        | ((with_reducible refine Pc_u3 ?_ (fun _ => ?_)); exact rfl)
        | with_reducible refine Pc_st (fun _ => ?_)
    · rw [e_203_1]
      repeat' first
        | with_reducible exact Pc_none
        | with_reducible exact Pc_s3
        | with_reducible refine Pc_ite ?_ ?_
        | ((with_reducible refine Pc_c33 (f_199_0 _ _ _ _ _ _ _) ?_ ?_ (fun _ _ _ => ?_)); exact (sbs_of rfl); exact sbs_of rfl; dsimp only)
theorem f_203_0 (n dp : Nat) (e : EN) (I : (Nat → Nat → Int32)) (L : (Nat → Nat → Int64)) (i1 : Int32) (i2 : Int32) (i3 : Int32) : Pc (g_203 n dp e 0 I L i1 i2 i3) (F3 WI_203 WL_203 I L) := (fa_203 n dp e I L i1 i2 i3).1
theorem f_203_1 (n dp : Nat) (e : EN) (I : (Nat → Nat → Int32)) (L : (Nat → Nat → Int64)) (i1 : Int32) (i2 : Int32) (i3 : Int32) : Pc (g_203 n dp e 1 I L i1 i2 i3) (F3 WI_203 WL_203 I L) := (fa_203 n dp e I L i1 i2 i3).2
def WI_205 : List (Nat × Nat) := [(105, 0), (107, 0), (106, 0)]
def WL_205 : List (Nat × Nat) := []
set_option maxHeartbeats 8000000 in
set_option maxRecDepth 100000 in
theorem fa_205 : ∀ (n dp : Nat) (e : EN) (I : (Nat → Nat → Int32)) (L : (Nat → Nat → Int64)) (i1 : Int32), Pc (g_205 n dp e 0 I L i1) (F3 WI_205 WL_205 I L) := by
  intro n
  induction n with
  | zero => intro dp e I L i1; exact Pc_none
  | succ n ih =>
    intro dp e I L i1
    · rw [e_205_0]
      repeat' first
        | with_reducible exact Pc_none
        | with_reducible exact Pc_s3
        | with_reducible refine Pc_ite ?_ ?_
        | ((with_reducible refine Pc_c33 (f_193_0 _ _ _ _ _ _ _ _) ?_ ?_ (fun _ _ _ => ?_)); exact (sbs_of rfl); exact sbs_of rfl; dsimp only)
        | ((with_reducible refine Pc_c33 (f_194_0 _ _ _ _ _ _) ?_ ?_ (fun _ _ _ => ?_)); exact (sbs_of rfl); exact sbs_of rfl; dsimp only)
        | ((with_reducible refine Pc_u3 ?_ (fun _ => ?_)); exact rfl)
        | with_reducible refine Pc_st (fun _ => ?_)
theorem f_205_0 (n dp : Nat) (e : EN) (I : (Nat → Nat → Int32)) (L : (Nat → Nat → Int64)) (i1 : Int32) : Pc (g_205 n dp e 0 I L i1) (F3 WI_205 WL_205 I L) := (fa_205 n dp e I L i1)
def WI_206 : List (Nat × Nat) := [(105, 0), (106, 0), (107, 0)]
def WL_206 : List (Nat × Nat) := []
set_option maxHeartbeats 8000000 in
set_option maxRecDepth 100000 in
theorem fa_206 : ∀ (n dp : Nat) (e : EN) (I : (Nat → Nat → Int32)) (L : (Nat → Nat → Int64)) (i1 : Int32) (i2 : Int32), Pc (g_206 n dp e 0 I L i1 i2) (F3 WI_206 WL_206 I L) := by
  intro n
  induction n with
  | zero => intro dp e I L i1 i2; exact Pc_none
  | succ n ih =>
    intro dp e I L i1 i2
    · rw [e_206_0]
      repeat' first
        | with_reducible exact Pc_none
        | with_reducible exact Pc_s3
        | with_reducible refine Pc_ite ?_ ?_
        | ((with_reducible refine Pc_c33 (f_193_0 _ _ _ _ _ _ _ _) ?_ ?_ (fun _ _ _ => ?_)); exact (sbs_of rfl); exact sbs_of rfl; dsimp only)
        | ((with_reducible refine Pc_c33 (f_194_0 _ _ _ _ _ _) ?_ ?_ (fun _ _ _ => ?_)); exact (sbs_of rfl); exact sbs_of rfl; dsimp only)
        | ((with_reducible refine Pc_c33 (f_199_0 _ _ _ _ _ _ _) ?_ ?_ (fun _ _ _ => ?_)); exact (sbs_of rfl); exact sbs_of rfl; dsimp only)
        | ((with_reducible refine Pc_u3 ?_ (fun _ => ?_)); exact rfl)
        | with_reducible refine Pc_st (fun _ => ?_)
theorem f_206_0 (n dp : Nat) (e : EN) (I : (Nat → Nat → Int32)) (L : (Nat → Nat → Int64)) (i1 : Int32) (i2 : Int32) : Pc (g_206 n dp e 0 I L i1 i2) (F3 WI_206 WL_206 I L) := (fa_206 n dp e I L i1 i2)
def WI_207 : List (Nat × Nat) := [(105, 0), (106, 0), (107, 0)]
def WL_207 : List (Nat × Nat) := []
set_option maxHeartbeats 8000000 in
set_option maxRecDepth 100000 in
theorem fa_207 : ∀ (n dp : Nat) (e : EN) (I : (Nat → Nat → Int32)) (L : (Nat → Nat → Int64)) (i1 : Int32) (i2 : Int32), Pc (g_207 n dp e 0 I L i1 i2) (F3 WI_207 WL_207 I L) := by
  intro n
  induction n with
  | zero => intro dp e I L i1 i2; exact Pc_none
  | succ n ih =>
    intro dp e I L i1 i2
    · rw [e_207_0]
      repeat' first
        | with_reducible exact Pc_none
        | with_reducible exact Pc_s3
        | with_reducible refine Pc_ite ?_ ?_
        | ((with_reducible refine Pc_c33 (f_193_0 _ _ _ _ _ _ _ _) ?_ ?_ (fun _ _ _ => ?_)); exact (sbs_of rfl); exact sbs_of rfl; dsimp only)
        | ((with_reducible refine Pc_c33 (f_194_0 _ _ _ _ _ _) ?_ ?_ (fun _ _ _ => ?_)); exact (sbs_of rfl); exact sbs_of rfl; dsimp only)
        | ((with_reducible refine Pc_c33 (f_199_0 _ _ _ _ _ _ _) ?_ ?_ (fun _ _ _ => ?_)); exact (sbs_of rfl); exact sbs_of rfl; dsimp only)
        | ((with_reducible refine Pc_u3 ?_ (fun _ => ?_)); exact rfl)
        | with_reducible refine Pc_st (fun _ => ?_)
theorem f_207_0 (n dp : Nat) (e : EN) (I : (Nat → Nat → Int32)) (L : (Nat → Nat → Int64)) (i1 : Int32) (i2 : Int32) : Pc (g_207 n dp e 0 I L i1 i2) (F3 WI_207 WL_207 I L) := (fa_207 n dp e I L i1 i2)
def WI_209 : List (Nat × Nat) := [(110, 0), (105, 0)]
def WL_209 : List (Nat × Nat) := []
set_option maxHeartbeats 8000000 in
set_option maxRecDepth 100000 in
theorem fa_209 : ∀ (n dp : Nat) (e : EN) (I : (Nat → Nat → Int32)) (L : (Nat → Nat → Int64)) (i1 : Int32) (i2 : Int32), Pc (g_209 n dp e 0 I L i1 i2) (F2 WI_209 WL_209 I L) ∧
    Pc (g_209 n dp e 1 I L i1 i2) (F2 WI_209 WL_209 I L) := by
  intro n
  induction n with
  | zero => intro dp e I L i1 i2; exact ⟨Pc_none, Pc_none⟩
  | succ n ih =>
    intro dp e I L i1 i2
    refine ⟨?_, ?_⟩
    · rw [e_209_0]
      repeat' first
        | with_reducible exact Pc_none
        | with_reducible exact Pc_s2
        | with_reducible exact (ih _ _ _ _ _ _).2
    · rw [e_209_1]
      repeat' first
        | with_reducible exact Pc_none
        | with_reducible exact Pc_s2
        | with_reducible refine Pc_ite ?_ ?_
        | with_reducible exact (ih _ _ _ _ _ _).2
        | ((with_reducible refine Pc_u2 ?_ (fun _ => ?_)); exact rfl)
        | with_reducible refine Pc_st (fun _ => ?_)
theorem f_209_0 (n dp : Nat) (e : EN) (I : (Nat → Nat → Int32)) (L : (Nat → Nat → Int64)) (i1 : Int32) (i2 : Int32) : Pc (g_209 n dp e 0 I L i1 i2) (F2 WI_209 WL_209 I L) := (fa_209 n dp e I L i1 i2).1
theorem f_209_1 (n dp : Nat) (e : EN) (I : (Nat → Nat → Int32)) (L : (Nat → Nat → Int64)) (i1 : Int32) (i2 : Int32) : Pc (g_209 n dp e 1 I L i1 i2) (F2 WI_209 WL_209 I L) := (fa_209 n dp e I L i1 i2).2
def WI_208 : List (Nat × Nat) := [(105, 0), (110, 0)]
def WL_208 : List (Nat × Nat) := []
set_option maxHeartbeats 8000000 in
set_option maxRecDepth 100000 in
theorem fa_208 : ∀ (n dp : Nat) (e : EN) (I : (Nat → Nat → Int32)) (L : (Nat → Nat → Int64)) (i1 : Int32) (i2 : Int32) (i3 : Int32) (i4 : Int32) (i5 : Int32), Pc (g_208 n dp e 0 I L i1 i2 i3 i4 i5) (F3 WI_208 WL_208 I L) := by
  intro n
  induction n with
  | zero => intro dp e I L i1 i2 i3 i4 i5; exact Pc_none
  | succ n ih =>
    intro dp e I L i1 i2 i3 i4 i5
    · rw [e_208_0]
      repeat' first
        | with_reducible exact Pc_none
        | with_reducible exact Pc_s3
        | with_reducible refine Pc_ite ?_ ?_
        | ((with_reducible refine Pc_c23 (f_209_0 _ _ _ _ _ _ _) ?_ ?_ (fun _ _ => ?_)); exact (sbs_of rfl); exact sbs_of rfl; dsimp only)
        | ((with_reducible refine Pc_u3 ?_ (fun _ => ?_)); exact rfl)
        | with_reducible refine Pc_st (fun _ => ?_)
theorem f_208_0 (n dp : Nat) (e : EN) (I : (Nat → Nat → Int32)) (L : (Nat → Nat → Int64)) (i1 : Int32) (i2 : Int32) (i3 : Int32) (i4 : Int32) (i5 : Int32) : Pc (g_208 n dp e 0 I L i1 i2 i3 i4 i5) (F3 WI_208 WL_208 I L) := (fa_208 n dp e I L i1 i2 i3 i4 i5)
def WI_210 : List (Nat × Nat) := [(105, 0)]
def WL_210 : List (Nat × Nat) := []
set_option maxHeartbeats 8000000 in
set_option maxRecDepth 100000 in
theorem fa_210 : ∀ (n dp : Nat) (e : EN) (I : (Nat → Nat → Int32)) (L : (Nat → Nat → Int64)) (i1 : Int32), Pc (g_210 n dp e 0 I L i1) (F3 WI_210 WL_210 I L) := by
  intro n
  induction n with
  | zero => intro dp e I L i1; exact Pc_none
  | succ n ih =>
    intro dp e I L i1
    · rw [e_210_0]
      repeat' first
        | with_reducible exact Pc_none
        | with_reducible exact Pc_s3
        | with_reducible refine Pc_ite ?_ ?_
        | ((with_reducible refine Pc_u3 ?_ (fun _ => ?_)); exact rfl)
        | with_reducible refine Pc_st (fun _ => ?_)
theorem f_210_0 (n dp : Nat) (e : EN) (I : (Nat → Nat → Int32)) (L : (Nat → Nat → Int64)) (i1 : Int32) : Pc (g_210 n dp e 0 I L i1) (F3 WI_210 WL_210 I L) := (fa_210 n dp e I L i1)
def WI_211 : List (Nat × Nat) := [(105, 0)]
def WL_211 : List (Nat × Nat) := []
set_option maxHeartbeats 8000000 in
set_option maxRecDepth 100000 in
theorem fa_211 : ∀ (n dp : Nat) (e : EN) (I : (Nat → Nat → Int32)) (L : (Nat → Nat → Int64)), Pc (g_211 n dp e 0 I L) (F3 WI_211 WL_211 I L) := by
  intro n
  induction n with
  | zero => intro dp e I L; exact Pc_none
  | succ n ih =>
    intro dp e I L
    · rw [e_211_0]
      repeat' first
        | with_reducible exact Pc_none
        | with_reducible exact Pc_s3
        | ((with_reducible refine Pc_u3 ?_ (fun _ => ?_)); exact rfl)
        | with_reducible refine Pc_st (fun _ => ?_)
theorem f_211_0 (n dp : Nat) (e : EN) (I : (Nat → Nat → Int32)) (L : (Nat → Nat → Int64)) : Pc (g_211 n dp e 0 I L) (F3 WI_211 WL_211 I L) := (fa_211 n dp e I L)
def WI_215 : List (Nat × Nat) := []
def WL_215 : List (Nat × Nat) := []
set_option maxHeartbeats 8000000 in
set_option maxRecDepth 100000 in
theorem fa_215 : ∀ (n dp : Nat) (e : EN) (I : (Nat → Nat → Int32)) (L : (Nat → Nat → Int64)) (i0 : Int32), Pc (g_215 n dp e 0 I L i0) (F3 WI_215 WL_215 I L) := by
  intro n
  induction n with
  | zero => intro dp e I L i0; exact Pc_none
  | succ n ih =>
    intro dp e I L i0
    · rw [e_215_0]
      repeat' first
        | with_reducible exact Pc_none
        | with_reducible exact Pc_s3
        | with_reducible refine Pc_ite ?_ ?_
theorem f_215_0 (n dp : Nat) (e : EN) (I : (Nat → Nat → Int32)) (L : (Nat → Nat → Int64)) (i0 : Int32) : Pc (g_215 n dp e 0 I L i0) (F3 WI_215 WL_215 I L) := (fa_215 n dp e I L i0)
def WI_216 : List (Nat × Nat) := []
def WL_216 : List (Nat × Nat) := []
set_option maxHeartbeats 8000000 in
set_option maxRecDepth 100000 in
theorem fa_216 : ∀ (n dp : Nat) (e : EN) (I : (Nat → Nat → Int32)) (L : (Nat → Nat → Int64)) (i0 : Int32), Pc (g_216 n dp e 0 I L i0) (F3 WI_216 WL_216 I L) := by
  intro n
  induction n with
  | zero => intro dp e I L i0; exact Pc_none
  | succ n ih =>
    intro dp e I L i0
    · rw [e_216_0]
      repeat' first
        | with_reducible exact Pc_none
        | with_reducible exact Pc_s3
        | with_reducible refine Pc_ite ?_ ?_
theorem f_216_0 (n dp : Nat) (e : EN) (I : (Nat → Nat → Int32)) (L : (Nat → Nat → Int64)) (i0 : Int32) : Pc (g_216 n dp e 0 I L i0) (F3 WI_216 WL_216 I L) := (fa_216 n dp e I L i0)
def WI_214 : List (Nat × Nat) := [(105, 0)]
def WL_214 : List (Nat × Nat) := [(105, 0)]
set_option maxHeartbeats 8000000 in
set_option maxRecDepth 100000 in
theorem fa_214 : ∀ (n dp : Nat) (e : EN) (I : (Nat → Nat → Int32)) (L : (Nat → Nat → Int64)), Pc (g_214 n dp e 0 I L) (F2 WI_214 WL_214 I L) ∧
    Pc (g_214 n dp e 1 I L) (F2 WI_214 WL_214 I L) ∧
    Pc (g_214 n dp e 2 I L) (F2 WI_214 WL_214 I L) ∧
    Pc (g_214 n dp e 3 I L) (F2 WI_214 WL_214 I L) ∧
    Pc (g_214 n dp e 4 I L) (F2 WI_214 WL_214 I L) := by
  intro n
  induction n with
  | zero => intro dp e I L; exact ⟨Pc_none, Pc_none, Pc_none, Pc_none, Pc_none⟩
  | succ n ih =>
    intro dp e I L
    refine ⟨?_, ?_, ?_, ?_, ?_⟩
    · rw [e_214_0]
      repeat' first
        | with_reducible exact Pc_none
        | with_reducible exact Pc_s2
        | with_reducible exact (ih _ _ _ _).2.1
        | ((with_reducible refine Pc_u2 ?_ (fun _ => ?_)); exact rfl)
        | with_reducible refine Pc_st (fun _ => ?_)
    · rw [e_214_1]
      repeat' first
        | with_reducible exact Pc_none
        | with_reducible exact Pc_s2
        | with_reducible refine Pc_ite ?_ ?_
        | with_reducible exact (ih _ _ _ _).2.2.1
        | with_reducible exact (ih _ _ _ _).2.1
        | ((with_reducible refine Pc_u2 ?_ (fun _ => ?_)); exact rfl)
        | with_reducible refine Pc_st (fun _ => ?_)
    · rw [e_214_2]
      repeat' first
        | with_reducible exact Pc_none
        | with_reducible exact Pc_s2
        | with_reducible refine Pc_ite ?_ ?_
        | with_reducible exact (ih _ _ _ _).2.2.2.1
        | ((with_reducible refine Pc_c32 (f_215_0 _ _ _ _ _ _) ?_ ?_ (fun _ _ _ => ?_)); exact (sbs_of rfl); exact sbs_of rfl; dsimp only)
        | ((with_reducible refine Pc_c32 (f_216_0 _ _ _ _ _ _) ?_ ?_ (fun _ _ _ => ?_)); exact (sbs_of rfl); exact sbs_of rfl; dsimp only)
        | ((with_reducible refine Pc_u2 ?_ (fun _ => ?_)); exact rfl)
        | ((with_reducible refine Pc_l2 ?_ (fun _ => ?_)); exact rfl)
        | with_reducible refine Pc_st (fun _ => ?_)
    · rw [e_214_3]
      repeat' first
        | with_reducible exact Pc_none
        | with_reducible exact Pc_s2
        | with_reducible refine Pc_ite ?_ ?_
        | with_reducible exact (ih _ _ _ _).2.2.2.2
        | ((with_reducible refine Pc_c32 (f_215_0 _ _ _ _ _ _) ?_ ?_ (fun _ _ _ => ?_)); exact (sbs_of rfl); exact sbs_of rfl; dsimp only)
        | with_reducible exact (ih _ _ _ _).2.2.2.1
        | ((with_reducible refine Pc_u2 ?_ (fun _ => ?_)); exact rfl)
        | ((with_reducible refine Pc_l2 ?_ (fun _ => ?_)); exact rfl)
        | with_reducible refine Pc_st (fun _ => ?_)
    · rw [e_214_4]
      repeat' first
        | with_reducible exact Pc_none
        | with_reducible exact Pc_s2
        | with_reducible refine Pc_ite ?_ ?_
        | ((with_reducible refine Pc_c32 (f_216_0 _ _ _ _ _ _) ?_ ?_ (fun _ _ _ => ?_)); exact (sbs_of rfl); exact sbs_of rfl; dsimp only)
        | with_reducible exact (ih _ _ _ _).2.2.2.2
        | ((with_reducible refine Pc_u2 ?_ (fun _ => ?_)); exact rfl)
        | ((with_reducible refine Pc_l2 ?_ (fun _ => ?_)); exact rfl)
        | with_reducible refine Pc_st (fun _ => ?_)
theorem f_214_0 (n dp : Nat) (e : EN) (I : (Nat → Nat → Int32)) (L : (Nat → Nat → Int64)) : Pc (g_214 n dp e 0 I L) (F2 WI_214 WL_214 I L) := (fa_214 n dp e I L).1
theorem f_214_1 (n dp : Nat) (e : EN) (I : (Nat → Nat → Int32)) (L : (Nat → Nat → Int64)) : Pc (g_214 n dp e 1 I L) (F2 WI_214 WL_214 I L) := (fa_214 n dp e I L).2.1
theorem f_214_2 (n dp : Nat) (e : EN) (I : (Nat → Nat → Int32)) (L : (Nat → Nat → Int64)) : Pc (g_214 n dp e 2 I L) (F2 WI_214 WL_214 I L) := (fa_214 n dp e I L).2.2.1
theorem f_214_3 (n dp : Nat) (e : EN) (I : (Nat → Nat → Int32)) (L : (Nat → Nat → Int64)) : Pc (g_214 n dp e 3 I L) (F2 WI_214 WL_214 I L) := (fa_214 n dp e I L).2.2.2.1
theorem f_214_4 (n dp : Nat) (e : EN) (I : (Nat → Nat → Int32)) (L : (Nat → Nat → Int64)) : Pc (g_214 n dp e 4 I L) (F2 WI_214 WL_214 I L) := (fa_214 n dp e I L).2.2.2.2
def WI_213 : List (Nat × Nat) := [(105, 0)]
def WL_213 : List (Nat × Nat) := [(105, 0)]
set_option maxHeartbeats 8000000 in
set_option maxRecDepth 100000 in
theorem fa_213 : ∀ (n dp : Nat) (e : EN) (I : (Nat → Nat → Int32)) (L : (Nat → Nat → Int64)), Pc (g_213 n dp e 0 I L) (F2 WI_213 WL_213 I L) := by
  intro n
  induction n with
  | zero => intro dp e I L; exact Pc_none
  | succ n ih =>
    intro dp e I L
    · rw [e_213_0]
      repeat' first
        | with_reducible exact Pc_none
        | with_reducible exact Pc_s2
        | with_reducible refine Pc_ite ?_ ?_
        | ((with_reducible refine Pc_c22 (f_214_0 _ _ _ _ _) ?_ ?_ (fun _ _ => ?_)); exact (sbs_of rfl); exact sbs_of rfl; dsimp only)
        | ((with_reducible refine Pc_u2 ?_ (fun _ => ?_)); exact rfl)
        | with_reducible refine Pc_st (fun _ => ?_)
theorem f_213_0 (n dp : Nat) (e : EN) (I : (Nat → Nat → Int32)) (L : (Nat → Nat → Int64)) : Pc (g_213 n dp e 0 I L) (F2 WI_213 WL_213 I L) := (fa_213 n dp e I L)
def WI_218 : List (Nat × Nat) := []
def WL_218 : List (Nat × Nat) := []
set_option maxHeartbeats 8000000 in
set_option maxRecDepth 100000 in
theorem fa_218 : ∀ (n dp : Nat) (e : EN) (I : (Nat → Nat → Int32)) (L : (Nat → Nat → Int64)) (j1 : Int64), Pc (g_218 n dp e 0 I L j1) (F3 WI_218 WL_218 I L) := by
  intro n
  induction n with
  | zero => intro dp e I L j1; exact Pc_none
  | succ n ih =>
    intro dp e I L j1
    · rw [e_218_0]
      repeat' first
        | with_reducible exact Pc_none
        | with_reducible exact Pc_s3
        | with_reducible refine Pc_ite ?_ ?_
theorem f_218_0 (n dp : Nat) (e : EN) (I : (Nat → Nat → Int32)) (L : (Nat → Nat → Int64)) (j1 : Int64) : Pc (g_218 n dp e 0 I L j1) (F3 WI_218 WL_218 I L) := (fa_218 n dp e I L j1)
def WI_219 : List (Nat × Nat) := [(105, 0)]
def WL_219 : List (Nat × Nat) := [(105, 0)]
set_option maxHeartbeats 8000000 in
set_option maxRecDepth 100000 in
theorem fa_219 : ∀ (n dp : Nat) (e : EN) (I : (Nat → Nat → Int32)) (L : (Nat → Nat → Int64)) (i1 : Int32), Pc (g_219 n dp e 0 I L i1) (F2 WI_219 WL_219 I L) ∧
    Pc (g_219 n dp e 1 I L i1) (F2 WI_219 WL_219 I L) := by
  intro n
  induction n with
  | zero => intro dp e I L i1; exact ⟨Pc_none, Pc_none⟩
  | succ n ih =>
    intro dp e I L i1
    refine ⟨?_, ?_⟩
    · rw [e_219_0]
      repeat' first
        | with_reducible exact Pc_none
        | with_reducible exact Pc_s2
        | with_reducible refine Pc_ite ?_ ?_
        | with_reducible exact (ih _ _ _ _ _).2
        | ((with_reducible refine Pc_u2 ?_ (fun _ => ?_)); exact rfl)
        | with_reducible refine Pc_st (fun _ => ?_)
    · rw [e_219_1]
      repeat' first
        | with_reducible exact Pc_none
        | with_reducible exact Pc_s2
        | with_reducible refine Pc_ite ?_ ?_
        | ((with_reducible refine Pc_c22 (f_214_0 _ _ _ _ _) ?_ ?_ (fun _ _ => ?_)); exact (sbs_of rfl); exact sbs_of rfl; dsimp only)
theorem f_219_0 (n dp : Nat) (e : EN) (I : (Nat → Nat → Int32)) (L : (Nat → Nat → Int64)) (i1 : Int32) : Pc (g_219 n dp e 0 I L i1) (F2 WI_219 WL_219 I L) := (fa_219 n dp e I L i1).1
theorem f_219_1 (n dp : Nat) (e : EN) (I : (Nat → Nat → Int32)) (L : (Nat → Nat → Int64)) (i1 : Int32) : Pc (g_219 n dp e 1 I L i1) (F2 WI_219 WL_219 I L) := (fa_219 n dp e I L i1).2
def WI_221 : List (Nat × Nat) := [(105, 0)]
def WL_221 : List (Nat × Nat) := [(105, 0)]
set_option maxHeartbeats 8000000 in
set_option maxRecDepth 100000 in
theorem fa_221 : ∀ (n dp : Nat) (e : EN) (I : (Nat → Nat → Int32)) (L : (Nat → Nat → Int64)) (j1 : Int64) (j3 : Int64), Pc (g_221 n dp e 0 I L j1 j3) (F3 WI_221 WL_221 I L) := by
  intro n
  induction n with
  | zero => intro dp e I L j1 j3; exact Pc_none
  | succ n ih =>
    intro dp e I L j1 j3
    · rw [e_221_0]
      repeat' first
        | with_reducible exact Pc_none
        | with_reducible exact Pc_s3
        | with_reducible refine Pc_ite ?_ ?_
        | ((with_reducible refine Pc_c33 (f_193_0 _ _ _ _ _ _ _ _) ?_ ?_ (fun _ _ _ => ?_)); exact (sbs_of rfl); exact sbs_of rfl; dsimp only)
        | ((with_reducible refine Pc_c23 (f_219_0 _ _ _ _ _ _) ?_ ?_ (fun _ _ => ?_)); exact (sbs_of rfl); exact sbs_of rfl; dsimp only)
        | with_reducible refine Pc_st (fun _ => ?_)
theorem f_221_0 (n dp : Nat) (e : EN) (I : (Nat → Nat → Int32)) (L : (Nat → Nat → Int64)) (j1 : Int64) (j3 : Int64) : Pc (g_221 n dp e 0 I L j1 j3) (F3 WI_221 WL_221 I L) := (fa_221 n dp e I L j1 j3)
def WI_222 : List (Nat × Nat) := [(117, 0), (105, 0)]
def WL_222 : List (Nat × Nat) := [(105, 0)]
set_option maxHeartbeats 8000000 in
set_option maxRecDepth 100000 in
theorem fa_222 : ∀ (n dp : Nat) (e : EN) (I : (Nat → Nat → Int32)) (L : (Nat → Nat → Int64)) (i1 : Int32) (i2 : Int32), Pc (g_222 n dp e 0 I L i1 i2) (F2 WI_222 WL_222 I L) := by
  intro n
  induction n with
  | zero => intro dp e I L i1 i2; exact Pc_none
  | succ n ih =>
    intro dp e I L i1 i2
    · rw [e_222_0]
      repeat' first
        | with_reducible exact Pc_none
        | with_reducible exact Pc_s2
        | with_reducible refine Pc_ite ?_ ?_
        | ((with_reducible refine Pc_c32 (f_221_0 _ _ _ _ _ _ _) ?_ ?_ (fun _ _ _ => ?_)); exact (sbs_of rfl); exact sbs_of rfl; dsimp only)
        | ((with_reducible refine Pc_u2 ?_ (fun _ => ?_)); exact rfl)
        | with_reducible refine Pc_st (fun _ => ?_)
theorem f_222_0 (n dp : Nat) (e : EN) (I : (Nat → Nat → Int32)) (L : (Nat → Nat → Int64)) (i1 : Int32) (i2 : Int32) : Pc (g_222 n dp e 0 I L i1 i2) (F2 WI_222 WL_222 I L) := (fa_222 n dp e I L i1 i2)
def WI_220 : List (Nat × Nat) := [(117, 0), (105, 0)]
def WL_220 : List (Nat × Nat) := [(105, 0)]
set_option maxHeartbeats 8000000 in
set_option maxRecDepth 100000 in
theorem fa_220 : ∀ (n dp : Nat) (e : EN) (I : (Nat → Nat → Int32)) (L : (Nat → Nat → Int64)) (i1 : Int32) (i2 : Int32), Pc (g_220 n dp e 0 I L i1 i2) (F2 WI_220 WL_220 I L) ∧
    Pc (g_220 n dp e 1 I L i1 i2) (F2 WI_220 WL_220 I L) ∧
    Pc (g_220 n dp e 2 I L i1 i2) (F2 WI_220 WL_220 I L) ∧
    Pc (g_220 n dp e 3 I L i1 i2) (F2 WI_220 WL_220 I L) := by
  intro n
  induction n with
  | zero => intro dp e I L i1 i2; exact ⟨Pc_none, Pc_none, Pc_none, Pc_none⟩
  | succ n ih =>
    intro dp e I L i1 i2
    refine ⟨?_, ?_, ?_, ?_⟩
    · rw [e_220_0]
      repeat' first
        | with_reducible exact Pc_none
        | with_reducible exact Pc_s2
        | with_reducible exact (ih _ _ _ _ _ _).2.1
        | with_reducible refine Pc_st (fun _ => ?_)
    · rw [e_220_1]
      repeat' first
        | with_reducible exact Pc_none
        | with_reducible exact Pc_s2
        | with_reducible refine Pc_ite ?_ ?_
        | ((with_reducible refine Pc_c32 (f_221_0 _ _ _ _ _ _ _) ?_ ?_ (fun _ _ _ => ?_)); exact (sbs_of rfl); exact sbs_of rfl; dsimp only)
        | ((with_reducible refine Pc_c32 (f_218_0 _ _ _ _ _ _) ?_ ?_ (fun _ _ _ => ?_)); exact (sbs_of rfl); exact sbs_of rfl; dsimp only)
        | ((with_reducible refine Pc_c22 (f_219_0 _ _ _ _ _ _) ?_ ?_ (fun _ _ => ?_)); exact (sbs_of rfl); exact sbs_of rfl; dsimp only)
        | ((with_reducible refine Pc_c22 (f_222_0 _ _ _ _ _ _ _) ?_ ?_ (fun _ _ => ?_)); exact (sbs_of rfl); exact sbs_of rfl; dsimp only)
        | with_reducible exact (ih _ _ _ _ _ _).2.2.1
        | with_reducible exact (ih _ _ _ _ _ _).2.1
        | ((with_reducible refine Pc_u2 ?_ (fun _ => ?_)); exact rfl)
        | with_reducible refine Pc_st (fun _ => ?_)
    · rw [e_220_2]
      repeat' first
        | with_reducible exact Pc_none
        | with_reducible exact Pc_s2
        | with_reducible refine Pc_ite ?_ ?_
        | ((with_reducible refine Pc_c32 (f_218_0 _ _ _ _ _ _) ?_ ?_ (fun _ _ _ => ?_)); exact (sbs_of rfl); exact sbs_of rfl; dsimp only)
        | with_reducible exact (ih _ _ _ _ _ _).2.2.2
        | ((with_reducible refine Pc_c22 (f_214_0 _ _ _ _ _) ?_ ?_ (fun _ _ => ?_)); exact (sbs_of rfl); exact sbs_of rfl; dsimp only)
        | ((with_reducible refine Pc_c22 (f_222_0 _ _ _ _ _ _ _) ?_ ?_ (fun _ _ => ?_)); exact (sbs_of rfl); exact sbs_of rfl; dsimp only)
        | with_reducible exact (ih _ _ _ _ _ _).2.2.1
    · rw [e_220_3]
      repeat' first
        | with_reducible exact Pc_none
        | with_reducible exact Pc_s2
        | ((with_reducible refine Pc_u2 ?_ (fun _ => ?_)); exact rfl)
        | with_reducible refine Pc_st (fun _ => ?_)
theorem f_220_0 (n dp : Nat) (e : EN) (I : (Nat → Nat → Int32)) (L : (Nat → Nat → Int64)) (i1 : Int32) (i2 : Int32) : Pc (g_220 n dp e 0 I L i1 i2) (F2 WI_220 WL_220 I L) := (fa_220 n dp e I L i1 i2).1
theorem f_220_1 (n dp : Nat) (e : EN) (I : (Nat → Nat → Int32)) (L : (Nat → Nat → Int64)) (i1 : Int32) (i2 : Int32) : Pc (g_220 n dp e 1 I L i1 i2) (F2 WI_220 WL_220 I L) := (fa_220 n dp e I L i1 i2).2.1
theorem f_220_2 (n dp : Nat) (e : EN) (I : (Nat → Nat → Int32)) (L : (Nat → Nat → Int64)) (i1 : Int32) (i2 : Int32) : Pc (g_220 n dp e 2 I L i1 i2) (F2 WI_220 WL_220 I L) := (fa_220 n dp e I L i1 i2).2.2.1
theorem f_220_3 (n dp : Nat) (e : EN) (I : (Nat → Nat → Int32)) (L : (Nat → Nat → Int64)) (i1 : Int32) (i2 : Int32) : Pc (g_220 n dp e 3 I L i1 i2) (F2 WI_220 WL_220 I L) := (fa_220 n dp e I L i1 i2).2.2.2
def WI_225 : List (Nat × Nat) := [(114, 0), (115, 0), (105, 0)]
def WL_225 : List (Nat × Nat) := []
set_option maxHeartbeats 8000000 in
set_option maxRecDepth 100000 in
theorem fa_225 : ∀ (n dp : Nat) (e : EN) (I : (Nat → Nat → Int32)) (L : (Nat → Nat → Int64)) (i1 : Int32) (i2 : Int32), Pc (g_225 n dp e 0 I L i1 i2) (F2 WI_225 WL_225 I L) := by
  intro n
  induction n with
  | zero => intro dp e I L i1 i2; exact Pc_none
  | succ n ih =>
    intro dp e I L i1 i2
    · rw [e_225_0]
      repeat' first
        | with_reducible exact Pc_none
        | with_reducible exact Pc_s2
        | with_reducible refine Pc_ite ?_ ?_
        | ((with_reducible refine Pc_u2 ?_ (fun _ => ?_)); exact rfl)
        | with_reducible refine Pc_st (fun _ => ?_)
theorem f_225_0 (n dp : Nat) (e : EN) (I : (Nat → Nat → Int32)) (L : (Nat → Nat → Int64)) (i1 : Int32) (i2 : Int32) : Pc (g_225 n dp e 0 I L i1 i2) (F2 WI_225 WL_225 I L) := (fa_225 n dp e I L i1 i2)
def WI_226 : List (Nat × Nat) := []
def WL_226 : List (Nat × Nat) := []
set_option maxHeartbeats 8000000 in
set_option maxRecDepth 100000 in
theorem fa_226 : ∀ (n dp : Nat) (e : EN) (I : (Nat → Nat → Int32)) (L : (Nat → Nat → Int64)) (i1 : Int32), Pc (g_226 n dp e 0 I L i1) (F3 WI_226 WL_226 I L) := by
  intro n
  induction n with
  | zero => intro dp e I L i1; exact Pc_none
  | succ n ih =>
    intro dp e I L i1
    · rw [e_226_0]
      repeat' first
        | with_reducible exact Pc_none
        | with_reducible exact Pc_s3
        | with_reducible refine Pc_ite ?_ ?_
theorem f_226_0 (n dp : Nat) (e : EN) (I : (Nat → Nat → Int32)) (L : (Nat → Nat → Int64)) (i1 : Int32) : Pc (g_226 n dp e 0 I L i1) (F3 WI_226 WL_226 I L) := (fa_226 n dp e I L i1)
def WI_227 : List (Nat × Nat) := [(105, 0), (114, 0), (115, 0)]
def WL_227 : List (Nat × Nat) := [(105, 0)]
set_option maxHeartbeats 8000000 in
set_option maxRecDepth 100000 in
theorem fa_227 : ∀ (n dp : Nat) (e : EN) (I : (Nat → Nat → Int32)) (L : (Nat → Nat → Int64)) (i1 : Int32), Pc (g_227 n dp e 0 I L i1) (F2 WI_227 WL_227 I L) := by
  intro n
  induction n with
  | zero => intro dp e I L i1; exact Pc_none
  | succ n ih =>
    intro dp e I L i1
    · rw [e_227_0]
      repeat' first
        | with_reducible exact Pc_none
        | with_reducible exact Pc_s2
        | with_reducible refine Pc_ite ?_ ?_
        | ((with_reducible refine Pc_c22 (f_219_0 _ _ _ _ _ _) ?_ ?_ (fun _ _ => ?_)); exact (sbs_of rfl); exact sbs_of rfl; dsimp only)
        | ((with_reducible refine Pc_c22 (f_225_0 _ _ _ _ _ _ _) ?_ ?_ (fun _ _ => ?_)); exact (sbs_of rfl); exact sbs_of rfl; dsimp only)
        | ((with_reducible refine Pc_u2 ?_ (fun _ => ?_)); exact rfl)
        | with_reducible refine Pc_st (fun _ => ?_)
theorem f_227_0 (n dp : Nat) (e : EN) (I : (Nat → Nat → Int32)) (L : (Nat → Nat → Int64)) (i1 : Int32) : Pc (g_227 n dp e 0 I L i1) (F2 WI_227 WL_227 I L) := (fa_227 n dp e I L i1)
def WI_229 : List (Nat × Nat) := []
def WL_229 : List (Nat × Nat) := []
set_option maxHeartbeats 8000000 in
set_option maxRecDepth 100000 in
theorem fa_229 : ∀ (n dp : Nat) (e : EN) (I : (Nat → Nat → Int32)) (L : (Nat → Nat → Int64)) (i1 : Int32) (i2 : Int32), Pc (g_229 n dp e 0 I L i1 i2) (F3 WI_229 WL_229 I L) ∧
    Pc (g_229 n dp e 1 I L i1 i2) (F3 WI_229 WL_229 I L) := by
  intro n
  induction n with
  | zero => intro dp e I L i1 i2; exact ⟨Pc_none, Pc_none⟩
  | succ n ih =>
    intro dp e I L i1 i2
    refine ⟨?_, ?_⟩
    · rw [e_229_0]
      repeat' first
        | with_reducible exact Pc_none
        | with_reducible exact Pc_s3
        | with_reducible exact (ih _ _ _ _ _ _).2
    · rw [e_229_1]
      repeat' first
        | with_reducible exact Pc_none
        | with_reducible exact Pc_s3
        | with_reducible refine Pc_ite ?_ ?_
        | ((with_reducible refine Pc_c33 (f_218_0 _ _ _ _ _ _) ?_ ?_ (fun _ _ _ => ?_)); exact (sbs_of rfl); exact sbs_of rfl; dsimp only)
        | with_reducible exact (ih _ _ _ _ _ _).2
theorem f_229_0 (n dp : Nat) (e : EN) (I : (Nat → Nat → Int32)) (L : (Nat → Nat → Int64)) (i1 : Int32) (i2 : Int32) : Pc (g_229 n dp e 0 I L i1 i2) (F3 WI_229 WL_229 I L) := (fa_229 n dp e I L i1 i2).1
theorem f_229_1 (n dp : Nat) (e : EN) (I : (Nat → Nat → Int32)) (L : (Nat → Nat → Int64)) (i1 : Int32) (i2 : Int32) : Pc (g_229 n dp e 1 I L i1 i2) (F3 WI_229 WL_229 I L) := (fa_229 n dp e I L i1 i2).2
def WI_231 : List (Nat × Nat) := [(112, 0), (113, 0), (105, 0)]
def WL_231 : List (Nat × Nat) := []
set_option maxHeartbeats 8000000 in
set_option maxRecDepth 100000 in
theorem fa_231 : ∀ (n dp : Nat) (e : EN) (I : (Nat → Nat → Int32)) (L : (Nat → Nat → Int64)) (i1 : Int32) (i2 : Int32), Pc (g_231 n dp e 0 I L i1 i2) (F2 WI_231 WL_231 I L) := by
  intro n
  induction n with
  | zero => intro dp e I L i1 i2; exact Pc_none
  | succ n ih =>
    intro dp e I L i1 i2
    · rw [e_231_0]
      repeat' first
        | with_reducible exact Pc_none
        | with_reducible exact Pc_s2
        | with_reducible refine Pc_ite ?_ ?_
        | ((with_reducible refine Pc_u2 ?_ (fun _ => ?_)); exact rfl)
        | with_reducible refine Pc_st (fun _ => ?_)
theorem f_231_0 (n dp : Nat) (e : EN) (I : (Nat → Nat → Int32)) (L : (Nat → Nat → Int64)) (i1 : Int32) (i2 : Int32) : Pc (g_231 n dp e 0 I L i1 i2) (F2 WI_231 WL_231 I L) := (fa_231 n dp e I L i1 i2)
def WI_230 : List (Nat × Nat) := [(105, 0), (112, 0), (113, 0)]
def WL_230 : List (Nat × Nat) := [(105, 0)]
set_option maxHeartbeats 8000000 in
set_option maxRecDepth 100000 in
theorem fa_230 : ∀ (n dp : Nat) (e : EN) (I : (Nat → Nat → Int32)) (L : (Nat → Nat → Int64)) (i1 : Int32) (i2 : Int32) (i3 : Int32), Pc (g_230 n dp e 0 I L i1 i2 i3) (F2 WI_230 WL_230 I L) := by
  intro n
  induction n with
  | zero => intro dp e I L i1 i2 i3; exact Pc_none
  | succ n ih =>
    intro dp e I L i1 i2 i3
    · rw [e_230_0]
      repeat' first
        | with_reducible exact Pc_none
        | with_reducible exact Pc_s2
        | with_reducible refine Pc_ite ?_ ?_
        | ((with_reducible refine Pc_c22 (f_219_0 _ _ _ _ _ _) ?_ ?_ (fun _ _ => ?_)); exact (sbs_of rfl); exact sbs_of rfl; dsimp only)
        | ((with_reducible refine Pc_c22 (f_231_0 _ _ _ _ _ _ _) ?_ ?_ (fun _ _ => ?_)); exact (sbs_of rfl); exact sbs_of rfl; dsimp only)
        | ((with_reducible refine Pc_u2 ?_ (fun _ => ?_)); exact rfl)
        | with_reducible refine Pc_st (fun _ => ?_)
theorem f_230_0 (n dp : Nat) (e : EN) (I : (Nat → Nat → Int32)) (L : (Nat → Nat → Int64)) (i1 : Int32) (i2 : Int32) (i3 : Int32) : Pc (g_230 n dp e 0 I L i1 i2 i3) (F2 WI_230 WL_230 I L) := (fa_230 n dp e I L i1 i2 i3)
def WI_228 : List (Nat × Nat) := [(105, 0), (112, 0), (113, 0), (114, 0), (115, 0)]
def WL_228 : List (Nat × Nat) := [(105, 0)]
set_option maxHeartbeats 8000000 in
set_option maxRecDepth 100000 in
theorem fa_228 : ∀ (n dp : Nat) (e : EN) (I : (Nat → Nat → Int32)) (L : (Nat → Nat → Int64)) (i1 : Int32), Pc (g_228 n dp e 0 I L i1) (F3 WI_228 WL_228 I L) ∧
    Pc (g_228 n dp e 1 I L i1) (F3 WI_228 WL_228 I L) := by
  intro n
  induction n with
  | zero => intro dp e I L i1; exact ⟨Pc_none, Pc_none⟩
  | succ n ih =>
    intro dp e I L i1
    refine ⟨?_, ?_⟩
    · rw [e_228_0]
      repeat' first
        | with_reducible exact Pc_none
        | with_reducible exact Pc_s3
        | with_reducible refine Pc_ite ?_ ?_
        | ((with_reducible refine Pc_c33 (f_226_0 _ _ _ _ _ _) ?_ ?_ (fun _ _ _ => ?_)); exact (sbs_of rfl); exact sbs_of rfl; dsimp only)
        | ((with_reducible refine Pc_c33 (f_229_0 _ _ _ _ _ _ _) ?_ ?_ (fun _ _ _ => ?_)); exact (sbs_of rfl); exact sbs_of rfl; dsimp only)
        | with_reducible exact (ih _ _ _ _ _).2
        | ((with_reducible refine Pc_c23 (f_230_0 _ _ _ _ _ _ _ _) ?_ ?_ (fun _ _ => ?_)); exact (sbs_of rfl); exact sbs_of rfl; dsimp only)
        | ((with_reducible refine Pc_c23 (f_227_0 _ _ _ _ _ _) ?_ ?_ (fun _ _ => ?_)); exact (sbs_of rfl); exact sbs_of rfl; dsimp only)
    · rw [e_228_1]
      repeat' first
        | with_reducible exact Pc_none
        | with_reducible exact Pc_s3
        | with_reducible refine Pc_ite ?_ ?_
        | ((with_reducible refine Pc_c23 (f_230_0 _ _ _ _ _ _ _ _) ?_ ?_ (fun _ _ => ?_)); exact (sbs_of rfl); exact sbs_of rfl; dsimp only)
theorem f_228_0 (n dp : Nat) (e : EN) (I : (Nat → Nat → Int32)) (L : (Nat → Nat → Int64)) (i1 : Int32) : Pc (g_228 n dp e 0 I L i1) (F3 WI_228 WL_228 I L) := (fa_228 n dp e I L i1).1
theorem f_228_1 (n dp : Nat) (e : EN) (I : (Nat → Nat → Int32)) (L : (Nat → Nat → Int64)) (i1 : Int32) : Pc (g_228 n dp e 1 I L i1) (F3 WI_228 WL_228 I L) := (fa_228 n dp e I L i1).2
def WI_224 : List (Nat × Nat) := [(105, 0), (112, 0), (113, 0), (114, 0), (115, 0)]
def WL_224 : List (Nat × Nat) := [(105, 0)]
set_option maxHeartbeats 8000000 in
set_option maxRecDepth 100000 in
theorem fa_224 : ∀ (n dp : Nat) (e : EN) (I : (Nat → Nat → Int32)) (L : (Nat → Nat → Int64)), Pc (g_224 n dp e 0 I L) (F3 WI_224 WL_224 I L) := by
  intro n
  induction n with
  | zero => intro dp e I L; exact Pc_none
  | succ n ih =>
    intro dp e I L
    · rw [e_224_0]
      repeat' first
        | with_reducible exact Pc_none
        | with_reducible exact Pc_s3
        | with_reducible refine Pc_ite ?_ ?_
        | ((with_reducible refine Pc_c33 (f_218_0 _ _ _ _ _ _) ?_ ?_ (fun _ _ _ => ?_)); exact (sbs_of rfl); exact sbs_of rfl; dsimp only)
        | ((with_reducible refine Pc_c33 (f_226_0 _ _ _ _ _ _) ?_ ?_ (fun _ _ _ => ?_)); exact (sbs_of rfl); exact sbs_of rfl; dsimp only)
        | ((with_reducible refine Pc_c33 (f_228_0 _ _ _ _ _ _) ?_ ?_ (fun _ _ _ => ?_)); exact (sbs_of rfl); exact sbs_of rfl; dsimp only)
        | ((with_reducible refine Pc_c23 (f_227_0 _ _ _ _ _ _) ?_ ?_ (fun _ _ => ?_)); exact (sbs_of rfl); exact sbs_of rfl; dsimp only)
        | ((with_reducible refine Pc_c23 (f_225_0 _ _ _ _ _ _ _) ?_ ?_ (fun _ _ => ?_)); exact (sbs_of rfl); exact sbs_of rfl; dsimp only)
        | ((with_reducible refine Pc_c23 (f_214_0 _ _ _ _ _) ?_ ?_ (fun _ _ => ?_)); exact (sbs_of rfl); exact sbs_of rfl; dsimp only)
theorem f_224_0 (n dp : Nat) (e : EN) (I : (Nat → Nat → Int32)) (L : (Nat → Nat → Int64)) : Pc (g_224 n dp e 0 I L) (F3 WI_224 WL_224 I L) := (fa_224 n dp e I L)
def WI_233 : List (Nat × Nat) := []
def WL_233 : List (Nat × Nat) := []
set_option maxHeartbeats 8000000 in
set_option maxRecDepth 100000 in
theorem fa_233 : ∀ (n dp : Nat) (e : EN) (I : (Nat → Nat → Int32)) (L : (Nat → Nat → Int64)) (i0 : Int32), Pc (g_233 n dp e 0 I L i0) (F3 WI_233 WL_233 I L) := by
  intro n
  induction n with
  | zero => intro dp e I L i0; exact Pc_none
  | succ n ih =>
    intro dp e I L i0
    · rw [e_233_0]
      repeat' first
        | with_reducible exact Pc_none
        | with_reducible exact Pc_s3
        | with_reducible refine Pc_ite ?_ ?_
theorem f_233_0 (n dp : Nat) (e : EN) (I : (Nat → Nat → Int32)) (L : (Nat → Nat → Int64)) (i0 : Int32) : Pc (g_233 n dp e 0 I L i0) (F3 WI_233 WL_233 I L) := (fa_233 n dp e I L i0)
def WI_234 : List (Nat × Nat) := [(105, 0), (112, 0), (113, 0)]
def WL_234 : List (Nat × Nat) := []
set_option maxHeartbeats 8000000 in
set_option maxRecDepth 100000 in
theorem fa_234 : ∀ (n dp : Nat) (e : EN) (I : (Nat → Nat → Int32)) (L : (Nat → Nat → Int64)) (i1 : Int32), Pc (g_234 n dp e 0 I L i1) (F2 WI_234 WL_234 I L) ∧
    Pc (g_234 n dp e 1 I L i1) (F2 WI_234 WL_234 I L) := by
  intro n
  induction n with
  | zero => intro dp e I L i1; exact ⟨Pc_none, Pc_none⟩
  | succ n ih =>
    intro dp e I L i1
    refine ⟨?_, ?_⟩
    · rw [e_234_0]
      repeat' first
        | with_reducible exact Pc_none
        | with_reducible exact Pc_s2
        | with_reducible refine Pc_ite ?_ ?_
        | ((with_reducible refine Pc_c32 (f_233_0 _ _ _ _ _ _) ?_ ?_ (fun _ _ _ => ?_)); exact (sbs_of rfl); exact sbs_of rfl; dsimp only)
        | with_reducible exact (ih _ _ _ _ _).2
        | ((with_reducible refine Pc_c22 (f_231_0 _ _ _ _ _ _ _) ?_ ?_ (fun _ _ => ?_)); exact (sbs_of rfl); exact sbs_of rfl; dsimp only)
        | with_reducible exact (ih _ _ _ _ _).1
        | ((with_reducible refine Pc_u2 ?_ (fun _ => ?_)); exact rfl)
        | with_reducible refine Pc_st (fun _ => ?_)
    · rw [e_234_1]
      repeat' first
        | with_reducible exact Pc_none
        | with_reducible exact Pc_s2
        | with_reducible refine Pc_ite ?_ ?_
        | with_reducible exact (ih _ _ _ _ _).1
        | ((with_reducible refine Pc_u2 ?_ (fun _ => ?_)); exact rfl)
        | with_reducible refine Pc_st (fun _ => ?_)
theorem f_234_0 (n dp : Nat) (e : EN) (I : (Nat → Nat → Int32)) (L : (Nat → Nat → Int64)) (i1 : Int32) : Pc (g_234 n dp e 0 I L i1) (F2 WI_234 WL_234 I L) := (fa_234 n dp e I L i1).1
theorem f_234_1 (n dp : Nat) (e : EN) (I : (Nat → Nat → Int32)) (L : (Nat → Nat → Int64)) (i1 : Int32) : Pc (g_234 n dp e 1 I L i1) (F2 WI_234 WL_234 I L) := (fa_234 n dp e I L i1).2
def WI_235 : List (Nat × Nat) := []
def WL_235 : List (Nat × Nat) := []
set_option maxHeartbeats 8000000 in
set_option maxRecDepth 100000 in
theorem fa_235 : ∀ (n dp : Nat) (e : EN) (I : (Nat → Nat → Int32)) (L : (Nat → Nat → Int64)) (i1 : Int32) (i2 : Int32), Pc (g_235 n dp e 0 I L i1 i2) (F3 WI_235 WL_235 I L) ∧
    Pc (g_235 n dp e 1 I L i1 i2) (F3 WI_235 WL_235 I L) := by
  intro n
  induction n with
  | zero => intro dp e I L i1 i2; exact ⟨Pc_none, Pc_none⟩
  | succ n ih =>
    intro dp e I L i1 i2
    refine ⟨?_, ?_⟩
    · rw [e_235_0]
      repeat' first
        | with_reducible exact Pc_none
        | with_reducible exact Pc_s3
        | with_reducible exact (ih _ _ _ _ _ _).2
    · rw [e_235_1]
      repeat' first
        | with_reducible exact Pc_none
        | with_reducible exact Pc_s3
        | with_reducible refine Pc_ite ?_ ?_
        | with_reducible exact (ih _ _ _ _ _ _).2
        | with_reducible refine Pc_st (fun _ => ?_)
theorem f_235_0 (n dp : Nat) (e : EN) (I : (Nat → Nat → Int32)) (L : (Nat → Nat → Int64)) (i1 : Int32) (i2 : Int32) : Pc (g_235 n dp e 0 I L i1 i2) (F3 WI_235 WL_235 I L) := (fa_235 n dp e I L i1 i2).1
theorem f_235_1 (n dp : Nat) (e : EN) (I : (Nat → Nat → Int32)) (L : (Nat → Nat → Int64)) (i1 : Int32) (i2 : Int32) : Pc (g_235 n dp e 1 I L i1 i2) (F3 WI_235 WL_235 I L) := (fa_235 n dp e I L i1 i2).2
def WI_236 : List (Nat × Nat) := []
def WL_236 : List (Nat × Nat) := []
set_option maxHeartbeats 8000000 in
set_option maxRecDepth 100000 in
theorem fa_236 : ∀ (n dp : Nat) (e : EN) (I : (Nat → Nat → Int32)) (L : (Nat → Nat → Int64)) (i1 : Int32), Pc (g_236 n dp e 0 I L i1) (F3 WI_236 WL_236 I L) ∧
    Pc (g_236 n dp e 1 I L i1) (F3 WI_236 WL_236 I L) ∧
    Pc (g_236 n dp e 2 I L i1) (F3 WI_236 WL_236 I L) := by
  intro n
  induction n with
  | zero => intro dp e I L i1; exact ⟨Pc_none, Pc_none, Pc_none⟩
  | succ n ih =>
    intro dp e I L i1
    refine ⟨?_, ?_, ?_⟩
    · rw [e_236_0]
      repeat' first
        | with_reducible exact Pc_none
        | with_reducible exact Pc_s3
        | with_reducible exact (ih _ _ _ _ _).2.1
        | with_reducible refine Pc_st (fun _ => ?_)
    · rw [e_236_1]
      repeat' first
        | with_reducible exact Pc_none
        | with_reducible exact Pc_s3
        | with_reducible refine Pc_ite ?_ ?_
        | with_reducible exact (ih _ _ _ _ _).2.2
        | ((with_reducible refine Pc_c33 (f_193_0 _ _ _ _ _ _ _ _) ?_ ?_ (fun _ _ _ => ?_)); exact (sbs_of rfl); exact sbs_of rfl; dsimp only)
        | with_reducible exact (ih _ _ _ _ _).2.1
    · rw [e_236_2]
      repeat' first
        | with_reducible exact Pc_none
        | with_reducible exact Pc_s3
        | with_reducible refine Pc_ite ?_ ?_
        | ((with_reducible refine Pc_c33 (f_193_0 _ _ _ _ _ _ _ _) ?_ ?_ (fun _ _ _ => ?_)); exact (sbs_of rfl); exact sbs_of rfl; dsimp only)
theorem f_236_0 (n dp : Nat) (e : EN) (I : (Nat → Nat → Int32)) (L : (Nat → Nat → Int64)) (i1 : Int32) : Pc (g_236 n dp e 0 I L i1) (F3 WI_236 WL_236 I L) := (fa_236 n dp e I L i1).1
theorem f_236_1 (n dp : Nat) (e : EN) (I : (Nat → Nat → Int32)) (L : (Nat → Nat → Int64)) (i1 : Int32) : Pc (g_236 n dp e 1 I L i1) (F3 WI_236 WL_236 I L) := (fa_236 n dp e I L i1).2.1
theorem f_236_2 (n dp : Nat) (e : EN) (I : (Nat → Nat → Int32)) (L : (Nat → Nat → Int64)) (i1 : Int32) : Pc (g_236 n dp e 2 I L i1) (F3 WI_236 WL_236 I L) := (fa_236 n dp e I L i1).2.2
