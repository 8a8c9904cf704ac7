def WI_296 : List (Nat × Nat) := [(105, 0), (106, 0), (107, 0)]
def WL_296 : List (Nat × Nat) := []
set_option maxHeartbeats 8000000 in
set_option maxRecDepth 100000 in
theorem fa_296 : ∀ (n dp : Nat) (e : EN) (I : (Nat → Nat → Int32)) (L : (Nat → Nat → Int64)) (i1 : Int32) (i2 : Int32) (i3 : Int32) (i4 : Int32) (i5 : Int32) (i6 : Int32) (i7 : Int32) (i8 : Int32) (i9 : Int32), Pc (g_296 n dp e 0 I L i1 i2 i3 i4 i5 i6 i7 i8 i9) (F3 WI_296 WL_296 I L) ∧
    Pc (g_296 n dp e 1 I L i1 i2 i3 i4 i5 i6 i7 i8 i9) (F3 WI_296 WL_296 I L) ∧
    Pc (g_296 n dp e 2 I L i1 i2 i3 i4 i5 i6 i7 i8 i9) (F3 WI_296 WL_296 I L) ∧
    Pc (g_296 n dp e 3 I L i1 i2 i3 i4 i5 i6 i7 i8 i9) (F3 WI_296 WL_296 I L) ∧
    Pc (g_296 n dp e 4 I L i1 i2 i3 i4 i5 i6 i7 i8 i9) (F3 WI_296 WL_296 I L) ∧
    Pc (g_296 n dp e 5 I L i1 i2 i3 i4 i5 i6 i7 i8 i9) (F3 WI_296 WL_296 I L) ∧
    Pc (g_296 n dp e 6 I L i1 i2 i3 i4 i5 i6 i7 i8 i9) (F3 WI_296 WL_296 I L) := by
  intro n
  induction n with
  | zero => intro dp e I L i1 i2 i3 i4 i5 i6 i7 i8 i9; exact ⟨Pc_none, Pc_none, Pc_none, Pc_none, Pc_none, Pc_none, Pc_none⟩
  | succ n ih =>
    intro dp e I L i1 i2 i3 i4 i5 i6 i7 i8 i9
    refine ⟨?_, ?_, ?_, ?_, ?_, ?_, ?_⟩
    · rw [e_296_0]
      repeat' first
        | with_reducible exact Pc_none
        | with_reducible exact Pc_s3
        | with_reducible refine Pc_ite ?_ ?_
        | ((with_reducible refine Pc_c33 (f_193_0 _ _ _ _ _ _ _ _) ?_ ?_ (fun _ _ _ => ?_)); exact (sbs_of rfl); exact sbs_of rfl; dsimp only)
        | ((with_reducible refine Pc_c33 (f_194_0 _ _ _ _ _ _) ?_ ?_ (fun _ _ _ => ?_)); exact (sbs_of rfl); exact sbs_of rfl; dsimp only)
        | with_reducible exact (ih _ _ _ _ _ _ _ _ _ _ _ _ _).2.1
        | ((with_reducible refine Pc_u3 ?_ (fun _ => ?_)); exact rfl)
        | with_reducible refine Pc_st (fun _ => ?_)
    · rw [e_296_1]
      repeat' first
        | with_reducible exact Pc_none
        | with_reducible exact Pc_s3
        | with_reducible refine Pc_ite ?_ ?_
        | ((with_reducible refine Pc_c33 (f_194_0 _ _ _ _ _ _) ?_ ?_ (fun _ _ _ => ?_)); exact (sbs_of rfl); exact sbs_of rfl; dsimp only)
        | with_reducible exact (ih _ _ _ _ _ _ _ _ _ _ _ _ _).2.2.1
        | with_reducible refine Pc_st (fun _ => ?_)
    · rw [e_296_2]
      repeat' first
        | with_reducible exact Pc_none
        | with_reducible exact Pc_s3
        | with_reducible refine Pc_ite ?_ ?_
        | with_reducible exact (ih _ _ _ _ _ _ _ _ _ _ _ _ _).2.2.2.2.2.2
        | ((with_reducible refine Pc_c33 (f_292_0 _ _ _ _ _ _ _) ?_ ?_ (fun _ _ _ => ?_)); exact (sbs_of rfl); exact sbs_of rfl; dsimp only)
        | ((with_reducible refine Pc_c33 (f_193_0 _ _ _ _ _ _ _ _) ?_ ?_ (fun _ _ _ => ?_)); exact (sbs_of rfl); exact sbs_of rfl; dsimp only)
        | with_reducible exact (ih _ _ _ _ _ _ _ _ _ _ _ _ _).2.2.2.1
        | with_reducible exact (ih _ _ _ _ _ _ _ _ _ _ _ _ _).2.2.2.2.2.1
        | with_reducible exact (ih _ _ _ _ _ _ _ _ _ _ _ _ _).2.2.2.2.1
        | ((with_reducible refine Pc_u3 ?_ (fun _ => ?_)); exact rfl)
        | with_reducible refine Pc_st (fun _ => ?_)
    · rw [e_296_3]
      repeat' first
        | with_reducible exact Pc_none
        | with_reducible exact Pc_s3
        | with_reducible refine Pc_ite ?_ ?_
        | with_reducible exact (ih _ _ _ _ _ _ _ _ _ _ _ _ _).2.2.2.2.2.1
        | with_reducible exact (ih _ _ _ _ _ _ _ _ _ _ _ _ _).2.2.2.2.1
        | ((with_reducible refine Pc_c33 (f_292_0 _ _ _ _ _ _ _) ?_ ?_ (fun _ _ _ => ?_)); exact (sbs_of rfl); exact sbs_of rfl; dsimp only)
    · rw [e_296_4]
      repeat' first
        | with_reducible exact Pc_none
        | with_reducible exact Pc_s3
        | with_reducible exact (ih _ _ _ _ _ _ _ _ _ _ _ _ _).2.2.1
    · rw [e_296_5]
      repeat' first
        | with_reducible exact Pc_none
        | with_reducible exact Pc_s3
        | with_reducible exact (ih _ _ _ _ _ _ _ _ _ _ _ _ _).2.2.1
    · rw [e_296_6]
      repeat' first
        | with_reducible exact Pc_none
        | with_reducible exact Pc_s3
        | with_reducible exact (ih _ _ _ _ _ _ _ _ _ _ _ _ _).2.1
theorem f_296_0 (n dp : Nat) (e : EN) (I : (Nat → Nat → Int32)) (L : (Nat → Nat → Int64)) (i1 : Int32) (i2 : Int32) (i3 : Int32) (i4 : Int32) (i5 : Int32) (i6 : Int32) (i7 : Int32) (i8 : Int32) (i9 : Int32) : Pc (g_296 n dp e 0 I L i1 i2 i3 i4 i5 i6 i7 i8 i9) (F3 WI_296 WL_296 I L) := (fa_296 n dp e I L i1 i2 i3 i4 i5 i6 i7 i8 i9).1
theorem f_296_1 (n dp : Nat) (e : EN) (I : (Nat → Nat → Int32)) (L : (Nat → Nat → Int64)) (i1 : Int32) (i2 : Int32) (i3 : Int32) (i4 : Int32) (i5 : Int32) (i6 : Int32) (i7 : Int32) (i8 : Int32) (i9 : Int32) : Pc (g_296 n dp e 1 I L i1 i2 i3 i4 i5 i6 i7 i8 i9) (F3 WI_296 WL_296 I L) := (fa_296 n dp e I L i1 i2 i3 i4 i5 i6 i7 i8 i9).2.1
theorem f_296_2 (n dp : Nat) (e : EN) (I : (Nat → Nat → Int32)) (L : (Nat → Nat → Int64)) (i1 : Int32) (i2 : Int32) (i3 : Int32) (i4 : Int32) (i5 : Int32) (i6 : Int32) (i7 : Int32) (i8 : Int32) (i9 : Int32) : Pc (g_296 n dp e 2 I L i1 i2 i3 i4 i5 i6 i7 i8 i9) (F3 WI_296 WL_296 I L) := (fa_296 n dp e I L i1 i2 i3 i4 i5 i6 i7 i8 i9).2.2.1
theorem f_296_3 (n dp : Nat) (e : EN) (I : (Nat → Nat → Int32)) (L : (Nat → Nat → Int64)) (i1 : Int32) (i2 : Int32) (i3 : Int32) (i4 : Int32) (i5 : Int32) (i6 : Int32) (i7 : Int32) (i8 : Int32) (i9 : Int32) : Pc (g_296 n dp e 3 I L i1 i2 i3 i4 i5 i6 i7 i8 i9) (F3 WI_296 WL_296 I L) := (fa_296 n dp e I L i1 i2 i3 i4 i5 i6 i7 i8 i9).2.2.2.1
theorem f_296_4 (n dp : Nat) (e : EN) (I : (Nat → Nat → Int32)) (L : (Nat → Nat → Int64)) (i1 : Int32) (i2 : Int32) (i3 : Int32) (i4 : Int32) (i5 : Int32) (i6 : Int32) (i7 : Int32) (i8 : Int32) (i9 : Int32) : Pc (g_296 n dp e 4 I L i1 i2 i3 i4 i5 i6 i7 i8 i9) (F3 WI_296 WL_296 I L) := (fa_296 n dp e I L i1 i2 i3 i4 i5 i6 i7 i8 i9).2.2.2.2.1
theorem f_296_5 (n dp : Nat) (e : EN) (I : (Nat → Nat → Int32)) (L : (Nat → Nat → Int64)) (i1 : Int32) (i2 : Int32) (i3 : Int32) (i4 : Int32) (i5 : Int32) (i6 : Int32) (i7 : Int32) (i8 : Int32) (i9 : Int32) : Pc (g_296 n dp e 5 I L i1 i2 i3 i4 i5 i6 i7 i8 i9) (F3 WI_296 WL_296 I L) := (fa_296 n dp e I L i1 i2 i3 i4 i5 i6 i7 i8 i9).2.2.2.2.2.1
theorem f_296_6 (n dp : Nat) (e : EN) (I : (Nat → Nat → Int32)) (L : (Nat → Nat → Int64)) (i1 : Int32) (i2 : Int32) (i3 : Int32) (i4 : Int32) (i5 : Int32) (i6 : Int32) (i7 : Int32) (i8 : Int32) (i9 : Int32) : Pc (g_296 n dp e 6 I L i1 i2 i3 i4 i5 i6 i7 i8 i9) (F3 WI_296 WL_296 I L) := (fa_296 n dp e I L i1 i2 i3 i4 i5 i6 i7 i8 i9).2.2.2.2.2.2
def WI_297 : List (Nat × Nat) := [(105, 0), (107, 0), (106, 0)]
def WL_297 : List (Nat × Nat) := []
set_option maxHeartbeats 8000000 in
set_option maxRecDepth 100000 in
theorem fa_297 : ∀ (n dp : Nat) (e : EN) (I : (Nat → Nat → Int32)) (L : (Nat → Nat → Int64)) (i1 : Int32), Pc (g_297 n dp e 0 I L i1) (F3 WI_297 WL_297 I L) := by
  intro n
  induction n with
  | zero => intro dp e I L i1; exact Pc_none
  | succ n ih =>
    intro dp e I L i1
    · rw [e_297_0]
      repeat' first
        | with_reducible exact Pc_none
        | with_reducible exact Pc_s3
        | with_reducible refine Pc_ite ?_ ?_
        | ((with_reducible refine Pc_c33 (f_193_0 _ _ _ _ _ _ _ _) ?_ ?_ (fun _ _ _ => ?_)); exact (sbs_of rfl); exact sbs_of rfl; dsimp only)
        | ((with_reducible refine Pc_c33 (f_194_0 _ _ _ _ _ _) ?_ ?_ (fun _ _ _ => ?_)); exact (sbs_of rfl); exact sbs_of rfl; dsimp only)
        | ((with_reducible refine Pc_c33 (f_292_0 _ _ _ _ _ _ _) ?_ ?_ (fun _ _ _ => ?_)); exact (sbs_of rfl); exact sbs_of rfl; dsimp only)
        | ((with_reducible refine Pc_u3 ?_ (fun _ => ?_)); exact rfl)
        | with_reducible refine Pc_st (fun _ => ?_)
theorem f_297_0 (n dp : Nat) (e : EN) (I : (Nat → Nat → Int32)) (L : (Nat → Nat → Int64)) (i1 : Int32) : Pc (g_297 n dp e 0 I L i1) (F3 WI_297 WL_297 I L) := (fa_297 n dp e I L i1)
def WI_299 : List (Nat × Nat) := []
def WL_299 : List (Nat × Nat) := []
set_option maxHeartbeats 8000000 in
set_option maxRecDepth 100000 in
theorem fa_299 : ∀ (n dp : Nat) (e : EN) (I : (Nat → Nat → Int32)) (L : (Nat → Nat → Int64)) (i1 : Int32) (i2 : Int32) (i3 : Int32), Pc (g_299 n dp e 0 I L i1 i2 i3) (F3 WI_299 WL_299 I L) ∧
    Pc (g_299 n dp e 1 I L i1 i2 i3) (F3 WI_299 WL_299 I L) ∧
    Pc (g_299 n dp e 2 I L i1 i2 i3) (F3 WI_299 WL_299 I L) := by
  intro n
  induction n with
  | zero => intro dp e I L i1 i2 i3; exact ⟨Pc_none, Pc_none, Pc_none⟩
  | succ n ih =>
    intro dp e I L i1 i2 i3
    refine ⟨?_, ?_, ?_⟩
    · rw [e_299_0]
      repeat' first
        | with_reducible exact Pc_none
        | with_reducible exact Pc_s3
        | with_reducible refine Pc_ite ?_ ?_
        | ((with_reducible refine Pc_c33 (f_292_0 _ _ _ _ _ _ _) ?_ ?_ (fun _ _ _ => ?_)); exact (sbs_of rfl); exact sbs_of rfl; dsimp only)
        | with_reducible exact (ih _ _ _ _ _ _ _).2.2
        | with_reducible exact (ih _ _ _ _ _ _ _).2.1
    · rw [e_299_1]
      repeat' first
        | with_reducible exact Pc_none
        | with_reducible exact Pc_s3
        | with_reducible refine Pc_ite ?_ ?_
        | ((with_reducible refine Pc_c33 (f_292_0 _ _ _ _ _ _ _) ?_ ?_ (fun _ _ _ => ?_)); exact (sbs_of rfl); exact sbs_of rfl; dsimp only)
        | with_reducible exact (ih _ _ _ _ _ _ _).2.2
    · rw [e_299_2]
      repeat' first
        | with_reducible exact Pc_none
        | with_reducible exact Pc_s3
theorem f_299_0 (n dp : Nat) (e : EN) (I : (Nat → Nat → Int32)) (L : (Nat → Nat → Int64)) (i1 : Int32) (i2 : Int32) (i3 : Int32) : Pc (g_299 n dp e 0 I L i1 i2 i3) (F3 WI_299 WL_299 I L) := (fa_299 n dp e I L i1 i2 i3).1
theorem f_299_1 (n dp : Nat) (e : EN) (I : (Nat → Nat → Int32)) (L : (Nat → Nat → Int64)) (i1 : Int32) (i2 : Int32) (i3 : Int32) : Pc (g_299 n dp e 1 I L i1 i2 i3) (F3 WI_299 WL_299 I L) := (fa_299 n dp e I L i1 i2 i3).2.1
theorem f_299_2 (n dp : Nat) (e : EN) (I : (Nat → Nat → Int32)) (L : (Nat → Nat → Int64)) (i1 : Int32) (i2 : Int32) (i3 : Int32) : Pc (g_299 n dp e 2 I L i1 i2 i3) (F3 WI_299 WL_299 I L) := (fa_299 n dp e I L i1 i2 i3).2.2
def WI_298 : List (Nat × Nat) := [(105, 0), (141, 0)]
def WL_298 : List (Nat × Nat) := []
set_option maxHeartbeats 8000000 in
set_option maxRecDepth 100000 in
theorem fa_298 : ∀ (n dp : Nat) (e : EN) (I : (Nat → Nat → Int32)) (L : (Nat → Nat → Int64)) (i1 : Int32) (i2 : Int32) (i3 : Int32) (i4 : Int32) (i5 : Int32) (i6 : Int32) (i7 : Int32), Pc (g_298 n dp e 0 I L i1 i2 i3 i4 i5 i6 i7) (F3 WI_298 WL_298 I L) ∧
    Pc (g_298 n dp e 1 I L i1 i2 i3 i4 i5 i6 i7) (F3 WI_298 WL_298 I L) ∧
    Pc (g_298 n dp e 2 I L i1 i2 i3 i4 i5 i6 i7) (F3 WI_298 WL_298 I L) ∧
    Pc (g_298 n dp e 3 I L i1 i2 i3 i4 i5 i6 i7) (F3 WI_298 WL_298 I L) ∧
    Pc (g_298 n dp e 4 I L i1 i2 i3 i4 i5 i6 i7) (F3 WI_298 WL_298 I L) ∧
    Pc (g_298 n dp e 5 I L i1 i2 i3 i4 i5 i6 i7) (F3 WI_298 WL_298 I L) ∧
    Pc (g_298 n dp e 6 I L i1 i2 i3 i4 i5 i6 i7) (F3 WI_298 WL_298 I L) := by
  intro n
  induction n with
  | zero => intro dp e I L i1 i2 i3 i4 i5 i6 i7; exact ⟨Pc_none, Pc_none, Pc_none, Pc_none, Pc_none, Pc_none, Pc_none⟩
  | succ n ih =>
    intro dp e I L i1 i2 i3 i4 i5 i6 i7
    refine ⟨?_, ?_, ?_, ?_, ?_, ?_, ?_⟩
    · rw [e_298_0]
      repeat' first
        | with_reducible exact Pc_none
        | with_reducible exact Pc_s3
        | with_reducible refine Pc_ite ?_ ?_
        | ((with_reducible refine Pc_c33 (f_193_0 _ _ _ _ _ _ _ _) ?_ ?_ (fun _ _ _ => ?_)); exact (sbs_of rfl); exact sbs_of rfl; dsimp only)
        | with_reducible exact (ih _ _ _ _ _ _ _ _ _ _ _).2.1
        | ((with_reducible refine Pc_u3 ?_ (fun _ => ?_)); exact rfl)
        | with_reducible refine Pc_st (fun _ => ?_)
    · rw [e_298_1]
      repeat' first
        | with_reducible exact Pc_none
        | with_reducible exact Pc_s3
        | with_reducible exact (ih _ _ _ _ _ _ _ _ _ _ _).2.2.1
    · rw [e_298_2]
      repeat' first
        | with_reducible exact Pc_none
        | with_reducible exact Pc_s3
        | with_reducible refine Pc_ite ?_ ?_
        | with_reducible exact (ih _ _ _ _ _ _ _ _ _ _ _).2.2.2.1
        | ((with_reducible refine Pc_c33 (f_292_0 _ _ _ _ _ _ _) ?_ ?_ (fun _ _ _ => ?_)); exact (sbs_of rfl); exact sbs_of rfl; dsimp only)
        | with_reducible exact (ih _ _ _ _ _ _ _ _ _ _ _).2.2.1
        | ((with_reducible refine Pc_u3 ?_ (fun _ => ?_)); exact rfl)
        | with_reducible refine Pc_st (fun _ => ?_)
    · rw [e_298_3]
      repeat' first
        | with_reducible exact Pc_none
        | with_reducible exact Pc_s3
        | with_reducible refine Pc_ite ?_ ?_
        | with_reducible exact (ih _ _ _ _ _ _ _ _ _ _ _).2.2.2.2.2.2
        | with_reducible exact (ih _ _ _ _ _ _ _ _ _ _ _).2.2.2.2.1
    · rw [e_298_4]
      repeat' first
        | with_reducible exact Pc_none
        | with_reducible exact Pc_s3
        | with_reducible refine Pc_ite ?_ ?_
        | with_reducible exact (ih _ _ _ _ _ _ _ _ _ _ _).2.2.2.1
        | with_reducible exact (ih _ _ _ _ _ _ _ _ _ _ _).2.2.2.2.2.1
    · rw [e_298_5]
      repeat' first
        | with_reducible exact Pc_none
        | with_reducible exact Pc_s3
        | with_reducible refine Pc_ite ?_ ?_
        | with_reducible exact (ih _ _ _ _ _ _ _ _ _ _ _).2.2.2.2.1
        | ((with_reducible refine Pc_c33 (f_193_0 _ _ _ _ _ _ _ _) ?_ ?_ (fun _ _ _ => ?_)); exact (sbs_of rfl); exact sbs_of rfl; dsimp only)
        | with_reducible exact (ih _ _ _ _ _ _ _ _ _ _ _).2.2.2.2.2.1
        | ((with_reducible refine Pc_c33 (f_299_0 _ _ _ _ _ _ _ _) ?_ ?_ (fun _ _ _ => ?_)); exact (sbs_of rfl); exact sbs_of rfl; dsimp only)
        | ((with_reducible refine Pc_u3 ?_ (fun _ => ?_)); exact rfl)
        | with_reducible refine Pc_st (fun _ => ?_)
    · rw [e_298_6]
      repeat' first
        | with_reducible exact Pc_none
        | with_reducible exact Pc_s3
        | with_reducible refine Pc_ite ?_ ?_
        | with_reducible exact (ih _ _ _ _ _ _ _ _ _ _ _).2.2.2.2.2.2
        | with_reducible refine Pc_st (fun _ => ?_)
theorem f_298_0 (n dp : Nat) (e : EN) (I : (Nat → Nat → Int32)) (L : (Nat → Nat → Int64)) (i1 : Int32) (i2 : Int32) (i3 : Int32) (i4 : Int32) (i5 : Int32) (i6 : Int32) (i7 : Int32) : Pc (g_298 n dp e 0 I L i1 i2 i3 i4 i5 i6 i7) (F3 WI_298 WL_298 I L) := (fa_298 n dp e I L i1 i2 i3 i4 i5 i6 i7).1
theorem f_298_1 (n dp : Nat) (e : EN) (I : (Nat → Nat → Int32)) (L : (Nat → Nat → Int64)) (i1 : Int32) (i2 : Int32) (i3 : Int32) (i4 : Int32) (i5 : Int32) (i6 : Int32) (i7 : Int32) : Pc (g_298 n dp e 1 I L i1 i2 i3 i4 i5 i6 i7) (F3 WI_298 WL_298 I L) := (fa_298 n dp e I L i1 i2 i3 i4 i5 i6 i7).2.1
theorem f_298_2 (n dp : Nat) (e : EN) (I : (Nat → Nat → Int32)) (L : (Nat → Nat → Int64)) (i1 : Int32) (i2 : Int32) (i3 : Int32) (i4 : Int32) (i5 : Int32) (i6 : Int32) (i7 : Int32) : Pc (g_298 n dp e 2 I L i1 i2 i3 i4 i5 i6 i7) (F3 WI_298 WL_298 I L) := (fa_298 n dp e I L i1 i2 i3 i4 i5 i6 i7).2.2.1
theorem f_298_3 (n dp : Nat) (e : EN) (I : (Nat → Nat → Int32)) (L : (Nat → Nat → Int64)) (i1 : Int32) (i2 : Int32) (i3 : Int32) (i4 : Int32) (i5 : Int32) (i6 : Int32) (i7 : Int32) : Pc (g_298 n dp e 3 I L i1 i2 i3 i4 i5 i6 i7) (F3 WI_298 WL_298 I L) := (fa_298 n dp e I L i1 i2 i3 i4 i5 i6 i7).2.2.2.1
theorem f_298_4 (n dp : Nat) (e : EN) (I : (Nat → Nat → Int32)) (L : (Nat → Nat → Int64)) (i1 : Int32) (i2 : Int32) (i3 : Int32) (i4 : Int32) (i5 : Int32) (i6 : Int32) (i7 : Int32) : Pc (g_298 n dp e 4 I L i1 i2 i3 i4 i5 i6 i7) (F3 WI_298 WL_298 I L) := (fa_298 n dp e I L i1 i2 i3 i4 i5 i6 i7).2.2.2.2.1
theorem f_298_5 (n dp : Nat) (e : EN) (I : (Nat → Nat → Int32)) (L : (Nat → Nat → Int64)) (i1 : Int32) (i2 : Int32) (i3 : Int32) (i4 : Int32) (i5 : Int32) (i6 : Int32) (i7 : Int32) : Pc (g_298 n dp e 5 I L i1 i2 i3 i4 i5 i6 i7) (F3 WI_298 WL_298 I L) := (fa_298 n dp e I L i1 i2 i3 i4 i5 i6 i7).2.2.2.2.2.1
theorem f_298_6 (n dp : Nat) (e : EN) (I : (Nat → Nat → Int32)) (L : (Nat → Nat → Int64)) (i1 : Int32) (i2 : Int32) (i3 : Int32) (i4 : Int32) (i5 : Int32) (i6 : Int32) (i7 : Int32) : Pc (g_298 n dp e 6 I L i1 i2 i3 i4 i5 i6 i7) (F3 WI_298 WL_298 I L) := (fa_298 n dp e I L i1 i2 i3 i4 i5 i6 i7).2.2.2.2.2.2
def WI_300 : List (Nat × Nat) := [(105, 0), (107, 0), (106, 0)]
def WL_300 : List (Nat × Nat) := []
set_option maxHeartbeats 8000000 in
set_option maxRecDepth 100000 in
theorem fa_300 : ∀ (n dp : Nat) (e : EN) (I : (Nat → Nat → Int32)) (L : (Nat → Nat → Int64)) (i1 : Int32) (i2 : Int32), Pc (g_300 n dp e 0 I L i1 i2) (F3 WI_300 WL_300 I L) := by
  intro n
  induction n with
  | zero => intro dp e I L i1 i2; exact Pc_none
  | succ n ih =>
    intro dp e I L i1 i2
    · rw [e_300_0]
      repeat' first
        | with_reducible exact Pc_none
        | with_reducible exact Pc_s3
        | with_reducible refine Pc_ite ?_ ?_
        | ((with_reducible refine Pc_c33 (f_193_0 _ _ _ _ _ _ _ _) ?_ ?_ (fun _ _ _ => ?_)); exact (sbs_of rfl); exact sbs_of rfl; dsimp only)
        | ((with_reducible refine Pc_c33 (f_194_0 _ _ _ _ _ _) ?_ ?_ (fun _ _ _ => ?_)); exact (sbs_of rfl); exact sbs_of rfl; dsimp only)
        | ((with_reducible refine Pc_u3 ?_ (fun _ => ?_)); exact rfl)
        | with_reducible refine Pc_st (fun _ => ?_)
theorem f_300_0 (n dp : Nat) (e : EN) (I : (Nat → Nat → Int32)) (L : (Nat → Nat → Int64)) (i1 : Int32) (i2 : Int32) : Pc (g_300 n dp e 0 I L i1 i2) (F3 WI_300 WL_300 I L) := (fa_300 n dp e I L i1 i2)
def WI_301 : List (Nat × Nat) := [(105, 0)]
def WL_301 : List (Nat × Nat) := []
set_option maxHeartbeats 8000000 in
set_option maxRecDepth 100000 in
theorem fa_301 : ∀ (n dp : Nat) (e : EN) (I : (Nat → Nat → Int32)) (L : (Nat → Nat → Int64)) (i1 : Int32) (i2 : Int32) (i3 : Int32) (i4 : Int32) (i5 : Int32) (i6 : Int32) (i7 : Int32), Pc (g_301 n dp e 0 I L i1 i2 i3 i4 i5 i6 i7) (F3 WI_301 WL_301 I L) ∧
    Pc (g_301 n dp e 1 I L i1 i2 i3 i4 i5 i6 i7) (F3 WI_301 WL_301 I L) ∧
    Pc (g_301 n dp e 2 I L i1 i2 i3 i4 i5 i6 i7) (F3 WI_301 WL_301 I L) := by
  intro n
  induction n with
  | zero => intro dp e I L i1 i2 i3 i4 i5 i6 i7; exact ⟨Pc_none, Pc_none, Pc_none⟩
  | succ n ih =>
    intro dp e I L i1 i2 i3 i4 i5 i6 i7
    refine ⟨?_, ?_, ?_⟩
    · rw [e_301_0]
      repeat' first
        | with_reducible exact Pc_none
        | with_reducible exact Pc_s3
        | with_reducible refine Pc_ite ?_ ?_
        | ((with_reducible refine Pc_c33 (f_193_0 _ _ _ _ _ _ _ _) ?_ ?_ (fun _ _ _ => ?_)); exact (sbs_of rfl); exact sbs_of rfl; dsimp only)
        | with_reducible exact (ih _ _ _ _ _ _ _ _ _ _ _).2.1
        | ((with_reducible refine Pc_u3 ?_ (fun _ => ?_)); exact rfl)
        | with_reducible refine Pc_st (fun _ => ?_)
    · rw [e_301_1]
      repeat' first
        | with_reducible exact Pc_none
        | with_reducible exact Pc_s3
        | with_reducible refine Pc_ite ?_ ?_
        | with_reducible exact (ih _ _ _ _ _ _ _ _ _ _ _).2.2
        | with_reducible exact (ih _ _ _ _ _ _ _ _ _ _ _).2.1
        | with_reducible refine Pc_st (fun _ => ?_)
    · rw [e_301_2]
      repeat' first
        | with_reducible exact Pc_none
        | with_reducible exact Pc_s3
        | with_reducible refine Pc_ite ?_ ?_
        | with_reducible exact (ih _ _ _ _ _ _ _ _ _ _ _).2.1
theorem f_301_0 (n dp : Nat) (e : EN) (I : (Nat → Nat → Int32)) (L : (Nat → Nat → Int64)) (i1 : Int32) (i2 : Int32) (i3 : Int32) (i4 : Int32) (i5 : Int32) (i6 : Int32) (i7 : Int32) : Pc (g_301 n dp e 0 I L i1 i2 i3 i4 i5 i6 i7) (F3 WI_301 WL_301 I L) := (fa_301 n dp e I L i1 i2 i3 i4 i5 i6 i7).1
theorem f_301_1 (n dp : Nat) (e : EN) (I : (Nat → Nat → Int32)) (L : (Nat → Nat → Int64)) (i1 : Int32) (i2 : Int32) (i3 : Int32) (i4 : Int32) (i5 : Int32) (i6 : Int32) (i7 : Int32) : Pc (g_301 n dp e 1 I L i1 i2 i3 i4 i5 i6 i7) (F3 WI_301 WL_301 I L) := (fa_301 n dp e I L i1 i2 i3 i4 i5 i6 i7).2.1
theorem f_301_2 (n dp : Nat) (e : EN) (I : (Nat → Nat → Int32)) (L : (Nat → Nat → Int64)) (i1 : Int32) (i2 : Int32) (i3 : Int32) (i4 : Int32) (i5 : Int32) (i6 : Int32) (i7 : Int32) : Pc (g_301 n dp e 2 I L i1 i2 i3 i4 i5 i6 i7) (F3 WI_301 WL_301 I L) := (fa_301 n dp e I L i1 i2 i3 i4 i5 i6 i7).2.2
def WI_302 : List (Nat × Nat) := [(105, 0), (106, 0), (143, 0), (125, 0), (120, 0), (123, 0), (124, 0), (121, 0), (122, 0), (126, 0), (127, 0), (128, 0), (131, 0), (133, 0), (129, 0), (130, 0), (142, 0)]
def WL_302 : List (Nat × Nat) := [(118, 0), (119, 0), (105, 0)]
set_option maxHeartbeats 8000000 in
set_option maxRecDepth 100000 in
theorem fa_302 : ∀ (n dp : Nat) (e : EN) (I : (Nat → Nat → Int32)) (L : (Nat → Nat → Int64)) (i1 : Int32) (i4 : Int32) (i5 : Int32) (i6 : Int32) (j2 : Int64), Pc (g_302 n dp e 0 I L i1 i4 i5 i6 j2) (F3 WI_302 WL_302 I L) ∧
    Pc (g_302 n dp e 1 I L i1 i4 i5 i6 j2) (F3 WI_302 WL_302 I L) ∧
    Pc (g_302 n dp e 2 I L i1 i4 i5 i6 j2) (F3 WI_302 WL_302 I L) ∧
    Pc (g_302 n dp e 3 I L i1 i4 i5 i6 j2) (F3 WI_302 WL_302 I L) ∧
    Pc (g_302 n dp e 4 I L i1 i4 i5 i6 j2) (F3 WI_302 WL_302 I L) := by
  intro n
  induction n with
  | zero => intro dp e I L i1 i4 i5 i6 j2; exact ⟨Pc_none, Pc_none, Pc_none, Pc_none, Pc_none⟩
  | succ n ih =>
    intro dp e I L i1 i4 i5 i6 j2
    refine ⟨?_, ?_, ?_, ?_, ?_⟩
    · rw [e_302_0]
      repeat' first
        | with_reducible exact Pc_none
        | with_reducible exact Pc_s3
        | with_reducible refine Pc_ite ?_ ?_
        | ((with_reducible refine Pc_c33 (f_193_0 _ _ _ _ _ _ _ _) ?_ ?_ (fun _ _ _ => ?_)); exact (sbs_of rfl); exact sbs_of rfl; dsimp only)
        | ((with_reducible refine Pc_c33 (f_194_0 _ _ _ _ _ _) ?_ ?_ (fun _ _ _ => ?_)); exact (sbs_of rfl); exact sbs_of rfl; dsimp only)
        | with_reducible exact (ih _ _ _ _ _ _ _ _ _).2.1
        | ((with_reducible refine Pc_u3 ?_ (fun _ => ?_)); exact rfl)
        | with_reducible refine Pc_st (fun _ => ?_)
    · rw [e_302_1]
      repeat' first
        | with_reducible exact Pc_none
        | with_reducible exact Pc_s3
        | with_reducible refine Pc_ite ?_ ?_
        | with_reducible exact (ih _ _ _ _ _ _ _ _ _).2.2.2.1
        | with_reducible exact (ih _ _ _ _ _ _ _ _ _).2.2.1
    · rw [e_302_2]
      repeat' first
        | with_reducible exact Pc_none
        | with_reducible exact Pc_s3
        | with_reducible refine Pc_ite ?_ ?_
        | with_reducible exact (ih _ _ _ _ _ _ _ _ _).2.1
        | with_reducible exact (ih _ _ _ _ _ _ _ _ _).2.2.1
        | ((with_reducible refine Pc_u3 ?_ (fun _ => ?_)); exact rfl)
        | with_reducible refine Pc_st (fun _ => ?_)
    · rw [e_302_3]
      repeat' first
        | with_reducible exact Pc_none
        | with_reducible exact Pc_s3
        | with_reducible refine Pc_ite ?_ ?_
        | with_reducible exact (ih _ _ _ _ _ _ _ _ _).2.2.2.2
        | ((with_reducible refine Pc_c33 (f_262_0 _ _ _ _ _ _ _ _ _ _ _) ?_ ?_ (fun _ _ _ => ?_)); exact (sbs_of rfl); exact sbs_of rfl; dsimp only)
        | ((with_reducible refine Pc_c33 (f_194_0 _ _ _ _ _ _) ?_ ?_ (fun _ _ _ => ?_)); exact (sbs_of rfl); exact sbs_of rfl; dsimp only)
        | ((with_reducible refine Pc_c33 (f_263_0 _ _ _ _ _ _ _ _) ?_ ?_ (fun _ _ _ => ?_)); exact (sbs_of rfl); exact sbs_of rfl; dsimp only)
        | with_reducible exact (ih _ _ _ _ _ _ _ _ _).2.2.2.1
        | ((with_reducible refine Pc_u3 ?_ (fun _ => ?_)); exact rfl)
        | with_reducible refine Pc_st (fun _ => ?_)
    · rw [e_302_4]
      repeat' first
        | with_reducible exact Pc_none
        | with_reducible exact Pc_s3
        | with_reducible refine Pc_ite ?_ ?_
        | ((with_reducible refine Pc_c33 (f_194_0 _ _ _ _ _ _) ?_ ?_ (fun _ _ _ => ?_)); exact (sbs_of rfl); exact sbs_of rfl; dsimp only)
        | with_reducible exact (ih _ _ _ _ _ _ _ _ _).2.2.2.2
        | ((with_reducible refine Pc_u3 ?_ (fun _ => ?_)); exact rfl)
        | with_reducible refine Pc_st (fun _ => ?_)
theorem f_302_0 (n dp : Nat) (e : EN) (I : (Nat → Nat → Int32)) (L : (Nat → Nat → Int64)) (i1 : Int32) (i4 : Int32) (i5 : Int32) (i6 : Int32) (j2 : Int64) : Pc (g_302 n dp e 0 I L i1 i4 i5 i6 j2) (F3 WI_302 WL_302 I L) := (fa_302 n dp e I L i1 i4 i5 i6 j2).1
theorem f_302_1 (n dp : Nat) (e : EN) (I : (Nat → Nat → Int32)) (L : (Nat → Nat → Int64)) (i1 : Int32) (i4 : Int32) (i5 : Int32) (i6 : Int32) (j2 : Int64) : Pc (g_302 n dp e 1 I L i1 i4 i5 i6 j2) (F3 WI_302 WL_302 I L) := (fa_302 n dp e I L i1 i4 i5 i6 j2).2.1
theorem f_302_2 (n dp : Nat) (e : EN) (I : (Nat → Nat → Int32)) (L : (Nat → Nat → Int64)) (i1 : Int32) (i4 : Int32) (i5 : Int32) (i6 : Int32) (j2 : Int64) : Pc (g_302 n dp e 2 I L i1 i4 i5 i6 j2) (F3 WI_302 WL_302 I L) := (fa_302 n dp e I L i1 i4 i5 i6 j2).2.2.1
theorem f_302_3 (n dp : Nat) (e : EN) (I : (Nat → Nat → Int32)) (L : (Nat → Nat → Int64)) (i1 : Int32) (i4 : Int32) (i5 : Int32) (i6 : Int32) (j2 : Int64) : Pc (g_302 n dp e 3 I L i1 i4 i5 i6 j2) (F3 WI_302 WL_302 I L) := (fa_302 n dp e I L i1 i4 i5 i6 j2).2.2.2.1
theorem f_302_4 (n dp : Nat) (e : EN) (I : (Nat → Nat → Int32)) (L : (Nat → Nat → Int64)) (i1 : Int32) (i4 : Int32) (i5 : Int32) (i6 : Int32) (j2 : Int64) : Pc (g_302 n dp e 4 I L i1 i4 i5 i6 j2) (F3 WI_302 WL_302 I L) := (fa_302 n dp e I L i1 i4 i5 i6 j2).2.2.2.2
def WI_303 : List (Nat × Nat) := [(105, 0)]
def WL_303 : List (Nat × Nat) := []
set_option maxHeartbeats 8000000 in
set_option maxRecDepth 100000 in
theorem fa_303 : ∀ (n dp : Nat) (e : EN) (I : (Nat → Nat → Int32)) (L : (Nat → Nat → Int64)) (i1 : Int32) (i2 : Int32), Pc (g_303 n dp e 0 I L i1 i2) (F3 WI_303 WL_303 I L) := by
  intro n
  induction n with
  | zero => intro dp e I L i1 i2; exact Pc_none
  | succ n ih =>
    intro dp e I L i1 i2
    · rw [e_303_0]
      repeat' first
        | with_reducible exact Pc_none
        | with_reducible exact Pc_s3
        | with_reducible refine Pc_ite ?_ ?_
        | ((with_reducible refine Pc_c33 (f_193_0 _ _ _ _ _ _ _ _) ?_ ?_ (fun _ _ _ => ?_)); exact (sbs_of rfl); exact sbs_of rfl; dsimp only)
        | ((with_reducible refine Pc_c33 (f_197_0 _ _ _ _ _ _) ?_ ?_ (fun _ _ _ => ?_)); exact (sbs_of rfl); exact sbs_of rfl; dsimp only)
        | ((with_reducible refine Pc_u3 ?_ (fun _ => ?_)); exact rfl)
        | with_reducible refine Pc_st (fun _ => ?_)
theorem f_303_0 (n dp : Nat) (e : EN) (I : (Nat → Nat → Int32)) (L : (Nat → Nat → Int64)) (i1 : Int32) (i2 : Int32) : Pc (g_303 n dp e 0 I L i1 i2) (F3 WI_303 WL_303 I L) := (fa_303 n dp e I L i1 i2)
def WI_304 : List (Nat × Nat) := [(105, 0)]
def WL_304 : List (Nat × Nat) := []
set_option maxHeartbeats 8000000 in
set_option maxRecDepth 100000 in
theorem fa_304 : ∀ (n dp : Nat) (e : EN) (I : (Nat → Nat → Int32)) (L : (Nat → Nat → Int64)) (i1 : Int32) (i2 : Int32) (i3 : Int32), Pc (g_304 n dp e 0 I L i1 i2 i3) (F3 WI_304 WL_304 I L) ∧
    Pc (g_304 n dp e 1 I L i1 i2 i3) (F3 WI_304 WL_304 I L) := by
  intro n
  induction n with
  | zero => intro dp e I L i1 i2 i3; exact ⟨Pc_none, Pc_none⟩
  | succ n ih =>
    intro dp e I L i1 i2 i3
    refine ⟨?_, ?_⟩
    · rw [e_304_0]
      repeat' first
        | with_reducible exact Pc_none
        | with_reducible exact Pc_s3
        | with_reducible exact (ih _ _ _ _ _ _ _).2
        | ((with_reducible refine Pc_u3 ?_ (fun _ => ?_)); exact rfl)
        | with_reducible refine Pc_st (fun _ => ?_)
    · rw [e_304_1]
      repeat' first
        | with_reducible exact Pc_none
        | with_reducible exact Pc_s3
        | with_reducible refine Pc_ite ?_ ?_
        | ((with_reducible refine Pc_c33 (f_198_0 _ _ _ _ _) ?_ ?_ (fun _ _ _ => ?_)); exact (sbs_of rfl); exact sbs_of rfl; dsimp only)
        | ((with_reducible refine Pc_c33 (f_204_0 _ _ _ _ _ _ _) ?_ ?_ (fun _ _ _ => ?_)); exact (sbs_of rfl); exact sbs_of rfl; dsimp only)
        | ((with_reducible refine Pc_c33 (f_292_0 _ _ _ _ _ _ _) ?_ ?_ (fun _ _ _ => ?_)); exact (sbs_of rfl); exact sbs_of rfl; dsimp only)
        | with_reducible exact (ih _ _ _ _ _ _ _).2
theorem f_304_0 (n dp : Nat) (e : EN) (I : (Nat → Nat → Int32)) (L : (Nat → Nat → Int64)) (i1 : Int32) (i2 : Int32) (i3 : Int32) : Pc (g_304 n dp e 0 I L i1 i2 i3) (F3 WI_304 WL_304 I L) := (fa_304 n dp e I L i1 i2 i3).1
theorem f_304_1 (n dp : Nat) (e : EN) (I : (Nat → Nat → Int32)) (L : (Nat → Nat → Int64)) (i1 : Int32) (i2 : Int32) (i3 : Int32) : Pc (g_304 n dp e 1 I L i1 i2 i3) (F3 WI_304 WL_304 I L) := (fa_304 n dp e I L i1 i2 i3).2
def WI_305 : List (Nat × Nat) := [(105, 0)]
def WL_305 : List (Nat × Nat) := []
set_option maxHeartbeats 8000000 in
set_option maxRecDepth 100000 in
theorem fa_305 : ∀ (n dp : Nat) (e : EN) (I : (Nat → Nat → Int32)) (L : (Nat → Nat → Int64)), Pc (g_305 n dp e 0 I L) (F3 WI_305 WL_305 I L) := by
  intro n
  induction n with
  | zero => intro dp e I L; exact Pc_none
  | succ n ih =>
    intro dp e I L
    · rw [e_305_0]
      repeat' first
        | with_reducible exact Pc_none
        | with_reducible exact Pc_s3
        | ((with_reducible refine Pc_u3 ?_ (fun _ => ?_)); exact rfl)
        | with_reducible refine Pc_st (fun _ => ?_)
theorem f_305_0 (n dp : Nat) (e : EN) (I : (Nat → Nat → Int32)) (L : (Nat → Nat → Int64)) : Pc (g_305 n dp e 0 I L) (F3 WI_305 WL_305 I L) := (fa_305 n dp e I L)
