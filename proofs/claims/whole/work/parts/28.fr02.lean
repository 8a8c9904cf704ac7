def WI_232 : List (Nat × Nat) := [(105, 0), (112, 0), (113, 0), (114, 0), (115, 0)]
def WL_232 : List (Nat × Nat) := [(105, 0)]
set_option maxHeartbeats 8000000 in
set_option maxRecDepth 100000 in
theorem fa_232 : ∀ (n dp : Nat) (e : EN) (I : (Nat → Nat → Int32)) (L : (Nat → Nat → Int64)) (i1 : Int32) (i2 : Int32) (i3 : Int32), Pc (g_232 n dp e 0 I L i1 i2 i3) (F3 WI_232 WL_232 I L) ∧
    Pc (g_232 n dp e 1 I L i1 i2 i3) (F3 WI_232 WL_232 I L) := by
  intro n
  induction n with
  | zero => intro dp e I L i1 i2 i3; exact ⟨Pc_none, Pc_none⟩
  | succ n ih =>
    intro dp e I L i1 i2 i3
    refine ⟨?_, ?_⟩
    · rw [e_232_0]
      repeat' first
        | with_reducible exact Pc_none
        | with_reducible exact Pc_s3
        | with_reducible refine Pc_ite ?_ ?_
        | ((with_reducible refine Pc_c33 (f_226_0 _ _ _ _ _ _) ?_ ?_ (fun _ _ _ => ?_)); exact (sbs_of rfl); exact sbs_of rfl; dsimp only)
        | ((with_reducible refine Pc_c33 (f_235_0 _ _ _ _ _ _ _) ?_ ?_ (fun _ _ _ => ?_)); exact (sbs_of rfl); exact sbs_of rfl; dsimp only)
        | ((with_reducible refine Pc_c23 (f_219_0 _ _ _ _ _ _) ?_ ?_ (fun _ _ => ?_)); exact (sbs_of rfl); exact sbs_of rfl; dsimp only)
        | ((with_reducible refine Pc_c23 (f_234_0 _ _ _ _ _ _) ?_ ?_ (fun _ _ => ?_)); exact (sbs_of rfl); exact sbs_of rfl; dsimp only)
        | with_reducible exact (ih _ _ _ _ _ _ _).2
        | ((with_reducible refine Pc_c33 (f_233_0 _ _ _ _ _ _) ?_ ?_ (fun _ _ _ => ?_)); exact (sbs_of rfl); exact sbs_of rfl; dsimp only)
        | ((with_reducible refine Pc_c23 (f_225_0 _ _ _ _ _ _ _) ?_ ?_ (fun _ _ => ?_)); exact (sbs_of rfl); exact sbs_of rfl; dsimp only)
        | ((with_reducible refine Pc_c23 (f_214_0 _ _ _ _ _) ?_ ?_ (fun _ _ => ?_)); exact (sbs_of rfl); exact sbs_of rfl; dsimp only)
        | ((with_reducible refine Pc_u3 ?_ (fun _ => ?_)); exact rfl)
        | with_reducible refine Pc_st (fun _ => ?_)
    · rw [e_232_1]
      repeat' first
        | with_reducible exact Pc_none
        | with_reducible exact Pc_s3
        | with_reducible refine Pc_ite ?_ ?_
        | ((with_reducible refine Pc_c33 (f_236_0 _ _ _ _ _ _) ?_ ?_ (fun _ _ _ => ?_)); exact (sbs_of rfl); exact sbs_of rfl; dsimp only)
        | ((with_reducible refine Pc_c33 (f_226_0 _ _ _ _ _ _) ?_ ?_ (fun _ _ _ => ?_)); exact (sbs_of rfl); exact sbs_of rfl; dsimp only)
        | ((with_reducible refine Pc_c23 (f_219_0 _ _ _ _ _ _) ?_ ?_ (fun _ _ => ?_)); exact (sbs_of rfl); exact sbs_of rfl; dsimp only)
        | ((with_reducible refine Pc_c23 (f_234_0 _ _ _ _ _ _) ?_ ?_ (fun _ _ => ?_)); exact (sbs_of rfl); exact sbs_of rfl; dsimp only)
        | ((with_reducible refine Pc_c23 (f_225_0 _ _ _ _ _ _ _) ?_ ?_ (fun _ _ => ?_)); exact (sbs_of rfl); exact sbs_of rfl; dsimp only)
theorem f_232_0 (n dp : Nat) (e : EN) (I : (Nat → Nat → Int32)) (L : (Nat → Nat → Int64)) (i1 : Int32) (i2 : Int32) (i3 : Int32) : Pc (g_232 n dp e 0 I L i1 i2 i3) (F3 WI_232 WL_232 I L) := (fa_232 n dp e I L i1 i2 i3).1
theorem f_232_1 (n dp : Nat) (e : EN) (I : (Nat → Nat → Int32)) (L : (Nat → Nat → Int64)) (i1 : Int32) (i2 : Int32) (i3 : Int32) : Pc (g_232 n dp e 1 I L i1 i2 i3) (F3 WI_232 WL_232 I L) := (fa_232 n dp e I L i1 i2 i3).2
def WI_237 : List (Nat × Nat) := [(105, 0), (112, 0), (113, 0), (114, 0), (115, 0)]
def WL_237 : List (Nat × Nat) := [(105, 0)]
set_option maxHeartbeats 8000000 in
set_option maxRecDepth 100000 in
theorem fa_237 : ∀ (n dp : Nat) (e : EN) (I : (Nat → Nat → Int32)) (L : (Nat → Nat → Int64)) (i1 : Int32), Pc (g_237 n dp e 0 I L i1) (F3 WI_237 WL_237 I L) ∧
    Pc (g_237 n dp e 1 I L i1) (F3 WI_237 WL_237 I L) := by
  intro n
  induction n with
  | zero => intro dp e I L i1; exact ⟨Pc_none, Pc_none⟩
  | succ n ih =>
    intro dp e I L i1
    refine ⟨?_, ?_⟩
    · rw [e_237_0]
      repeat' first
        | with_reducible exact Pc_none
        | with_reducible exact Pc_s3
        | with_reducible refine Pc_ite ?_ ?_
        | ((with_reducible refine Pc_c33 (f_218_0 _ _ _ _ _ _) ?_ ?_ (fun _ _ _ => ?_)); exact (sbs_of rfl); exact sbs_of rfl; dsimp only)
        | ((with_reducible refine Pc_c33 (f_235_0 _ _ _ _ _ _ _) ?_ ?_ (fun _ _ _ => ?_)); exact (sbs_of rfl); exact sbs_of rfl; dsimp only)
        | ((with_reducible refine Pc_c33 (f_226_0 _ _ _ _ _ _) ?_ ?_ (fun _ _ _ => ?_)); exact (sbs_of rfl); exact sbs_of rfl; dsimp only)
        | ((with_reducible refine Pc_c23 (f_219_0 _ _ _ _ _ _) ?_ ?_ (fun _ _ => ?_)); exact (sbs_of rfl); exact sbs_of rfl; dsimp only)
        | ((with_reducible refine Pc_c23 (f_234_0 _ _ _ _ _ _) ?_ ?_ (fun _ _ => ?_)); exact (sbs_of rfl); exact sbs_of rfl; dsimp only)
        | with_reducible exact (ih _ _ _ _ _).2
        | ((with_reducible refine Pc_u3 ?_ (fun _ => ?_)); exact rfl)
        | with_reducible refine Pc_st (fun _ => ?_)
    · rw [e_237_1]
      repeat' first
        | with_reducible exact Pc_none
        | with_reducible exact Pc_s3
        | with_reducible refine Pc_ite ?_ ?_
        | ((with_reducible refine Pc_c23 (f_234_0 _ _ _ _ _ _) ?_ ?_ (fun _ _ => ?_)); exact (sbs_of rfl); exact sbs_of rfl; dsimp only)
        | ((with_reducible refine Pc_c23 (f_225_0 _ _ _ _ _ _ _) ?_ ?_ (fun _ _ => ?_)); exact (sbs_of rfl); exact sbs_of rfl; dsimp only)
        | ((with_reducible refine Pc_c23 (f_231_0 _ _ _ _ _ _ _) ?_ ?_ (fun _ _ => ?_)); exact (sbs_of rfl); exact sbs_of rfl; dsimp only)
        | ((with_reducible refine Pc_c23 (f_214_0 _ _ _ _ _) ?_ ?_ (fun _ _ => ?_)); exact (sbs_of rfl); exact sbs_of rfl; dsimp only)
theorem f_237_0 (n dp : Nat) (e : EN) (I : (Nat → Nat → Int32)) (L : (Nat → Nat → Int64)) (i1 : Int32) : Pc (g_237 n dp e 0 I L i1) (F3 WI_237 WL_237 I L) := (fa_237 n dp e I L i1).1
theorem f_237_1 (n dp : Nat) (e : EN) (I : (Nat → Nat → Int32)) (L : (Nat → Nat → Int64)) (i1 : Int32) : Pc (g_237 n dp e 1 I L i1) (F3 WI_237 WL_237 I L) := (fa_237 n dp e I L i1).2
def WI_223 : List (Nat × Nat) := [(105, 0), (112, 0), (113, 0), (114, 0), (115, 0)]
def WL_223 : List (Nat × Nat) := [(105, 0)]
set_option maxHeartbeats 8000000 in
set_option maxRecDepth 100000 in
theorem fa_223 : ∀ (n dp : Nat) (e : EN) (I : (Nat → Nat → Int32)) (L : (Nat → Nat → Int64)) (i1 : Int32) (i2 : Int32), Pc (g_223 n dp e 0 I L i1 i2) (F2 WI_223 WL_223 I L) ∧
    Pc (g_223 n dp e 1 I L i1 i2) (F2 WI_223 WL_223 I L) := by
  intro n
  induction n with
  | zero => intro dp e I L i1 i2; exact ⟨Pc_none, Pc_none⟩
  | succ n ih =>
    intro dp e I L i1 i2
    refine ⟨?_, ?_⟩
    · rw [e_223_0]
      repeat' first
        | with_reducible exact Pc_none
        | with_reducible exact Pc_s2
        | with_reducible refine Pc_ite ?_ ?_
        | with_reducible exact (ih _ _ _ _ _ _).2
        | ((with_reducible refine Pc_u2 ?_ (fun _ => ?_)); exact rfl)
        | with_reducible refine Pc_st (fun _ => ?_)
    · rw [e_223_1]
      repeat' first
        | with_reducible exact Pc_none
        | with_reducible exact Pc_s2
        | with_reducible refine Pc_ite ?_ ?_
        | ((with_reducible refine Pc_c22 (f_234_0 _ _ _ _ _ _) ?_ ?_ (fun _ _ => ?_)); exact (sbs_of rfl); exact sbs_of rfl; dsimp only)
        | ((with_reducible refine Pc_c32 (f_224_0 _ _ _ _ _) ?_ ?_ (fun _ _ _ => ?_)); exact (sbs_of rfl); exact sbs_of rfl; dsimp only)
        | with_reducible exact (ih _ _ _ _ _ _).2
        | ((with_reducible refine Pc_c32 (f_228_0 _ _ _ _ _ _) ?_ ?_ (fun _ _ _ => ?_)); exact (sbs_of rfl); exact sbs_of rfl; dsimp only)
        | ((with_reducible refine Pc_c32 (f_232_0 _ _ _ _ _ _ _ _) ?_ ?_ (fun _ _ _ => ?_)); exact (sbs_of rfl); exact sbs_of rfl; dsimp only)
        | ((with_reducible refine Pc_c32 (f_237_0 _ _ _ _ _ _) ?_ ?_ (fun _ _ _ => ?_)); exact (sbs_of rfl); exact sbs_of rfl; dsimp only)
theorem f_223_0 (n dp : Nat) (e : EN) (I : (Nat → Nat → Int32)) (L : (Nat → Nat → Int64)) (i1 : Int32) (i2 : Int32) : Pc (g_223 n dp e 0 I L i1 i2) (F2 WI_223 WL_223 I L) := (fa_223 n dp e I L i1 i2).1
theorem f_223_1 (n dp : Nat) (e : EN) (I : (Nat → Nat → Int32)) (L : (Nat → Nat → Int64)) (i1 : Int32) (i2 : Int32) : Pc (g_223 n dp e 1 I L i1 i2) (F2 WI_223 WL_223 I L) := (fa_223 n dp e I L i1 i2).2
def WI_217 : List (Nat × Nat) := [(105, 0), (111, 0), (117, 0), (112, 0), (113, 0), (114, 0), (115, 0)]
def WL_217 : List (Nat × Nat) := [(105, 0)]
set_option maxHeartbeats 8000000 in
set_option maxRecDepth 100000 in
theorem fa_217 : ∀ (n dp : Nat) (e : EN) (I : (Nat → Nat → Int32)) (L : (Nat → Nat → Int64)) (i1 : Int32) (i2 : Int32) (i3 : Int32), Pc (g_217 n dp e 0 I L i1 i2 i3) (F2 WI_217 WL_217 I L) ∧
    Pc (g_217 n dp e 1 I L i1 i2 i3) (F2 WI_217 WL_217 I L) ∧
    Pc (g_217 n dp e 2 I L i1 i2 i3) (F2 WI_217 WL_217 I L) ∧
    Pc (g_217 n dp e 3 I L i1 i2 i3) (F2 WI_217 WL_217 I L) ∧
    Pc (g_217 n dp e 4 I L i1 i2 i3) (F2 WI_217 WL_217 I L) ∧
    Pc (g_217 n dp e 5 I L i1 i2 i3) (F2 WI_217 WL_217 I L) := by
  intro n
  induction n with
  | zero => intro dp e I L i1 i2 i3; exact ⟨Pc_none, Pc_none, Pc_none, Pc_none, Pc_none, Pc_none⟩
  | succ n ih =>
    intro dp e I L i1 i2 i3
    refine ⟨?_, ?_, ?_, ?_, ?_, ?_⟩
    · rw [e_217_0]
      repeat' first
        | with_reducible exact Pc_none
        | with_reducible exact Pc_s2
        | with_reducible refine Pc_ite ?_ ?_
        | ((with_reducible refine Pc_c32 (f_218_0 _ _ _ _ _ _) ?_ ?_ (fun _ _ _ => ?_)); exact (sbs_of rfl); exact sbs_of rfl; dsimp only)
        | with_reducible exact (ih _ _ _ _ _ _ _).2.1
        | with_reducible exact (ih _ _ _ _ _ _ _).2.2.1
    · rw [e_217_1]
      repeat' first
        | with_reducible exact Pc_none
        | with_reducible exact Pc_s2
        | with_reducible refine Pc_ite ?_ ?_
        | ((with_reducible refine Pc_c22 (f_219_0 _ _ _ _ _ _) ?_ ?_ (fun _ _ => ?_)); exact (sbs_of rfl); exact sbs_of rfl; dsimp only)
        | with_reducible exact (ih _ _ _ _ _ _ _).2.2.1
    · rw [e_217_2]
      repeat' first
        | with_reducible exact Pc_none
        | with_reducible exact Pc_s2
        | with_reducible refine Pc_ite ?_ ?_
        | ((with_reducible refine Pc_c22 (f_214_0 _ _ _ _ _) ?_ ?_ (fun _ _ => ?_)); exact (sbs_of rfl); exact sbs_of rfl; dsimp only)
        | with_reducible exact (ih _ _ _ _ _ _ _).2.2.2.1
        | with_reducible refine Pc_st (fun _ => ?_)
    · rw [e_217_3]
      repeat' first
        | with_reducible exact Pc_none
        | with_reducible exact Pc_s2
        | with_reducible refine Pc_ite ?_ ?_
        | ((with_reducible refine Pc_c22 (f_220_0 _ _ _ _ _ _ _) ?_ ?_ (fun _ _ => ?_)); exact (sbs_of rfl); exact sbs_of rfl; dsimp only)
        | with_reducible exact (ih _ _ _ _ _ _ _).2.2.2.2.1
        | ((with_reducible refine Pc_c22 (f_223_0 _ _ _ _ _ _ _) ?_ ?_ (fun _ _ => ?_)); exact (sbs_of rfl); exact sbs_of rfl; dsimp only)
        | with_reducible exact (ih _ _ _ _ _ _ _).2.2.2.1
        | ((with_reducible refine Pc_u2 ?_ (fun _ => ?_)); exact rfl)
        | with_reducible refine Pc_st (fun _ => ?_)
    · rw [e_217_4]
      repeat' first
        | with_reducible exact Pc_none
        | with_reducible exact Pc_s2
        | with_reducible refine Pc_ite ?_ ?_
        | ((with_reducible refine Pc_c32 (f_218_0 _ _ _ _ _ _) ?_ ?_ (fun _ _ _ => ?_)); exact (sbs_of rfl); exact sbs_of rfl; dsimp only)
        | with_reducible exact (ih _ _ _ _ _ _ _).2.2.2.2.2
        | ((with_reducible refine Pc_c22 (f_214_0 _ _ _ _ _) ?_ ?_ (fun _ _ => ?_)); exact (sbs_of rfl); exact sbs_of rfl; dsimp only)
        | ((with_reducible refine Pc_c22 (f_223_0 _ _ _ _ _ _ _) ?_ ?_ (fun _ _ => ?_)); exact (sbs_of rfl); exact sbs_of rfl; dsimp only)
        | ((with_reducible refine Pc_u2 ?_ (fun _ => ?_)); exact rfl)
        | with_reducible refine Pc_st (fun _ => ?_)
    · rw [e_217_5]
      repeat' first
        | with_reducible exact Pc_none
        | with_reducible exact Pc_s2
        | with_reducible refine Pc_ite ?_ ?_
        | ((with_reducible refine Pc_u2 ?_ (fun _ => ?_)); exact rfl)
        | with_reducible refine Pc_st (fun _ => ?_)
theorem f_217_0 (n dp : Nat) (e : EN) (I : (Nat → Nat → Int32)) (L : (Nat → Nat → Int64)) (i1 : Int32) (i2 : Int32) (i3 : Int32) : Pc (g_217 n dp e 0 I L i1 i2 i3) (F2 WI_217 WL_217 I L) := (fa_217 n dp e I L i1 i2 i3).1
theorem f_217_1 (n dp : Nat) (e : EN) (I : (Nat → Nat → Int32)) (L : (Nat → Nat → Int64)) (i1 : Int32) (i2 : Int32) (i3 : Int32) : Pc (g_217 n dp e 1 I L i1 i2 i3) (F2 WI_217 WL_217 I L) := (fa_217 n dp e I L i1 i2 i3).2.1
theorem f_217_2 (n dp : Nat) (e : EN) (I : (Nat → Nat → Int32)) (L : (Nat → Nat → Int64)) (i1 : Int32) (i2 : Int32) (i3 : Int32) : Pc (g_217 n dp e 2 I L i1 i2 i3) (F2 WI_217 WL_217 I L) := (fa_217 n dp e I L i1 i2 i3).2.2.1
theorem f_217_3 (n dp : Nat) (e : EN) (I : (Nat → Nat → Int32)) (L : (Nat → Nat → Int64)) (i1 : Int32) (i2 : Int32) (i3 : Int32) : Pc (g_217 n dp e 3 I L i1 i2 i3) (F2 WI_217 WL_217 I L) := (fa_217 n dp e I L i1 i2 i3).2.2.2.1
theorem f_217_4 (n dp : Nat) (e : EN) (I : (Nat → Nat → Int32)) (L : (Nat → Nat → Int64)) (i1 : Int32) (i2 : Int32) (i3 : Int32) : Pc (g_217 n dp e 4 I L i1 i2 i3) (F2 WI_217 WL_217 I L) := (fa_217 n dp e I L i1 i2 i3).2.2.2.2.1
theorem f_217_5 (n dp : Nat) (e : EN) (I : (Nat → Nat → Int32)) (L : (Nat → Nat → Int64)) (i1 : Int32) (i2 : Int32) (i3 : Int32) : Pc (g_217 n dp e 5 I L i1 i2 i3) (F2 WI_217 WL_217 I L) := (fa_217 n dp e I L i1 i2 i3).2.2.2.2.2
def WI_212 : List (Nat × Nat) := [(105, 0), (111, 0), (117, 0), (112, 0), (113, 0), (114, 0), (115, 0), (107, 0), (106, 0)]
def WL_212 : List (Nat × Nat) := [(105, 0)]
set_option maxHeartbeats 8000000 in
set_option maxRecDepth 100000 in
theorem fa_212 : ∀ (n dp : Nat) (e : EN) (I : (Nat → Nat → Int32)) (L : (Nat → Nat → Int64)) (i1 : Int32), Pc (g_212 n dp e 0 I L i1) (F3 WI_212 WL_212 I L) ∧
    Pc (g_212 n dp e 1 I L i1) (F3 WI_212 WL_212 I L) ∧
    Pc (g_212 n dp e 2 I L i1) (F3 WI_212 WL_212 I L) ∧
    Pc (g_212 n dp e 3 I L i1) (F3 WI_212 WL_212 I L) ∧
    Pc (g_212 n dp e 4 I L i1) (F3 WI_212 WL_212 I L) ∧
    Pc (g_212 n dp e 5 I L i1) (F3 WI_212 WL_212 I L) ∧
    Pc (g_212 n dp e 6 I L i1) (F3 WI_212 WL_212 I L) := by
  intro n
  induction n with
  | zero => intro dp e I L i1; exact ⟨Pc_none, Pc_none, Pc_none, Pc_none, Pc_none, Pc_none, Pc_none⟩
  | succ n ih =>
    intro dp e I L i1
    refine ⟨?_, ?_, ?_, ?_, ?_, ?_, ?_⟩
    · rw [e_212_0]
      repeat' first
        | with_reducible exact Pc_none
        | with_reducible exact Pc_s3
        | with_reducible refine Pc_ite ?_ ?_
        | ((with_reducible refine Pc_c23 (f_213_0 _ _ _ _ _) ?_ ?_ (fun _ _ => ?_)); exact (sbs_of rfl); exact sbs_of rfl; dsimp only)
        | ((with_reducible refine Pc_c23 (f_217_0 _ _ _ _ _ _ _ _) ?_ ?_ (fun _ _ => ?_)); exact (sbs_of rfl); exact sbs_of rfl; dsimp only)
        | with_reducible exact (ih _ _ _ _ _).2.1
        | ((with_reducible refine Pc_u3 ?_ (fun _ => ?_)); exact rfl)
        | with_reducible refine Pc_st (fun _ => ?_)
    · rw [e_212_1]
      repeat' first
        | with_reducible exact Pc_none
        | with_reducible exact Pc_s3
        | with_reducible refine Pc_ite ?_ ?_
        | ((with_reducible refine Pc_c33 (f_226_0 _ _ _ _ _ _) ?_ ?_ (fun _ _ _ => ?_)); exact (sbs_of rfl); exact sbs_of rfl; dsimp only)
        | with_reducible exact (ih _ _ _ _ _).2.2.1
        | ((with_reducible refine Pc_c23 (f_214_0 _ _ _ _ _) ?_ ?_ (fun _ _ => ?_)); exact (sbs_of rfl); exact sbs_of rfl; dsimp only)
        | ((with_reducible refine Pc_c23 (f_217_0 _ _ _ _ _ _ _ _) ?_ ?_ (fun _ _ => ?_)); exact (sbs_of rfl); exact sbs_of rfl; dsimp only)
        | with_reducible exact (ih _ _ _ _ _).2.1
    · rw [e_212_2]
      repeat' first
        | with_reducible exact Pc_none
        | with_reducible exact Pc_s3
        | with_reducible refine Pc_ite ?_ ?_
        | with_reducible exact (ih _ _ _ _ _).2.2.2.1
        | ((with_reducible refine Pc_c23 (f_219_0 _ _ _ _ _ _) ?_ ?_ (fun _ _ => ?_)); exact (sbs_of rfl); exact sbs_of rfl; dsimp only)
    · rw [e_212_3]
      repeat' first
        | with_reducible exact Pc_none
        | with_reducible exact Pc_s3
        | with_reducible refine Pc_ite ?_ ?_
        | with_reducible exact (ih _ _ _ _ _).2.2.2.2.1
        | ((with_reducible refine Pc_c33 (f_194_0 _ _ _ _ _ _) ?_ ?_ (fun _ _ _ => ?_)); exact (sbs_of rfl); exact sbs_of rfl; dsimp only)
        | ((with_reducible refine Pc_u3 ?_ (fun _ => ?_)); exact rfl)
        | with_reducible refine Pc_st (fun _ => ?_)
    · rw [e_212_4]
      repeat' first
        | with_reducible exact Pc_none
        | with_reducible exact Pc_s3
        | with_reducible refine Pc_ite ?_ ?_
        | with_reducible exact (ih _ _ _ _ _).2.2.2.2.2.1
        | with_reducible exact (ih _ _ _ _ _).2.2.2.2.1
        | ((with_reducible refine Pc_u3 ?_ (fun _ => ?_)); exact rfl)
        | with_reducible refine Pc_st (fun _ => ?_)
    · rw [e_212_5]
      repeat' first
        | with_reducible exact Pc_none
        | with_reducible exact Pc_s3
        | with_reducible refine Pc_ite ?_ ?_
        | with_reducible exact (ih _ _ _ _ _).2.2.2.2.2.2
        | with_reducible exact (ih _ _ _ _ _).2.2.2.2.2.1
        | ((with_reducible refine Pc_u3 ?_ (fun _ => ?_)); exact rfl)
        | with_reducible refine Pc_st (fun _ => ?_)
    · rw [e_212_6]
      repeat' first
        | with_reducible exact Pc_none
        | with_reducible exact Pc_s3
        | with_reducible refine Pc_ite ?_ ?_
        | ((with_reducible refine Pc_c33 (f_194_0 _ _ _ _ _ _) ?_ ?_ (fun _ _ _ => ?_)); exact (sbs_of rfl); exact sbs_of rfl; dsimp only)
        | with_reducible exact (ih _ _ _ _ _).2.2.2.2.2.2
        | ((with_reducible refine Pc_u3 ?_ (fun _ => ?_)); exact rfl)
        | with_reducible refine Pc_st (fun _ => ?_)
theorem f_212_0 (n dp : Nat) (e : EN) (I : (Nat → Nat → Int32)) (L : (Nat → Nat → Int64)) (i1 : Int32) : Pc (g_212 n dp e 0 I L i1) (F3 WI_212 WL_212 I L) := (fa_212 n dp e I L i1).1
theorem f_212_1 (n dp : Nat) (e : EN) (I : (Nat → Nat → Int32)) (L : (Nat → Nat → Int64)) (i1 : Int32) : Pc (g_212 n dp e 1 I L i1) (F3 WI_212 WL_212 I L) := (fa_212 n dp e I L i1).2.1
theorem f_212_2 (n dp : Nat) (e : EN) (I : (Nat → Nat → Int32)) (L : (Nat → Nat → Int64)) (i1 : Int32) : Pc (g_212 n dp e 2 I L i1) (F3 WI_212 WL_212 I L) := (fa_212 n dp e I L i1).2.2.1
theorem f_212_3 (n dp : Nat) (e : EN) (I : (Nat → Nat → Int32)) (L : (Nat → Nat → Int64)) (i1 : Int32) : Pc (g_212 n dp e 3 I L i1) (F3 WI_212 WL_212 I L) := (fa_212 n dp e I L i1).2.2.2.1
theorem f_212_4 (n dp : Nat) (e : EN) (I : (Nat → Nat → Int32)) (L : (Nat → Nat → Int64)) (i1 : Int32) : Pc (g_212 n dp e 4 I L i1) (F3 WI_212 WL_212 I L) := (fa_212 n dp e I L i1).2.2.2.2.1
theorem f_212_5 (n dp : Nat) (e : EN) (I : (Nat → Nat → Int32)) (L : (Nat → Nat → Int64)) (i1 : Int32) : Pc (g_212 n dp e 5 I L i1) (F3 WI_212 WL_212 I L) := (fa_212 n dp e I L i1).2.2.2.2.2.1
theorem f_212_6 (n dp : Nat) (e : EN) (I : (Nat → Nat → Int32)) (L : (Nat → Nat → Int64)) (i1 : Int32) : Pc (g_212 n dp e 6 I L i1) (F3 WI_212 WL_212 I L) := (fa_212 n dp e I L i1).2.2.2.2.2.2
def WI_239 : List (Nat × Nat) := []
def WL_239 : List (Nat × Nat) := []
set_option maxHeartbeats 8000000 in
set_option maxRecDepth 100000 in
theorem fa_239 : ∀ (n dp : Nat) (e : EN) (I : (Nat → Nat → Int32)) (L : (Nat → Nat → Int64)) (i1 : Int32), Pc (g_239 n dp e 0 I L i1) (F3 WI_239 WL_239 I L) := by
  intro n
  induction n with
  | zero => intro dp e I L i1; exact Pc_none
  | succ n ih =>
    intro dp e I L i1
    · rw [e_239_0]
      repeat' first
        | with_reducible exact Pc_none
        | with_reducible exact Pc_s3
        | with_reducible refine Pc_ite ?_ ?_
        | ((with_reducible refine Pc_c33 (f_193_0 _ _ _ _ _ _ _ _) ?_ ?_ (fun _ _ _ => ?_)); exact (sbs_of rfl); exact sbs_of rfl; dsimp only)
theorem f_239_0 (n dp : Nat) (e : EN) (I : (Nat → Nat → Int32)) (L : (Nat → Nat → Int64)) (i1 : Int32) : Pc (g_239 n dp e 0 I L i1) (F3 WI_239 WL_239 I L) := (fa_239 n dp e I L i1)
def WI_240 : List (Nat × Nat) := []
def WL_240 : List (Nat × Nat) := []
set_option maxHeartbeats 8000000 in
set_option maxRecDepth 100000 in
theorem fa_240 : ∀ (n dp : Nat) (e : EN) (I : (Nat → Nat → Int32)) (L : (Nat → Nat → Int64)) (i1 : Int32), Pc (g_240 n dp e 0 I L i1) (F3 WI_240 WL_240 I L) := by
  intro n
  induction n with
  | zero => intro dp e I L i1; exact Pc_none
  | succ n ih =>
    intro dp e I L i1
    · rw [e_240_0]
      repeat' first
        | with_reducible exact Pc_none
        | with_reducible exact Pc_s3
        | with_reducible refine Pc_ite ?_ ?_
theorem f_240_0 (n dp : Nat) (e : EN) (I : (Nat → Nat → Int32)) (L : (Nat → Nat → Int64)) (i1 : Int32) : Pc (g_240 n dp e 0 I L i1) (F3 WI_240 WL_240 I L) := (fa_240 n dp e I L i1)
def WI_241 : List (Nat × Nat) := []
def WL_241 : List (Nat × Nat) := []
set_option maxHeartbeats 8000000 in
set_option maxRecDepth 100000 in
theorem fa_241 : ∀ (n dp : Nat) (e : EN) (I : (Nat → Nat → Int32)) (L : (Nat → Nat → Int64)) (i1 : Int32) (i2 : Int32), Pc (g_241 n dp e 0 I L i1 i2) (F3 WI_241 WL_241 I L) := by
  intro n
  induction n with
  | zero => intro dp e I L i1 i2; exact Pc_none
  | succ n ih =>
    intro dp e I L i1 i2
    · rw [e_241_0]
      repeat' first
        | with_reducible exact Pc_none
        | with_reducible exact Pc_s3
        | with_reducible refine Pc_ite ?_ ?_
theorem f_241_0 (n dp : Nat) (e : EN) (I : (Nat → Nat → Int32)) (L : (Nat → Nat → Int64)) (i1 : Int32) (i2 : Int32) : Pc (g_241 n dp e 0 I L i1 i2) (F3 WI_241 WL_241 I L) := (fa_241 n dp e I L i1 i2)
def WI_238 : List (Nat × Nat) := [(105, 0)]
def WL_238 : List (Nat × Nat) := []
set_option maxHeartbeats 8000000 in
set_option maxRecDepth 100000 in
theorem fa_238 : ∀ (n dp : Nat) (e : EN) (I : (Nat → Nat → Int32)) (L : (Nat → Nat → Int64)) (i1 : Int32) (i2 : Int32), Pc (g_238 n dp e 0 I L i1 i2) (F3 WI_238 WL_238 I L) ∧
    Pc (g_238 n dp e 1 I L i1 i2) (F3 WI_238 WL_238 I L) := by
  intro n
  induction n with
  | zero => intro dp e I L i1 i2; exact ⟨Pc_none, Pc_none⟩
  | succ n ih =>
    intro dp e I L i1 i2
    refine ⟨?_, ?_⟩
    · rw [e_238_0]
      repeat' first
        | with_reducible exact Pc_none
        | with_reducible exact Pc_s3
        | with_reducible refine Pc_ite ?_ ?_
        | ((with_reducible refine Pc_c33 (f_239_0 _ _ _ _ _ _) ?_ ?_ (fun _ _ _ => ?_)); exact (sbs_of rfl); exact sbs_of rfl; dsimp only)
        | with_reducible exact (ih _ _ _ _ _ _).2
        | ((with_reducible refine Pc_c33 (f_193_0 _ _ _ _ _ _ _ _) ?_ ?_ (fun _ _ _ => ?_)); exact (sbs_of rfl); exact sbs_of rfl; dsimp only)
        | ((with_reducible refine Pc_u3 ?_ (fun _ => ?_)); exact rfl)
        | with_reducible refine Pc_st (fun _ => ?_)
    · rw [e_238_1]
      repeat' first
        | with_reducible exact Pc_none
        | with_reducible exact Pc_s3
        | with_reducible refine Pc_ite ?_ ?_
        | ((with_reducible refine Pc_c33 (f_240_0 _ _ _ _ _ _) ?_ ?_ (fun _ _ _ => ?_)); exact (sbs_of rfl); exact sbs_of rfl; dsimp only)
        | ((with_reducible refine Pc_c33 (f_241_0 _ _ _ _ _ _ _) ?_ ?_ (fun _ _ _ => ?_)); exact (sbs_of rfl); exact sbs_of rfl; dsimp only)
theorem f_238_0 (n dp : Nat) (e : EN) (I : (Nat → Nat → Int32)) (L : (Nat → Nat → Int64)) (i1 : Int32) (i2 : Int32) : Pc (g_238 n dp e 0 I L i1 i2) (F3 WI_238 WL_238 I L) := (fa_238 n dp e I L i1 i2).1
theorem f_238_1 (n dp : Nat) (e : EN) (I : (Nat → Nat → Int32)) (L : (Nat → Nat → Int64)) (i1 : Int32) (i2 : Int32) : Pc (g_238 n dp e 1 I L i1 i2) (F3 WI_238 WL_238 I L) := (fa_238 n dp e I L i1 i2).2
def WI_244 : List (Nat × Nat) := []
def WL_244 : List (Nat × Nat) := []
set_option maxHeartbeats 8000000 in
set_option maxRecDepth 100000 in
theorem fa_244 : ∀ (n dp : Nat) (e : EN) (I : (Nat → Nat → Int32)) (L : (Nat → Nat → Int64)) (i1 : Int32) (i2 : Int32), Pc (g_244 n dp e 0 I L i1 i2) (F3 WI_244 WL_244 I L) := by
  intro n
  induction n with
  | zero => intro dp e I L i1 i2; exact Pc_none
  | succ n ih =>
    intro dp e I L i1 i2
    · rw [e_244_0]
      repeat' first
        | with_reducible exact Pc_none
        | with_reducible exact Pc_s3
        | with_reducible refine Pc_ite ?_ ?_
theorem f_244_0 (n dp : Nat) (e : EN) (I : (Nat → Nat → Int32)) (L : (Nat → Nat → Int64)) (i1 : Int32) (i2 : Int32) : Pc (g_244 n dp e 0 I L i1 i2) (F3 WI_244 WL_244 I L) := (fa_244 n dp e I L i1 i2)
def WI_243 : List (Nat × Nat) := []
def WL_243 : List (Nat × Nat) := []
set_option maxHeartbeats 8000000 in
set_option maxRecDepth 100000 in
theorem fa_243 : ∀ (n dp : Nat) (e : EN) (I : (Nat → Nat → Int32)) (L : (Nat → Nat → Int64)) (i1 : Int32) (i2 : Int32) (i3 : Int32) (i4 : Int32), Pc (g_243 n dp e 0 I L i1 i2 i3 i4) (F3 WI_243 WL_243 I L) ∧
    Pc (g_243 n dp e 1 I L i1 i2 i3 i4) (F3 WI_243 WL_243 I L) := by
  intro n
  induction n with
  | zero => intro dp e I L i1 i2 i3 i4; exact ⟨Pc_none, Pc_none⟩
  | succ n ih =>
    intro dp e I L i1 i2 i3 i4
    refine ⟨?_, ?_⟩
    · rw [e_243_0]
      repeat' first
        | with_reducible exact Pc_none
        | with_reducible exact Pc_s3
        | with_reducible refine Pc_ite ?_ ?_
        | ((with_reducible refine Pc_c33 (f_240_0 _ _ _ _ _ _) ?_ ?_ (fun _ _ _ => ?_)); exact (sbs_of rfl); exact sbs_of rfl; dsimp only)
        | ((with_reducible refine Pc_c33 (f_244_0 _ _ _ _ _ _ _) ?_ ?_ (fun _ _ _ => ?_)); exact (sbs_of rfl); exact sbs_of rfl; dsimp only)
        | with_reducible exact (ih _ _ _ _ _ _ _ _).2
    · rw [e_243_1]
      repeat' first
        | with_reducible exact Pc_none
        | with_reducible exact Pc_s3
        | with_reducible refine Pc_ite ?_ ?_
        | ((with_reducible refine Pc_c33 (f_241_0 _ _ _ _ _ _ _) ?_ ?_ (fun _ _ _ => ?_)); exact (sbs_of rfl); exact sbs_of rfl; dsimp only)
        | ((with_reducible refine Pc_c33 (f_244_0 _ _ _ _ _ _ _) ?_ ?_ (fun _ _ _ => ?_)); exact (sbs_of rfl); exact sbs_of rfl; dsimp only)
        | with_reducible exact (ih _ _ _ _ _ _ _ _).2
theorem f_243_0 (n dp : Nat) (e : EN) (I : (Nat → Nat → Int32)) (L : (Nat → Nat → Int64)) (i1 : Int32) (i2 : Int32) (i3 : Int32) (i4 : Int32) : Pc (g_243 n dp e 0 I L i1 i2 i3 i4) (F3 WI_243 WL_243 I L) := (fa_243 n dp e I L i1 i2 i3 i4).1
theorem f_243_1 (n dp : Nat) (e : EN) (I : (Nat → Nat → Int32)) (L : (Nat → Nat → Int64)) (i1 : Int32) (i2 : Int32) (i3 : Int32) (i4 : Int32) : Pc (g_243 n dp e 1 I L i1 i2 i3 i4) (F3 WI_243 WL_243 I L) := (fa_243 n dp e I L i1 i2 i3 i4).2
def WI_249 : List (Nat × Nat) := [(105, 0)]
def WL_249 : List (Nat × Nat) := []
set_option maxHeartbeats 8000000 in
set_option maxRecDepth 100000 in
theorem fa_249 : ∀ (n dp : Nat) (e : EN) (I : (Nat → Nat → Int32)) (L : (Nat → Nat → Int64)) (i1 : Int32) (j2 : Int64) (j4 : Int64), Pc (g_249 n dp e 0 I L i1 j2 j4) (F3 WI_249 WL_249 I L) := by
  intro n
  induction n with
  | zero => intro dp e I L i1 j2 j4; exact Pc_none
  | succ n ih =>
    intro dp e I L i1 j2 j4
    · rw [e_249_0]
      repeat' first
        | with_reducible exact Pc_none
        | with_reducible exact Pc_s3
        | with_reducible refine Pc_ite ?_ ?_
        | ((with_reducible refine Pc_u3 ?_ (fun _ => ?_)); exact rfl)
        | with_reducible refine Pc_st (fun _ => ?_)
theorem f_249_0 (n dp : Nat) (e : EN) (I : (Nat → Nat → Int32)) (L : (Nat → Nat → Int64)) (i1 : Int32) (j2 : Int64) (j4 : Int64) : Pc (g_249 n dp e 0 I L i1 j2 j4) (F3 WI_249 WL_249 I L) := (fa_249 n dp e I L i1 j2 j4)
def WI_248 : List (Nat × Nat) := [(105, 0)]
def WL_248 : List (Nat × Nat) := [(119, 0), (105, 0)]
set_option maxHeartbeats 8000000 in
set_option maxRecDepth 100000 in
theorem fa_248 : ∀ (n dp : Nat) (e : EN) (I : (Nat → Nat → Int32)) (L : (Nat → Nat → Int64)) (i1 : Int32) (i2 : Int32) (i3 : Int32) (i4 : Int32) (i5 : Int32) (i6 : Int32), Pc (g_248 n dp e 0 I L i1 i2 i3 i4 i5 i6) (F2 WI_248 WL_248 I L) ∧
    Pc (g_248 n dp e 1 I L i1 i2 i3 i4 i5 i6) (F2 WI_248 WL_248 I L) ∧
    Pc (g_248 n dp e 2 I L i1 i2 i3 i4 i5 i6) (F2 WI_248 WL_248 I L) ∧
    Pc (g_248 n dp e 3 I L i1 i2 i3 i4 i5 i6) (F2 WI_248 WL_248 I L) := by
  intro n
  induction n with
  | zero => intro dp e I L i1 i2 i3 i4 i5 i6; exact ⟨Pc_none, Pc_none, Pc_none, Pc_none⟩
  | succ n ih =>
    intro dp e I L i1 i2 i3 i4 i5 i6
    refine ⟨?_, ?_, ?_, ?_⟩
    · rw [e_248_0]
      repeat' first
        | with_reducible exact Pc_none
        | with_reducible exact Pc_s2
        | with_reducible exact (ih _ _ _ _ _ _ _ _ _ _).2.1
        | ((with_reducible refine Pc_u2 ?_ (fun _ => ?_)); exact rfl)
        | with_reducible refine Pc_st (fun _ => ?_)
    · rw [e_248_1]
      repeat' first
        | with_reducible exact Pc_none
        | with_reducible exact Pc_s2
        | with_reducible refine Pc_ite ?_ ?_
        | with_reducible exact (ih _ _ _ _ _ _ _ _ _ _).2.2.2
        | with_reducible exact (ih _ _ _ _ _ _ _ _ _ _).2.2.1
        | ((with_reducible refine Pc_c32 (f_249_0 _ _ _ _ _ _ _ _) ?_ ?_ (fun _ _ _ => ?_)); exact (sbs_of rfl); exact sbs_of rfl; dsimp only)
        | ((with_reducible refine Pc_c32 (f_193_0 _ _ _ _ _ _ _ _) ?_ ?_ (fun _ _ _ => ?_)); exact (sbs_of rfl); exact sbs_of rfl; dsimp only)
        | ((with_reducible refine Pc_u2 ?_ (fun _ => ?_)); exact rfl)
        | ((with_reducible refine Pc_l2 ?_ (fun _ => ?_)); exact rfl)
        | with_reducible refine Pc_st (fun _ => ?_)
    · rw [e_248_2]
      repeat' first
        | with_reducible exact Pc_none
        | with_reducible exact Pc_s2
        | with_reducible exact (ih _ _ _ _ _ _ _ _ _ _).2.1
    · rw [e_248_3]
      repeat' first
        | with_reducible exact Pc_none
        | with_reducible exact Pc_s2
        | with_reducible refine Pc_ite ?_ ?_
        | ((with_reducible refine Pc_l2 ?_ (fun _ => ?_)); exact rfl)
        | with_reducible refine Pc_st (fun _ => ?_)
theorem f_248_0 (n dp : Nat) (e : EN) (I : (Nat → Nat → Int32)) (L : (Nat → Nat → Int64)) (i1 : Int32) (i2 : Int32) (i3 : Int32) (i4 : Int32) (i5 : Int32) (i6 : Int32) : Pc (g_248 n dp e 0 I L i1 i2 i3 i4 i5 i6) (F2 WI_248 WL_248 I L) := (fa_248 n dp e I L i1 i2 i3 i4 i5 i6).1
theorem f_248_1 (n dp : Nat) (e : EN) (I : (Nat → Nat → Int32)) (L : (Nat → Nat → Int64)) (i1 : Int32) (i2 : Int32) (i3 : Int32) (i4 : Int32) (i5 : Int32) (i6 : Int32) : Pc (g_248 n dp e 1 I L i1 i2 i3 i4 i5 i6) (F2 WI_248 WL_248 I L) := (fa_248 n dp e I L i1 i2 i3 i4 i5 i6).2.1
theorem f_248_2 (n dp : Nat) (e : EN) (I : (Nat → Nat → Int32)) (L : (Nat → Nat → Int64)) (i1 : Int32) (i2 : Int32) (i3 : Int32) (i4 : Int32) (i5 : Int32) (i6 : Int32) : Pc (g_248 n dp e 2 I L i1 i2 i3 i4 i5 i6) (F2 WI_248 WL_248 I L) := (fa_248 n dp e I L i1 i2 i3 i4 i5 i6).2.2.1
theorem f_248_3 (n dp : Nat) (e : EN) (I : (Nat → Nat → Int32)) (L : (Nat → Nat → Int64)) (i1 : Int32) (i2 : Int32) (i3 : Int32) (i4 : Int32) (i5 : Int32) (i6 : Int32) : Pc (g_248 n dp e 3 I L i1 i2 i3 i4 i5 i6) (F2 WI_248 WL_248 I L) := (fa_248 n dp e I L i1 i2 i3 i4 i5 i6).2.2.2
def WI_247 : List (Nat × Nat) := [(105, 0)]
def WL_247 : List (Nat × Nat) := [(119, 0), (105, 0)]
set_option maxHeartbeats 8000000 in
set_option maxRecDepth 100000 in
theorem fa_247 : ∀ (n dp : Nat) (e : EN) (I : (Nat → Nat → Int32)) (L : (Nat → Nat → Int64)) (i1 : Int32), Pc (g_247 n dp e 0 I L i1) (F3 WI_247 WL_247 I L) ∧
    Pc (g_247 n dp e 1 I L i1) (F3 WI_247 WL_247 I L) := by
  intro n
  induction n with
  | zero => intro dp e I L i1; exact ⟨Pc_none, Pc_none⟩
  | succ n ih =>
    intro dp e I L i1
    refine ⟨?_, ?_⟩
    · rw [e_247_0]
      repeat' first
        | with_reducible exact Pc_none
        | with_reducible exact Pc_s3
        | with_reducible refine Pc_ite ?_ ?_
        | with_reducible exact (ih _ _ _ _ _).2
        | ((with_reducible refine Pc_c23 (f_248_0 _ _ _ _ _ _ _ _ _ _ _) ?_ ?_ (fun _ _ => ?_)); exact (sbs_of rfl); exact sbs_of rfl; dsimp only)
    · rw [e_247_1]
      repeat' first
        | with_reducible exact Pc_none
        | with_reducible exact Pc_s3
        | with_reducible refine Pc_ite ?_ ?_
        | ((with_reducible refine Pc_c23 (f_248_0 _ _ _ _ _ _ _ _ _ _ _) ?_ ?_ (fun _ _ => ?_)); exact (sbs_of rfl); exact sbs_of rfl; dsimp only)
        | ((with_reducible refine Pc_l3 ?_ (fun _ => ?_)); exact rfl)
        | with_reducible refine Pc_st (fun _ => ?_)
theorem f_247_0 (n dp : Nat) (e : EN) (I : (Nat → Nat → Int32)) (L : (Nat → Nat → Int64)) (i1 : Int32) : Pc (g_247 n dp e 0 I L i1) (F3 WI_247 WL_247 I L) := (fa_247 n dp e I L i1).1
theorem f_247_1 (n dp : Nat) (e : EN) (I : (Nat → Nat → Int32)) (L : (Nat → Nat → Int64)) (i1 : Int32) : Pc (g_247 n dp e 1 I L i1) (F3 WI_247 WL_247 I L) := (fa_247 n dp e I L i1).2
def WI_246 : List (Nat × Nat) := [(105, 0)]
def WL_246 : List (Nat × Nat) := [(118, 0), (119, 0), (105, 0)]
set_option maxHeartbeats 8000000 in
set_option maxRecDepth 100000 in
theorem fa_246 : ∀ (n dp : Nat) (e : EN) (I : (Nat → Nat → Int32)) (L : (Nat → Nat → Int64)) (i1 : Int32) (i2 : Int32) (i3 : Int32) (i4 : Int32) (i5 : Int32) (i8 : Int32) (i9 : Int32) (i10 : Int32) (j6 : Int64), Pc (g_246 n dp e 0 I L i1 i2 i3 i4 i5 i8 i9 i10 j6) (F3 WI_246 WL_246 I L) ∧
    Pc (g_246 n dp e 1 I L i1 i2 i3 i4 i5 i8 i9 i10 j6) (F3 WI_246 WL_246 I L) ∧
    Pc (g_246 n dp e 2 I L i1 i2 i3 i4 i5 i8 i9 i10 j6) (F3 WI_246 WL_246 I L) ∧
    Pc (g_246 n dp e 3 I L i1 i2 i3 i4 i5 i8 i9 i10 j6) (F3 WI_246 WL_246 I L) ∧
    Pc (g_246 n dp e 4 I L i1 i2 i3 i4 i5 i8 i9 i10 j6) (F3 WI_246 WL_246 I L) := by
  intro n
  induction n with
  | zero => intro dp e I L i1 i2 i3 i4 i5 i8 i9 i10 j6; exact ⟨Pc_none, Pc_none, Pc_none, Pc_none, Pc_none⟩
  | succ n ih =>
    intro dp e I L i1 i2 i3 i4 i5 i8 i9 i10 j6
    refine ⟨?_, ?_, ?_, ?_, ?_⟩
    · rw [e_246_0]
      repeat' first
        | with_reducible exact Pc_none
        | with_reducible exact Pc_s3
        | with_reducible refine Pc_ite ?_ ?_
        | ((with_reducible refine Pc_c33 (f_240_0 _ _ _ _ _ _) ?_ ?_ (fun _ _ _ => ?_)); exact (sbs_of rfl); exact sbs_of rfl; dsimp only)
        | ((with_reducible refine Pc_c33 (f_244_0 _ _ _ _ _ _ _) ?_ ?_ (fun _ _ _ => ?_)); exact (sbs_of rfl); exact sbs_of rfl; dsimp only)
        | with_reducible exact (ih _ _ _ _ _ _ _ _ _ _ _ _ _).2.1
        | ((with_reducible refine Pc_l3 ?_ (fun _ => ?_)); exact rfl)
        | with_reducible refine Pc_st (fun _ => ?_)
    · rw [e_246_1]
      repeat' first
        | with_reducible exact Pc_none
        | with_reducible exact Pc_s3
        | with_reducible refine Pc_ite ?_ ?_
        | with_reducible exact (ih _ _ _ _ _ _ _ _ _ _ _ _ _).2.2.1
        | with_reducible exact (ih _ _ _ _ _ _ _ _ _ _ _ _ _).2.2.2.1
        | with_reducible refine Pc_st (fun _ => ?_)
    · rw [e_246_2]
      repeat' first
        | with_reducible exact Pc_none
        | with_reducible exact Pc_s3
        | with_reducible refine Pc_ite ?_ ?_
        | with_reducible exact (ih _ _ _ _ _ _ _ _ _ _ _ _ _).2.2.2.2
        | ((with_reducible refine Pc_c33 (f_247_0 _ _ _ _ _ _) ?_ ?_ (fun _ _ _ => ?_)); exact (sbs_of rfl); exact sbs_of rfl; dsimp only)
    · rw [e_246_3]
      repeat' first
        | with_reducible exact Pc_none
        | with_reducible exact Pc_s3
        | with_reducible refine Pc_ite ?_ ?_
        | with_reducible exact (ih _ _ _ _ _ _ _ _ _ _ _ _ _).2.2.2.2
        | ((with_reducible refine Pc_c33 (f_247_0 _ _ _ _ _ _) ?_ ?_ (fun _ _ _ => ?_)); exact (sbs_of rfl); exact sbs_of rfl; dsimp only)
    · rw [e_246_4]
      repeat' first
        | with_reducible exact Pc_none
        | with_reducible exact Pc_s3
        | with_reducible exact (ih _ _ _ _ _ _ _ _ _ _ _ _ _).2.1
theorem f_246_0 (n dp : Nat) (e : EN) (I : (Nat → Nat → Int32)) (L : (Nat → Nat → Int64)) (i1 : Int32) (i2 : Int32) (i3 : Int32) (i4 : Int32) (i5 : Int32) (i8 : Int32) (i9 : Int32) (i10 : Int32) (j6 : Int64) : Pc (g_246 n dp e 0 I L i1 i2 i3 i4 i5 i8 i9 i10 j6) (F3 WI_246 WL_246 I L) := (fa_246 n dp e I L i1 i2 i3 i4 i5 i8 i9 i10 j6).1
theorem f_246_1 (n dp : Nat) (e : EN) (I : (Nat → Nat → Int32)) (L : (Nat → Nat → Int64)) (i1 : Int32) (i2 : Int32) (i3 : Int32) (i4 : Int32) (i5 : Int32) (i8 : Int32) (i9 : Int32) (i10 : Int32) (j6 : Int64) : Pc (g_246 n dp e 1 I L i1 i2 i3 i4 i5 i8 i9 i10 j6) (F3 WI_246 WL_246 I L) := (fa_246 n dp e I L i1 i2 i3 i4 i5 i8 i9 i10 j6).2.1
theorem f_246_2 (n dp : Nat) (e : EN) (I : (Nat → Nat → Int32)) (L : (Nat → Nat → Int64)) (i1 : Int32) (i2 : Int32) (i3 : Int32) (i4 : Int32) (i5 : Int32) (i8 : Int32) (i9 : Int32) (i10 : Int32) (j6 : Int64) : Pc (g_246 n dp e 2 I L i1 i2 i3 i4 i5 i8 i9 i10 j6) (F3 WI_246 WL_246 I L) := (fa_246 n dp e I L i1 i2 i3 i4 i5 i8 i9 i10 j6).2.2.1
theorem f_246_3 (n dp : Nat) (e : EN) (I : (Nat → Nat → Int32)) (L : (Nat → Nat → Int64)) (i1 : Int32) (i2 : Int32) (i3 : Int32) (i4 : Int32) (i5 : Int32) (i8 : Int32) (i9 : Int32) (i10 : Int32) (j6 : Int64) : Pc (g_246 n dp e 3 I L i1 i2 i3 i4 i5 i8 i9 i10 j6) (F3 WI_246 WL_246 I L) := (fa_246 n dp e I L i1 i2 i3 i4 i5 i8 i9 i10 j6).2.2.2.1
theorem f_246_4 (n dp : Nat) (e : EN) (I : (Nat → Nat → Int32)) (L : (Nat → Nat → Int64)) (i1 : Int32) (i2 : Int32) (i3 : Int32) (i4 : Int32) (i5 : Int32) (i8 : Int32) (i9 : Int32) (i10 : Int32) (j6 : Int64) : Pc (g_246 n dp e 4 I L i1 i2 i3 i4 i5 i8 i9 i10 j6) (F3 WI_246 WL_246 I L) := (fa_246 n dp e I L i1 i2 i3 i4 i5 i8 i9 i10 j6).2.2.2.2
def WI_245 : List (Nat × Nat) := [(105, 0)]
def WL_245 : List (Nat × Nat) := [(118, 0), (119, 0), (105, 0)]
set_option maxHeartbeats 8000000 in
set_option maxRecDepth 100000 in
theorem fa_245 : ∀ (n dp : Nat) (e : EN) (I : (Nat → Nat → Int32)) (L : (Nat → Nat → Int64)) (i1 : Int32) (i2 : Int32), Pc (g_245 n dp e 0 I L i1 i2) (F3 WI_245 WL_245 I L) := by
  intro n
  induction n with
  | zero => intro dp e I L i1 i2; exact Pc_none
  | succ n ih =>
    intro dp e I L i1 i2
    · rw [e_245_0]
      repeat' first
        | with_reducible exact Pc_none
        | with_reducible exact Pc_s3
        | with_reducible refine Pc_ite ?_ ?_
        | ((with_reducible refine Pc_c33 (f_246_0 _ _ _ _ _ _ _ _ _ _ _ _ _ _) ?_ ?_ (fun _ _ _ => ?_)); exact (sbs_of rfl); exact sbs_of rfl; dsimp only)
theorem f_245_0 (n dp : Nat) (e : EN) (I : (Nat → Nat → Int32)) (L : (Nat → Nat → Int64)) (i1 : Int32) (i2 : Int32) : Pc (g_245 n dp e 0 I L i1 i2) (F3 WI_245 WL_245 I L) := (fa_245 n dp e I L i1 i2)
def WI_250 : List (Nat × Nat) := [(105, 0)]
def WL_250 : List (Nat × Nat) := [(118, 0), (119, 0), (105, 0)]
set_option maxHeartbeats 8000000 in
set_option maxRecDepth 100000 in
theorem fa_250 : ∀ (n dp : Nat) (e : EN) (I : (Nat → Nat → Int32)) (L : (Nat → Nat → Int64)) (i1 : Int32) (i2 : Int32), Pc (g_250 n dp e 0 I L i1 i2) (F3 WI_250 WL_250 I L) := by
  intro n
  induction n with
  | zero => intro dp e I L i1 i2; exact Pc_none
  | succ n ih =>
    intro dp e I L i1 i2
    · rw [e_250_0]
      repeat' first
        | with_reducible exact Pc_none
        | with_reducible exact Pc_s3
        | with_reducible refine Pc_ite ?_ ?_
        | ((with_reducible refine Pc_c33 (f_246_0 _ _ _ _ _ _ _ _ _ _ _ _ _ _) ?_ ?_ (fun _ _ _ => ?_)); exact (sbs_of rfl); exact sbs_of rfl; dsimp only)
theorem f_250_0 (n dp : Nat) (e : EN) (I : (Nat → Nat → Int32)) (L : (Nat → Nat → Int64)) (i1 : Int32) (i2 : Int32) : Pc (g_250 n dp e 0 I L i1 i2) (F3 WI_250 WL_250 I L) := (fa_250 n dp e I L i1 i2)
def WI_251 : List (Nat × Nat) := [(105, 0)]
def WL_251 : List (Nat × Nat) := [(118, 0), (119, 0), (105, 0)]
set_option maxHeartbeats 8000000 in
set_option maxRecDepth 100000 in
theorem fa_251 : ∀ (n dp : Nat) (e : EN) (I : (Nat → Nat → Int32)) (L : (Nat → Nat → Int64)) (i1 : Int32) (i2 : Int32), Pc (g_251 n dp e 0 I L i1 i2) (F3 WI_251 WL_251 I L) := by
  intro n
  induction n with
  | zero => intro dp e I L i1 i2; exact Pc_none
  | succ n ih =>
    intro dp e I L i1 i2
    · rw [e_251_0]
      repeat' first
        | with_reducible exact Pc_none
        | with_reducible exact Pc_s3
        | with_reducible refine Pc_ite ?_ ?_
        | ((with_reducible refine Pc_c33 (f_246_0 _ _ _ _ _ _ _ _ _ _ _ _ _ _) ?_ ?_ (fun _ _ _ => ?_)); exact (sbs_of rfl); exact sbs_of rfl; dsimp only)
theorem f_251_0 (n dp : Nat) (e : EN) (I : (Nat → Nat → Int32)) (L : (Nat → Nat → Int64)) (i1 : Int32) (i2 : Int32) : Pc (g_251 n dp e 0 I L i1 i2) (F3 WI_251 WL_251 I L) := (fa_251 n dp e I L i1 i2)
def WI_242 : List (Nat × Nat) := [(105, 0)]
def WL_242 : List (Nat × Nat) := [(118, 0), (119, 0), (105, 0)]
set_option maxHeartbeats 8000000 in
set_option maxRecDepth 100000 in
theorem fa_242 : ∀ (n dp : Nat) (e : EN) (I : (Nat → Nat → Int32)) (L : (Nat → Nat → Int64)) (i1 : Int32) (i2 : Int32) (i3 : Int32) (i4 : Int32), Pc (g_242 n dp e 0 I L i1 i2 i3 i4) (F3 WI_242 WL_242 I L) ∧
    Pc (g_242 n dp e 1 I L i1 i2 i3 i4) (F3 WI_242 WL_242 I L) := by
  intro n
  induction n with
  | zero => intro dp e I L i1 i2 i3 i4; exact ⟨Pc_none, Pc_none⟩
  | succ n ih =>
    intro dp e I L i1 i2 i3 i4
    refine ⟨?_, ?_⟩
    · rw [e_242_0]
      repeat' first
        | with_reducible exact Pc_none
        | with_reducible exact Pc_s3
        | with_reducible refine Pc_ite ?_ ?_
        | ((with_reducible refine Pc_c33 (f_239_0 _ _ _ _ _ _) ?_ ?_ (fun _ _ _ => ?_)); exact (sbs_of rfl); exact sbs_of rfl; dsimp only)
        | ((with_reducible refine Pc_c33 (f_197_0 _ _ _ _ _ _) ?_ ?_ (fun _ _ _ => ?_)); exact (sbs_of rfl); exact sbs_of rfl; dsimp only)
        | ((with_reducible refine Pc_c33 (f_243_0 _ _ _ _ _ _ _ _ _) ?_ ?_ (fun _ _ _ => ?_)); exact (sbs_of rfl); exact sbs_of rfl; dsimp only)
        | ((with_reducible refine Pc_c33 (f_245_0 _ _ _ _ _ _ _) ?_ ?_ (fun _ _ _ => ?_)); exact (sbs_of rfl); exact sbs_of rfl; dsimp only)
        | ((with_reducible refine Pc_c33 (f_250_0 _ _ _ _ _ _ _) ?_ ?_ (fun _ _ _ => ?_)); exact (sbs_of rfl); exact sbs_of rfl; dsimp only)
        | ((with_reducible refine Pc_c33 (f_251_0 _ _ _ _ _ _ _) ?_ ?_ (fun _ _ _ => ?_)); exact (sbs_of rfl); exact sbs_of rfl; dsimp only)
        | with_reducible exact (ih _ _ _ _ _ _ _ _).2
        | ((with_reducible refine Pc_c33 (f_240_0 _ _ _ _ _ _) ?_ ?_ (fun _ _ _ => ?_)); exact (sbs_of rfl); exact sbs_of rfl; dsimp only)
        | ((with_reducible refine Pc_c33 (f_244_0 _ _ _ _ _ _ _) ?_ ?_ (fun _ _ _ => ?_)); exact (sbs_of rfl); exact sbs_of rfl; dsimp only)
        | ((with_reducible refine Pc_u3 ?_ (fun _ => ?_)); exact rfl)
        | with_reducible refine Pc_st (fun _ => ?_)
    · rw [e_242_1]
      repeat' first
        | with_reducible exact Pc_none
        | with_reducible exact Pc_s3
theorem f_242_0 (n dp : Nat) (e : EN) (I : (Nat → Nat → Int32)) (L : (Nat → Nat → Int64)) (i1 : Int32) (i2 : Int32) (i3 : Int32) (i4 : Int32) : Pc (g_242 n dp e 0 I L i1 i2 i3 i4) (F3 WI_242 WL_242 I L) := (fa_242 n dp e I L i1 i2 i3 i4).1
theorem f_242_1 (n dp : Nat) (e : EN) (I : (Nat → Nat → Int32)) (L : (Nat → Nat → Int64)) (i1 : Int32) (i2 : Int32) (i3 : Int32) (i4 : Int32) : Pc (g_242 n dp e 1 I L i1 i2 i3 i4) (F3 WI_242 WL_242 I L) := (fa_242 n dp e I L i1 i2 i3 i4).2
def WI_255 : List (Nat × Nat) := [(121, 0), (122, 0), (120, 0)]
def WL_255 : List (Nat × Nat) := []
set_option maxHeartbeats 8000000 in
set_option maxRecDepth 100000 in
theorem fa_255 : ∀ (n dp : Nat) (e : EN) (I : (Nat → Nat → Int32)) (L : (Nat → Nat → Int64)) (i1 : Int32) (i2 : Int32) (i3 : Int32), Pc (g_255 n dp e 0 I L i1 i2 i3) (F2 WI_255 WL_255 I L) ∧
    Pc (g_255 n dp e 1 I L i1 i2 i3) (F2 WI_255 WL_255 I L) ∧
    Pc (g_255 n dp e 2 I L i1 i2 i3) (F2 WI_255 WL_255 I L) := by
  intro n
  induction n with
  | zero => intro dp e I L i1 i2 i3; exact ⟨Pc_none, Pc_none, Pc_none⟩
  | succ n ih =>
    intro dp e I L i1 i2 i3
    refine ⟨?_, ?_, ?_⟩
    · rw [e_255_0]
      repeat' first
        | with_reducible exact Pc_none
        | with_reducible exact Pc_s2
        | with_reducible refine Pc_ite ?_ ?_
        | with_reducible exact (ih _ _ _ _ _ _ _).2.2
        | with_reducible exact (ih _ _ _ _ _ _ _).2.1
        | with_reducible refine Pc_st (fun _ => ?_)
    · rw [e_255_1]
      repeat' first
        | with_reducible exact Pc_none
        | with_reducible exact Pc_s2
        | with_reducible refine Pc_ite ?_ ?_
        | with_reducible exact (ih _ _ _ _ _ _ _).2.2
        | with_reducible exact (ih _ _ _ _ _ _ _).2.1
        | ((with_reducible refine Pc_u2 ?_ (fun _ => ?_)); exact rfl)
        | with_reducible refine Pc_st (fun _ => ?_)
    · rw [e_255_2]
      repeat' first
        | with_reducible exact Pc_none
        | with_reducible exact Pc_s2
        | with_reducible refine Pc_ite ?_ ?_
        | ((with_reducible refine Pc_u2 ?_ (fun _ => ?_)); exact rfl)
        | with_reducible refine Pc_st (fun _ => ?_)
theorem f_255_0 (n dp : Nat) (e : EN) (I : (Nat → Nat → Int32)) (L : (Nat → Nat → Int64)) (i1 : Int32) (i2 : Int32) (i3 : Int32) : Pc (g_255 n dp e 0 I L i1 i2 i3) (F2 WI_255 WL_255 I L) := (fa_255 n dp e I L i1 i2 i3).1
theorem f_255_1 (n dp : Nat) (e : EN) (I : (Nat → Nat → Int32)) (L : (Nat → Nat → Int64)) (i1 : Int32) (i2 : Int32) (i3 : Int32) : Pc (g_255 n dp e 1 I L i1 i2 i3) (F2 WI_255 WL_255 I L) := (fa_255 n dp e I L i1 i2 i3).2.1
theorem f_255_2 (n dp : Nat) (e : EN) (I : (Nat → Nat → Int32)) (L : (Nat → Nat → Int64)) (i1 : Int32) (i2 : Int32) (i3 : Int32) : Pc (g_255 n dp e 2 I L i1 i2 i3) (F2 WI_255 WL_255 I L) := (fa_255 n dp e I L i1 i2 i3).2.2
def WI_256 : List (Nat × Nat) := [(123, 0), (124, 0)]
def WL_256 : List (Nat × Nat) := []
set_option maxHeartbeats 8000000 in
set_option maxRecDepth 100000 in
theorem fa_256 : ∀ (n dp : Nat) (e : EN) (I : (Nat → Nat → Int32)) (L : (Nat → Nat → Int64)) (i1 : Int32) (i2 : Int32) (i3 : Int32) (i4 : Int32) (i5 : Int32) (i6 : Int32) (i7 : Int32), Pc (g_256 n dp e 0 I L i1 i2 i3 i4 i5 i6 i7) (F3 WI_256 WL_256 I L) ∧
    Pc (g_256 n dp e 1 I L i1 i2 i3 i4 i5 i6 i7) (F3 WI_256 WL_256 I L) ∧
    Pc (g_256 n dp e 2 I L i1 i2 i3 i4 i5 i6 i7) (F3 WI_256 WL_256 I L) ∧
    Pc (g_256 n dp e 3 I L i1 i2 i3 i4 i5 i6 i7) (F3 WI_256 WL_256 I L) ∧
    Pc (g_256 n dp e 4 I L i1 i2 i3 i4 i5 i6 i7) (F3 WI_256 WL_256 I L) := by
  intro n
  induction n with
  | zero => intro dp e I L i1 i2 i3 i4 i5 i6 i7; exact ⟨Pc_none, Pc_none, Pc_none, Pc_none, Pc_none⟩
  | succ n ih =>
    intro dp e I L i1 i2 i3 i4 i5 i6 i7
    refine ⟨?_, ?_, ?_, ?_, ?_⟩
    · rw [e_256_0]
      repeat' first
        | with_reducible exact Pc_none
        | with_reducible exact Pc_s3
        | with_reducible exact (ih _ _ _ _ _ _ _ _ _ _ _).2.1
    · rw [e_256_1]
      repeat' first
        | with_reducible exact Pc_none
        | with_reducible exact Pc_s3
        | with_reducible refine Pc_ite ?_ ?_
        | with_reducible exact (ih _ _ _ _ _ _ _ _ _ _ _).2.2.1
        | with_reducible exact (ih _ _ _ _ _ _ _ _ _ _ _).2.2.2.2
        | ((with_reducible refine Pc_c33 (f_240_0 _ _ _ _ _ _) ?_ ?_ (fun _ _ _ => ?_)); exact (sbs_of rfl); exact sbs_of rfl; dsimp only)
        | with_reducible exact (ih _ _ _ _ _ _ _ _ _ _ _).2.2.2.1
        | ((with_reducible refine Pc_u3 ?_ (fun _ => ?_)); exact rfl)
        | with_reducible refine Pc_st (fun _ => ?_)
    · rw [e_256_2]
      repeat' first
        | with_reducible exact Pc_none
        | with_reducible exact Pc_s3
        | with_reducible refine Pc_ite ?_ ?_
        | with_reducible exact (ih _ _ _ _ _ _ _ _ _ _ _).2.2.2.2
        | with_reducible exact (ih _ _ _ _ _ _ _ _ _ _ _).2.2.1
        | ((with_reducible refine Pc_u3 ?_ (fun _ => ?_)); exact rfl)
        | with_reducible refine Pc_st (fun _ => ?_)
    · rw [e_256_3]
      repeat' first
        | with_reducible exact Pc_none
        | with_reducible exact Pc_s3
        | with_reducible refine Pc_ite ?_ ?_
        | with_reducible exact (ih _ _ _ _ _ _ _ _ _ _ _).2.2.2.2
        | with_reducible exact (ih _ _ _ _ _ _ _ _ _ _ _).2.2.2.1
        | ((with_reducible refine Pc_c33 (f_241_0 _ _ _ _ _ _ _) ?_ ?_ (fun _ _ _ => ?_)); exact (sbs_of rfl); exact sbs_of rfl; dsimp only)
        | ((with_reducible refine Pc_u3 ?_ (fun _ => ?_)); exact rfl)
        | with_reducible refine Pc_st (fun _ => ?_)
    · rw [e_256_4]
      repeat' first
        | with_reducible exact Pc_none
        | with_reducible exact Pc_s3
        | with_reducible exact (ih _ _ _ _ _ _ _ _ _ _ _).2.1
theorem f_256_0 (n dp : Nat) (e : EN) (I : (Nat → Nat → Int32)) (L : (Nat → Nat → Int64)) (i1 : Int32) (i2 : Int32) (i3 : Int32) (i4 : Int32) (i5 : Int32) (i6 : Int32) (i7 : Int32) : Pc (g_256 n dp e 0 I L i1 i2 i3 i4 i5 i6 i7) (F3 WI_256 WL_256 I L) := (fa_256 n dp e I L i1 i2 i3 i4 i5 i6 i7).1
theorem f_256_1 (n dp : Nat) (e : EN) (I : (Nat → Nat → Int32)) (L : (Nat → Nat → Int64)) (i1 : Int32) (i2 : Int32) (i3 : Int32) (i4 : Int32) (i5 : Int32) (i6 : Int32) (i7 : Int32) : Pc (g_256 n dp e 1 I L i1 i2 i3 i4 i5 i6 i7) (F3 WI_256 WL_256 I L) := (fa_256 n dp e I L i1 i2 i3 i4 i5 i6 i7).2.1
theorem f_256_2 (n dp : Nat) (e : EN) (I : (Nat → Nat → Int32)) (L : (Nat → Nat → Int64)) (i1 : Int32) (i2 : Int32) (i3 : Int32) (i4 : Int32) (i5 : Int32) (i6 : Int32) (i7 : Int32) : Pc (g_256 n dp e 2 I L i1 i2 i3 i4 i5 i6 i7) (F3 WI_256 WL_256 I L) := (fa_256 n dp e I L i1 i2 i3 i4 i5 i6 i7).2.2.1
theorem f_256_3 (n dp : Nat) (e : EN) (I : (Nat → Nat → Int32)) (L : (Nat → Nat → Int64)) (i1 : Int32) (i2 : Int32) (i3 : Int32) (i4 : Int32) (i5 : Int32) (i6 : Int32) (i7 : Int32) : Pc (g_256 n dp e 3 I L i1 i2 i3 i4 i5 i6 i7) (F3 WI_256 WL_256 I L) := (fa_256 n dp e I L i1 i2 i3 i4 i5 i6 i7).2.2.2.1
theorem f_256_4 (n dp : Nat) (e : EN) (I : (Nat → Nat → Int32)) (L : (Nat → Nat → Int64)) (i1 : Int32) (i2 : Int32) (i3 : Int32) (i4 : Int32) (i5 : Int32) (i6 : Int32) (i7 : Int32) : Pc (g_256 n dp e 4 I L i1 i2 i3 i4 i5 i6 i7) (F3 WI_256 WL_256 I L) := (fa_256 n dp e I L i1 i2 i3 i4 i5 i6 i7).2.2.2.2
def WI_254 : List (Nat × Nat) := [(120, 0), (123, 0), (124, 0), (121, 0), (122, 0)]
def WL_254 : List (Nat × Nat) := []
set_option maxHeartbeats 8000000 in
set_option maxRecDepth 100000 in
theorem fa_254 : ∀ (n dp : Nat) (e : EN) (I : (Nat → Nat → Int32)) (L : (Nat → Nat → Int64)) (i1 : Int32) (i2 : Int32), Pc (g_254 n dp e 0 I L i1 i2) (F2 WI_254 WL_254 I L) ∧
    Pc (g_254 n dp e 1 I L i1 i2) (F2 WI_254 WL_254 I L) ∧
    Pc (g_254 n dp e 2 I L i1 i2) (F2 WI_254 WL_254 I L) := by
  intro n
  induction n with
  | zero => intro dp e I L i1 i2; exact ⟨Pc_none, Pc_none, Pc_none⟩
  | succ n ih =>
    intro dp e I L i1 i2
    refine ⟨?_, ?_, ?_⟩
    · rw [e_254_0]
      repeat' first
        | with_reducible exact Pc_none
        | with_reducible exact Pc_s2
        | with_reducible refine Pc_ite ?_ ?_
        | with_reducible exact (ih _ _ _ _ _ _).2.1
        | ((with_reducible refine Pc_u2 ?_ (fun _ => ?_)); exact rfl)
        | with_reducible refine Pc_st (fun _ => ?_)
    · rw [e_254_1]
      repeat' first
        | with_reducible exact Pc_none
        | with_reducible exact Pc_s2
        | with_reducible refine Pc_ite ?_ ?_
        | with_reducible exact (ih _ _ _ _ _ _).2.2
        | with_reducible exact (ih _ _ _ _ _ _).2.1
        | ((with_reducible refine Pc_u2 ?_ (fun _ => ?_)); exact rfl)
        | with_reducible refine Pc_st (fun _ => ?_)
    · rw [e_254_2]
      repeat' first
        | with_reducible exact Pc_none
        | with_reducible exact Pc_s2
        | with_reducible refine Pc_ite ?_ ?_
        | ((with_reducible refine Pc_c22 (f_255_0 _ _ _ _ _ _ _ _) ?_ ?_ (fun _ _ => ?_)); exact (sbs_of rfl); exact sbs_of rfl; dsimp only)
        | with_reducible exact (ih _ _ _ _ _ _).2.2
        | ((with_reducible refine Pc_c32 (f_256_0 _ _ _ _ _ _ _ _ _ _ _ _) ?_ ?_ (fun _ _ _ => ?_)); exact (sbs_of rfl); exact sbs_of rfl; dsimp only)
        | ((with_reducible refine Pc_u2 ?_ (fun _ => ?_)); exact rfl)
        | with_reducible refine Pc_st (fun _ => ?_)
theorem f_254_0 (n dp : Nat) (e : EN) (I : (Nat → Nat → Int32)) (L : (Nat → Nat → Int64)) (i1 : Int32) (i2 : Int32) : Pc (g_254 n dp e 0 I L i1 i2) (F2 WI_254 WL_254 I L) := (fa_254 n dp e I L i1 i2).1
theorem f_254_1 (n dp : Nat) (e : EN) (I : (Nat → Nat → Int32)) (L : (Nat → Nat → Int64)) (i1 : Int32) (i2 : Int32) : Pc (g_254 n dp e 1 I L i1 i2) (F2 WI_254 WL_254 I L) := (fa_254 n dp e I L i1 i2).2.1
theorem f_254_2 (n dp : Nat) (e : EN) (I : (Nat → Nat → Int32)) (L : (Nat → Nat → Int64)) (i1 : Int32) (i2 : Int32) : Pc (g_254 n dp e 2 I L i1 i2) (F2 WI_254 WL_254 I L) := (fa_254 n dp e I L i1 i2).2.2
def WI_253 : List (Nat × Nat) := [(105, 0), (125, 0), (120, 0), (123, 0), (124, 0), (121, 0), (122, 0)]
def WL_253 : List (Nat × Nat) := [(118, 0), (119, 0), (105, 0)]
set_option maxHeartbeats 8000000 in
set_option maxRecDepth 100000 in
theorem fa_253 : ∀ (n dp : Nat) (e : EN) (I : (Nat → Nat → Int32)) (L : (Nat → Nat → Int64)) (i1 : Int32) (i2 : Int32), Pc (g_253 n dp e 0 I L i1 i2) (F2 WI_253 WL_253 I L) ∧
    Pc (g_253 n dp e 1 I L i1 i2) (F2 WI_253 WL_253 I L) ∧
    Pc (g_253 n dp e 2 I L i1 i2) (F2 WI_253 WL_253 I L) := by
  intro n
  induction n with
  | zero => intro dp e I L i1 i2; exact ⟨Pc_none, Pc_none, Pc_none⟩
  | succ n ih =>
    intro dp e I L i1 i2
    refine ⟨?_, ?_, ?_⟩
    · rw [e_253_0]
      repeat' first
        | with_reducible exact Pc_none
        | with_reducible exact Pc_s2
        | with_reducible refine Pc_ite ?_ ?_
        | with_reducible exact (ih _ _ _ _ _ _).2.1
        | ((with_reducible refine Pc_u2 ?_ (fun _ => ?_)); exact rfl)
        | with_reducible refine Pc_st (fun _ => ?_)
    · rw [e_253_1]
      repeat' first
        | with_reducible exact Pc_none
        | with_reducible exact Pc_s2
        | with_reducible refine Pc_ite ?_ ?_
        | with_reducible exact (ih _ _ _ _ _ _).2.2
    · rw [e_253_2]
      repeat' first
        | with_reducible exact Pc_none
        | with_reducible exact Pc_s2
        | with_reducible refine Pc_ite ?_ ?_
        | ((with_reducible refine Pc_c22 (f_254_0 _ _ _ _ _ _ _) ?_ ?_ (fun _ _ => ?_)); exact (sbs_of rfl); exact sbs_of rfl; dsimp only)
        | with_reducible exact (ih _ _ _ _ _ _).2.1
        | ((with_reducible refine Pc_c32 (f_245_0 _ _ _ _ _ _ _) ?_ ?_ (fun _ _ _ => ?_)); exact (sbs_of rfl); exact sbs_of rfl; dsimp only)
        | with_reducible exact (ih _ _ _ _ _ _).2.2
        | ((with_reducible refine Pc_u2 ?_ (fun _ => ?_)); exact rfl)
        | with_reducible refine Pc_st (fun _ => ?_)
theorem f_253_0 (n dp : Nat) (e : EN) (I : (Nat → Nat → Int32)) (L : (Nat → Nat → Int64)) (i1 : Int32) (i2 : Int32) : Pc (g_253 n dp e 0 I L i1 i2) (F2 WI_253 WL_253 I L) := (fa_253 n dp e I L i1 i2).1
theorem f_253_1 (n dp : Nat) (e : EN) (I : (Nat → Nat → Int32)) (L : (Nat → Nat → Int64)) (i1 : Int32) (i2 : Int32) : Pc (g_253 n dp e 1 I L i1 i2) (F2 WI_253 WL_253 I L) := (fa_253 n dp e I L i1 i2).2.1
theorem f_253_2 (n dp : Nat) (e : EN) (I : (Nat → Nat → Int32)) (L : (Nat → Nat → Int64)) (i1 : Int32) (i2 : Int32) : Pc (g_253 n dp e 2 I L i1 i2) (F2 WI_253 WL_253 I L) := (fa_253 n dp e I L i1 i2).2.2
def WI_252 : List (Nat × Nat) := [(105, 0), (125, 0), (120, 0), (123, 0), (124, 0), (121, 0), (122, 0)]
def WL_252 : List (Nat × Nat) := [(118, 0), (119, 0), (105, 0)]
set_option maxHeartbeats 8000000 in
set_option maxRecDepth 100000 in
theorem fa_252 : ∀ (n dp : Nat) (e : EN) (I : (Nat → Nat → Int32)) (L : (Nat → Nat → Int64)) (i1 : Int32), Pc (g_252 n dp e 0 I L i1) (F3 WI_252 WL_252 I L) := by
  intro n
  induction n with
  | zero => intro dp e I L i1; exact Pc_none
  | succ n ih =>
    intro dp e I L i1
    · rw [e_252_0]
      repeat' first
        | with_reducible exact Pc_none
        | with_reducible exact Pc_s3
        | with_reducible refine Pc_ite ?_ ?_
        | ((with_reducible refine Pc_c33 (f_197_0 _ _ _ _ _ _) ?_ ?_ (fun _ _ _ => ?_)); exact (sbs_of rfl); exact sbs_of rfl; dsimp only)
        | ((with_reducible refine Pc_c23 (f_253_0 _ _ _ _ _ _ _) ?_ ?_ (fun _ _ => ?_)); exact (sbs_of rfl); exact sbs_of rfl; dsimp only)
        | ((with_reducible refine Pc_u3 ?_ (fun _ => ?_)); exact rfl)
        | with_reducible refine Pc_st (fun _ => ?_)
theorem f_252_0 (n dp : Nat) (e : EN) (I : (Nat → Nat → Int32)) (L : (Nat → Nat → Int64)) (i1 : Int32) : Pc (g_252 n dp e 0 I L i1) (F3 WI_252 WL_252 I L) := (fa_252 n dp e I L i1)
def WI_258 : List (Nat × Nat) := []
def WL_258 : List (Nat × Nat) := []
set_option maxHeartbeats 8000000 in
set_option maxRecDepth 100000 in
theorem fa_258 : ∀ (n dp : Nat) (e : EN) (I : (Nat → Nat → Int32)) (L : (Nat → Nat → Int64)) (i1 : Int32) (i2 : Int32), Pc (g_258 n dp e 0 I L i1 i2) (F3 WI_258 WL_258 I L) := by
  intro n
  induction n with
  | zero => intro dp e I L i1 i2; exact Pc_none
  | succ n ih =>
    intro dp e I L i1 i2
    · rw [e_258_0]
      repeat' first
        | with_reducible exact Pc_none
        | with_reducible exact Pc_s3
        | with_reducible refine Pc_ite ?_ ?_
        | ((with_reducible refine Pc_c33 (f_197_0 _ _ _ _ _ _) ?_ ?_ (fun _ _ _ => ?_)); exact (sbs_of rfl); exact sbs_of rfl; dsimp only)
        | ((with_reducible refine Pc_c33 (f_193_0 _ _ _ _ _ _ _ _) ?_ ?_ (fun _ _ _ => ?_)); exact (sbs_of rfl); exact sbs_of rfl; dsimp only)
theorem f_258_0 (n dp : Nat) (e : EN) (I : (Nat → Nat → Int32)) (L : (Nat → Nat → Int64)) (i1 : Int32) (i2 : Int32) : Pc (g_258 n dp e 0 I L i1 i2) (F3 WI_258 WL_258 I L) := (fa_258 n dp e I L i1 i2)
def WI_257 : List (Nat × Nat) := [(105, 0), (125, 0), (120, 0), (123, 0), (124, 0), (121, 0), (122, 0)]
def WL_257 : List (Nat × Nat) := [(118, 0), (119, 0), (105, 0)]
set_option maxHeartbeats 8000000 in
set_option maxRecDepth 100000 in
theorem fa_257 : ∀ (n dp : Nat) (e : EN) (I : (Nat → Nat → Int32)) (L : (Nat → Nat → Int64)) (i1 : Int32) (i2 : Int32) (i3 : Int32), Pc (g_257 n dp e 0 I L i1 i2 i3) (F3 WI_257 WL_257 I L) := by
  intro n
  induction n with
  | zero => intro dp e I L i1 i2 i3; exact Pc_none
  | succ n ih =>
    intro dp e I L i1 i2 i3
    · rw [e_257_0]
      repeat' first
        | with_reducible exact Pc_none
        | with_reducible exact Pc_s3
        | with_reducible refine Pc_ite ?_ ?_
        | ((with_reducible refine Pc_c23 (f_253_0 _ _ _ _ _ _ _) ?_ ?_ (fun _ _ => ?_)); exact (sbs_of rfl); exact sbs_of rfl; dsimp only)
        | ((with_reducible refine Pc_c33 (f_258_0 _ _ _ _ _ _ _) ?_ ?_ (fun _ _ _ => ?_)); exact (sbs_of rfl); exact sbs_of rfl; dsimp only)
        | ((with_reducible refine Pc_c33 (f_202_0 _ _ _ _ _ _) ?_ ?_ (fun _ _ _ => ?_)); exact (sbs_of rfl); exact sbs_of rfl; dsimp only)
        | ((with_reducible refine Pc_u3 ?_ (fun _ => ?_)); exact rfl)
        | with_reducible refine Pc_st (fun _ => ?_)
theorem f_257_0 (n dp : Nat) (e : EN) (I : (Nat → Nat → Int32)) (L : (Nat → Nat → Int64)) (i1 : Int32) (i2 : Int32) (i3 : Int32) : Pc (g_257 n dp e 0 I L i1 i2 i3) (F3 WI_257 WL_257 I L) := (fa_257 n dp e I L i1 i2 i3)
def WI_259 : List (Nat × Nat) := [(105, 0), (125, 0), (120, 0), (123, 0), (124, 0), (121, 0), (122, 0)]
def WL_259 : List (Nat × Nat) := [(118, 0), (119, 0), (105, 0)]
set_option maxHeartbeats 8000000 in
set_option maxRecDepth 100000 in
theorem fa_259 : ∀ (n dp : Nat) (e : EN) (I : (Nat → Nat → Int32)) (L : (Nat → Nat → Int64)) (i1 : Int32) (i2 : Int32) (i3 : Int32), Pc (g_259 n dp e 0 I L i1 i2 i3) (F3 WI_259 WL_259 I L) := by
  intro n
  induction n with
  | zero => intro dp e I L i1 i2 i3; exact Pc_none
  | succ n ih =>
    intro dp e I L i1 i2 i3
    · rw [e_259_0]
      repeat' first
        | with_reducible exact Pc_none
        | with_reducible exact Pc_s3
        | with_reducible refine Pc_ite ?_ ?_
        | ((with_reducible refine Pc_c23 (f_253_0 _ _ _ _ _ _ _) ?_ ?_ (fun _ _ => ?_)); exact (sbs_of rfl); exact sbs_of rfl; dsimp only)
        | ((with_reducible refine Pc_c33 (f_258_0 _ _ _ _ _ _ _) ?_ ?_ (fun _ _ _ => ?_)); exact (sbs_of rfl); exact sbs_of rfl; dsimp only)
        | ((with_reducible refine Pc_c33 (f_202_0 _ _ _ _ _ _) ?_ ?_ (fun _ _ _ => ?_)); exact (sbs_of rfl); exact sbs_of rfl; dsimp only)
        | ((with_reducible refine Pc_u3 ?_ (fun _ => ?_)); exact rfl)
        | with_reducible refine Pc_st (fun _ => ?_)
theorem f_259_0 (n dp : Nat) (e : EN) (I : (Nat → Nat → Int32)) (L : (Nat → Nat → Int64)) (i1 : Int32) (i2 : Int32) (i3 : Int32) : Pc (g_259 n dp e 0 I L i1 i2 i3) (F3 WI_259 WL_259 I L) := (fa_259 n dp e I L i1 i2 i3)
def WI_262 : List (Nat × Nat) := [(105, 0), (125, 0), (120, 0), (123, 0), (124, 0), (121, 0), (122, 0), (126, 0), (127, 0)]
def WL_262 : List (Nat × Nat) := [(118, 0), (119, 0), (105, 0)]
set_option maxHeartbeats 8000000 in
set_option maxRecDepth 100000 in
theorem fa_262 : ∀ (n dp : Nat) (e : EN) (I : (Nat → Nat → Int32)) (L : (Nat → Nat → Int64)) (i1 : Int32) (i2 : Int32) (i3 : Int32) (i4 : Int32) (i5 : Int32) (i6 : Int32), Pc (g_262 n dp e 0 I L i1 i2 i3 i4 i5 i6) (F3 WI_262 WL_262 I L) ∧
    Pc (g_262 n dp e 1 I L i1 i2 i3 i4 i5 i6) (F3 WI_262 WL_262 I L) ∧
    Pc (g_262 n dp e 2 I L i1 i2 i3 i4 i5 i6) (F3 WI_262 WL_262 I L) ∧
    Pc (g_262 n dp e 3 I L i1 i2 i3 i4 i5 i6) (F3 WI_262 WL_262 I L) ∧
    Pc (g_262 n dp e 4 I L i1 i2 i3 i4 i5 i6) (F3 WI_262 WL_262 I L) := by
  intro n
  induction n with
  | zero => intro dp e I L i1 i2 i3 i4 i5 i6; exact ⟨Pc_none, Pc_none, Pc_none, Pc_none, Pc_none⟩
  | succ n ih =>
    intro dp e I L i1 i2 i3 i4 i5 i6
    refine ⟨?_, ?_, ?_, ?_, ?_⟩
    · rw [e_262_0]
      repeat' first
        | with_reducible exact Pc_none
        | with_reducible exact Pc_s3
        | with_reducible refine Pc_ite ?_ ?_
        | ((with_reducible refine Pc_c23 (f_253_0 _ _ _ _ _ _ _) ?_ ?_ (fun _ _ => ?_)); exact (sbs_of rfl); exact sbs_of rfl; dsimp only)
        | with_reducible exact (ih _ _ _ _ _ _ _ _ _ _).2.1
        | ((with_reducible refine Pc_u3 ?_ (fun _ => ?_)); exact rfl)
        | with_reducible refine Pc_st (fun _ => ?_)
    · rw [e_262_1]
      repeat' first
        | with_reducible exact Pc_none
        | with_reducible exact Pc_s3
        | with_reducible refine Pc_ite ?_ ?_
        | with_reducible exact (ih _ _ _ _ _ _ _ _ _ _).2.2.2.2
        | with_reducible exact (ih _ _ _ _ _ _ _ _ _ _).2.2.1
        | ((with_reducible refine Pc_u3 ?_ (fun _ => ?_)); exact rfl)
        | with_reducible refine Pc_st (fun _ => ?_)
    · rw [e_262_2]
      repeat' first
        | with_reducible exact Pc_none
        | with_reducible exact Pc_s3
        | with_reducible refine Pc_ite ?_ ?_
        | with_reducible exact (ih _ _ _ _ _ _ _ _ _ _).2.2.2.1
        | with_reducible exact (ih _ _ _ _ _ _ _ _ _ _).2.2.1
        | ((with_reducible refine Pc_u3 ?_ (fun _ => ?_)); exact rfl)
        | with_reducible refine Pc_st (fun _ => ?_)
    · rw [e_262_3]
      repeat' first
        | with_reducible exact Pc_none
        | with_reducible exact Pc_s3
        | with_reducible exact (ih _ _ _ _ _ _ _ _ _ _).2.1
    · rw [e_262_4]
      repeat' first
        | with_reducible exact Pc_none
        | with_reducible exact Pc_s3
        | with_reducible refine Pc_ite ?_ ?_
        | with_reducible exact (ih _ _ _ _ _ _ _ _ _ _).2.2.2.2
        | ((with_reducible refine Pc_u3 ?_ (fun _ => ?_)); exact rfl)
        | with_reducible refine Pc_st (fun _ => ?_)
theorem f_262_0 (n dp : Nat) (e : EN) (I : (Nat → Nat → Int32)) (L : (Nat → Nat → Int64)) (i1 : Int32) (i2 : Int32) (i3 : Int32) (i4 : Int32) (i5 : Int32) (i6 : Int32) : Pc (g_262 n dp e 0 I L i1 i2 i3 i4 i5 i6) (F3 WI_262 WL_262 I L) := (fa_262 n dp e I L i1 i2 i3 i4 i5 i6).1
theorem f_262_1 (n dp : Nat) (e : EN) (I : (Nat → Nat → Int32)) (L : (Nat → Nat → Int64)) (i1 : Int32) (i2 : Int32) (i3 : Int32) (i4 : Int32) (i5 : Int32) (i6 : Int32) : Pc (g_262 n dp e 1 I L i1 i2 i3 i4 i5 i6) (F3 WI_262 WL_262 I L) := (fa_262 n dp e I L i1 i2 i3 i4 i5 i6).2.1
theorem f_262_2 (n dp : Nat) (e : EN) (I : (Nat → Nat → Int32)) (L : (Nat → Nat → Int64)) (i1 : Int32) (i2 : Int32) (i3 : Int32) (i4 : Int32) (i5 : Int32) (i6 : Int32) : Pc (g_262 n dp e 2 I L i1 i2 i3 i4 i5 i6) (F3 WI_262 WL_262 I L) := (fa_262 n dp e I L i1 i2 i3 i4 i5 i6).2.2.1
theorem f_262_3 (n dp : Nat) (e : EN) (I : (Nat → Nat → Int32)) (L : (Nat → Nat → Int64)) (i1 : Int32) (i2 : Int32) (i3 : Int32) (i4 : Int32) (i5 : Int32) (i6 : Int32) : Pc (g_262 n dp e 3 I L i1 i2 i3 i4 i5 i6) (F3 WI_262 WL_262 I L) := (fa_262 n dp e I L i1 i2 i3 i4 i5 i6).2.2.2.1
theorem f_262_4 (n dp : Nat) (e : EN) (I : (Nat → Nat → Int32)) (L : (Nat → Nat → Int64)) (i1 : Int32) (i2 : Int32) (i3 : Int32) (i4 : Int32) (i5 : Int32) (i6 : Int32) : Pc (g_262 n dp e 4 I L i1 i2 i3 i4 i5 i6) (F3 WI_262 WL_262 I L) := (fa_262 n dp e I L i1 i2 i3 i4 i5 i6).2.2.2.2
def WI_264 : List (Nat × Nat) := [(105, 0), (128, 0)]
def WL_264 : List (Nat × Nat) := []
set_option maxHeartbeats 8000000 in
set_option maxRecDepth 100000 in
theorem fa_264 : ∀ (n dp : Nat) (e : EN) (I : (Nat → Nat → Int32)) (L : (Nat → Nat → Int64)) (i1 : Int32), Pc (g_264 n dp e 0 I L i1) (F2 WI_264 WL_264 I L) ∧
    Pc (g_264 n dp e 1 I L i1) (F2 WI_264 WL_264 I L) ∧
    Pc (g_264 n dp e 2 I L i1) (F2 WI_264 WL_264 I L) := by
  intro n
  induction n with
  | zero => intro dp e I L i1; exact ⟨Pc_none, Pc_none, Pc_none⟩
  | succ n ih =>
    intro dp e I L i1
    refine ⟨?_, ?_, ?_⟩
    · rw [e_264_0]
      repeat' first
        | with_reducible exact Pc_none
        | with_reducible exact Pc_s2
        | with_reducible exact (ih _ _ _ _ _).2.1
        | ((with_reducible refine Pc_u2 ?_ (fun _ => ?_)); exact rfl)
        | with_reducible refine Pc_st (fun _ => ?_)
    · rw [e_264_1]
      repeat' first
        | with_reducible exact Pc_none
        | with_reducible exact Pc_s2
        | with_reducible refine Pc_ite ?_ ?_
        | with_reducible exact (ih _ _ _ _ _).2.2
        | ((with_reducible refine Pc_u2 ?_ (fun _ => ?_)); exact rfl)
        | with_reducible refine Pc_st (fun _ => ?_)
    · rw [e_264_2]
      repeat' first
        | with_reducible exact Pc_none
        | with_reducible exact Pc_s2
        | with_reducible exact (ih _ _ _ _ _).2.1
theorem f_264_0 (n dp : Nat) (e : EN) (I : (Nat → Nat → Int32)) (L : (Nat → Nat → Int64)) (i1 : Int32) : Pc (g_264 n dp e 0 I L i1) (F2 WI_264 WL_264 I L) := (fa_264 n dp e I L i1).1
theorem f_264_1 (n dp : Nat) (e : EN) (I : (Nat → Nat → Int32)) (L : (Nat → Nat → Int64)) (i1 : Int32) : Pc (g_264 n dp e 1 I L i1) (F2 WI_264 WL_264 I L) := (fa_264 n dp e I L i1).2.1
theorem f_264_2 (n dp : Nat) (e : EN) (I : (Nat → Nat → Int32)) (L : (Nat → Nat → Int64)) (i1 : Int32) : Pc (g_264 n dp e 2 I L i1) (F2 WI_264 WL_264 I L) := (fa_264 n dp e I L i1).2.2
def WI_265 : List (Nat × Nat) := [(133, 0)]
def WL_265 : List (Nat × Nat) := []
set_option maxHeartbeats 8000000 in
set_option maxRecDepth 100000 in
theorem fa_265 : ∀ (n dp : Nat) (e : EN) (I : (Nat → Nat → Int32)) (L : (Nat → Nat → Int64)) (i1 : Int32) (i2 : Int32) (i3 : Int32), Pc (g_265 n dp e 0 I L i1 i2 i3) (F2 WI_265 WL_265 I L) ∧
    Pc (g_265 n dp e 1 I L i1 i2 i3) (F2 WI_265 WL_265 I L) := by
  intro n
  induction n with
  | zero => intro dp e I L i1 i2 i3; exact ⟨Pc_none, Pc_none⟩
  | succ n ih =>
    intro dp e I L i1 i2 i3
    refine ⟨?_, ?_⟩
    · rw [e_265_0]
      repeat' first
        | with_reducible exact Pc_none
        | with_reducible exact Pc_s2
        | with_reducible exact (ih _ _ _ _ _ _ _).2
    · rw [e_265_1]
      repeat' first
        | with_reducible exact Pc_none
        | with_reducible exact Pc_s2
        | with_reducible refine Pc_ite ?_ ?_
        | with_reducible exact (ih _ _ _ _ _ _ _).2
        | ((with_reducible refine Pc_u2 ?_ (fun _ => ?_)); exact rfl)
        | with_reducible refine Pc_st (fun _ => ?_)
theorem f_265_0 (n dp : Nat) (e : EN) (I : (Nat → Nat → Int32)) (L : (Nat → Nat → Int64)) (i1 : Int32) (i2 : Int32) (i3 : Int32) : Pc (g_265 n dp e 0 I L i1 i2 i3) (F2 WI_265 WL_265 I L) := (fa_265 n dp e I L i1 i2 i3).1
theorem f_265_1 (n dp : Nat) (e : EN) (I : (Nat → Nat → Int32)) (L : (Nat → Nat → Int64)) (i1 : Int32) (i2 : Int32) (i3 : Int32) : Pc (g_265 n dp e 1 I L i1 i2 i3) (F2 WI_265 WL_265 I L) := (fa_265 n dp e I L i1 i2 i3).2
def WI_266 : List (Nat × Nat) := []
def WL_266 : List (Nat × Nat) := []
set_option maxHeartbeats 8000000 in
set_option maxRecDepth 100000 in
theorem fa_266 : ∀ (n dp : Nat) (e : EN) (I : (Nat → Nat → Int32)) (L : (Nat → Nat → Int64)) (i1 : Int32) (i2 : Int32) (i3 : Int32) (i4 : Int32) (i5 : Int32), Pc (g_266 n dp e 0 I L i1 i2 i3 i4 i5) (F3 WI_266 WL_266 I L) ∧
    Pc (g_266 n dp e 1 I L i1 i2 i3 i4 i5) (F3 WI_266 WL_266 I L) := by
  intro n
  induction n with
  | zero => intro dp e I L i1 i2 i3 i4 i5; exact ⟨Pc_none, Pc_none⟩
  | succ n ih =>
    intro dp e I L i1 i2 i3 i4 i5
    refine ⟨?_, ?_⟩
    · rw [e_266_0]
      repeat' first
        | with_reducible exact Pc_none
        | with_reducible exact Pc_s3
        | with_reducible exact (ih _ _ _ _ _ _ _ _ _).2
        | with_reducible refine Pc_st (fun _ => ?_)
    · rw [e_266_1]
      repeat' first
        | with_reducible exact Pc_none
        | with_reducible exact Pc_s3
        | with_reducible refine Pc_ite ?_ ?_
        | with_reducible exact (ih _ _ _ _ _ _ _ _ _).2
        | with_reducible refine Pc_st (fun _ => ?_)
theorem f_266_0 (n dp : Nat) (e : EN) (I : (Nat → Nat → Int32)) (L : (Nat → Nat → Int64)) (i1 : Int32) (i2 : Int32) (i3 : Int32) (i4 : Int32) (i5 : Int32) : Pc (g_266 n dp e 0 I L i1 i2 i3 i4 i5) (F3 WI_266 WL_266 I L) := (fa_266 n dp e I L i1 i2 i3 i4 i5).1
theorem f_266_1 (n dp : Nat) (e : EN) (I : (Nat → Nat → Int32)) (L : (Nat → Nat → Int64)) (i1 : Int32) (i2 : Int32) (i3 : Int32) (i4 : Int32) (i5 : Int32) : Pc (g_266 n dp e 1 I L i1 i2 i3 i4 i5) (F3 WI_266 WL_266 I L) := (fa_266 n dp e I L i1 i2 i3 i4 i5).2
def WI_269 : List (Nat × Nat) := []
def WL_269 : List (Nat × Nat) := []
set_option maxHeartbeats 8000000 in
set_option maxRecDepth 100000 in
theorem fa_269 : ∀ (n dp : Nat) (e : EN) (I : (Nat → Nat → Int32)) (L : (Nat → Nat → Int64)) (i1 : Int32) (i2 : Int32) (i3 : Int32) (i4 : Int32), Pc (g_269 n dp e 0 I L i1 i2 i3 i4) (F3 WI_269 WL_269 I L) ∧
    Pc (g_269 n dp e 1 I L i1 i2 i3 i4) (F3 WI_269 WL_269 I L) := by
  intro n
  induction n with
  | zero => intro dp e I L i1 i2 i3 i4; exact ⟨Pc_none, Pc_none⟩
  | succ n ih =>
    intro dp e I L i1 i2 i3 i4
    refine ⟨?_, ?_⟩
    · rw [e_269_0]
      repeat' first
        | with_reducible exact Pc_none
        | with_reducible exact Pc_s3
        | with_reducible exact (ih _ _ _ _ _ _ _ _).2
    · rw [e_269_1]
      repeat' first
        | with_reducible exact Pc_none
        | with_reducible exact Pc_s3
        | with_reducible refine Pc_ite ?_ ?_
        | with_reducible exact (ih _ _ _ _ _ _ _ _).2
        | with_reducible refine Pc_st (fun _ => ?_)
theorem f_269_0 (n dp : Nat) (e : EN) (I : (Nat → Nat → Int32)) (L : (Nat → Nat → Int64)) (i1 : Int32) (i2 : Int32) (i3 : Int32) (i4 : Int32) : Pc (g_269 n dp e 0 I L i1 i2 i3 i4) (F3 WI_269 WL_269 I L) := (fa_269 n dp e I L i1 i2 i3 i4).1
theorem f_269_1 (n dp : Nat) (e : EN) (I : (Nat → Nat → Int32)) (L : (Nat → Nat → Int64)) (i1 : Int32) (i2 : Int32) (i3 : Int32) (i4 : Int32) : Pc (g_269 n dp e 1 I L i1 i2 i3 i4) (F3 WI_269 WL_269 I L) := (fa_269 n dp e I L i1 i2 i3 i4).2
def WI_268 : List (Nat × Nat) := []
def WL_268 : List (Nat × Nat) := []
set_option maxHeartbeats 8000000 in
set_option maxRecDepth 100000 in
theorem fa_268 : ∀ (n dp : Nat) (e : EN) (I : (Nat → Nat → Int32)) (L : (Nat → Nat → Int64)) (i1 : Int32) (i2 : Int32), Pc (g_268 n dp e 0 I L i1 i2) (F3 WI_268 WL_268 I L) := by
  intro n
  induction n with
  | zero => intro dp e I L i1 i2; exact Pc_none
  | succ n ih =>
    intro dp e I L i1 i2
    · rw [e_268_0]
      repeat' first
        | with_reducible exact Pc_none
        | with_reducible exact Pc_s3
        | with_reducible refine Pc_ite ?_ ?_
        | ((with_reducible refine Pc_c33 (f_269_0 _ _ _ _ _ _ _ _ _) ?_ ?_ (fun _ _ _ => ?_)); exact (sbs_of rfl); exact sbs_of rfl; dsimp only)
theorem f_268_0 (n dp : Nat) (e : EN) (I : (Nat → Nat → Int32)) (L : (Nat → Nat → Int64)) (i1 : Int32) (i2 : Int32) : Pc (g_268 n dp e 0 I L i1 i2) (F3 WI_268 WL_268 I L) := (fa_268 n dp e I L i1 i2)
def WI_267 : List (Nat × Nat) := [(133, 0), (129, 0), (130, 0)]
def WL_267 : List (Nat × Nat) := []
set_option maxHeartbeats 8000000 in
set_option maxRecDepth 100000 in
theorem fa_267 : ∀ (n dp : Nat) (e : EN) (I : (Nat → Nat → Int32)) (L : (Nat → Nat → Int64)) (i1 : Int32) (i2 : Int32) (i3 : Int32) (i6 : Int32) (i7 : Int32) (i8 : Int32) (j4 : Int64), Pc (g_267 n dp e 0 I L i1 i2 i3 i6 i7 i8 j4) (F2 WI_267 WL_267 I L) ∧
    Pc (g_267 n dp e 1 I L i1 i2 i3 i6 i7 i8 j4) (F2 WI_267 WL_267 I L) ∧
    Pc (g_267 n dp e 2 I L i1 i2 i3 i6 i7 i8 j4) (F2 WI_267 WL_267 I L) ∧
    Pc (g_267 n dp e 3 I L i1 i2 i3 i6 i7 i8 j4) (F2 WI_267 WL_267 I L) := by
  intro n
  induction n with
  | zero => intro dp e I L i1 i2 i3 i6 i7 i8 j4; exact ⟨Pc_none, Pc_none, Pc_none, Pc_none⟩
  | succ n ih =>
    intro dp e I L i1 i2 i3 i6 i7 i8 j4
    refine ⟨?_, ?_, ?_, ?_⟩
    · rw [e_267_0]
      repeat' first
        | with_reducible exact Pc_none
        | with_reducible exact Pc_s2
        | with_reducible refine Pc_ite ?_ ?_
        | ((with_reducible refine Pc_c22 (f_265_0 _ _ _ _ _ _ _ _) ?_ ?_ (fun _ _ => ?_)); exact (sbs_of rfl); exact sbs_of rfl; dsimp only)
        | with_reducible exact (ih _ _ _ _ _ _ _ _ _ _ _).2.1
    · rw [e_267_1]
      repeat' first
        | with_reducible exact Pc_none
        | with_reducible exact Pc_s2
        | with_reducible refine Pc_ite ?_ ?_
        | ((with_reducible refine Pc_c32 (f_266_0 _ _ _ _ _ _ _ _ _ _) ?_ ?_ (fun _ _ _ => ?_)); exact (sbs_of rfl); exact sbs_of rfl; dsimp only)
        | ((with_reducible refine Pc_c32 (f_268_0 _ _ _ _ _ _ _) ?_ ?_ (fun _ _ _ => ?_)); exact (sbs_of rfl); exact sbs_of rfl; dsimp only)
        | with_reducible exact (ih _ _ _ _ _ _ _ _ _ _ _).2.2.1
        | with_reducible exact (ih _ _ _ _ _ _ _ _ _ _ _).2.2.2
        | ((with_reducible refine Pc_u2 ?_ (fun _ => ?_)); exact rfl)
        | with_reducible refine Pc_st (fun _ => ?_)
    · rw [e_267_2]
      repeat' first
        | with_reducible exact Pc_none
        | with_reducible exact Pc_s2
        | with_reducible exact (ih _ _ _ _ _ _ _ _ _ _ _).2.2.2
    · rw [e_267_3]
      repeat' first
        | with_reducible exact Pc_none
        | with_reducible exact Pc_s2
        | with_reducible refine Pc_ite ?_ ?_
        | with_reducible exact (ih _ _ _ _ _ _ _ _ _ _ _).2.1
        | with_reducible refine Pc_st (fun _ => ?_)
theorem f_267_0 (n dp : Nat) (e : EN) (I : (Nat → Nat → Int32)) (L : (Nat → Nat → Int64)) (i1 : Int32) (i2 : Int32) (i3 : Int32) (i6 : Int32) (i7 : Int32) (i8 : Int32) (j4 : Int64) : Pc (g_267 n dp e 0 I L i1 i2 i3 i6 i7 i8 j4) (F2 WI_267 WL_267 I L) := (fa_267 n dp e I L i1 i2 i3 i6 i7 i8 j4).1
theorem f_267_1 (n dp : Nat) (e : EN) (I : (Nat → Nat → Int32)) (L : (Nat → Nat → Int64)) (i1 : Int32) (i2 : Int32) (i3 : Int32) (i6 : Int32) (i7 : Int32) (i8 : Int32) (j4 : Int64) : Pc (g_267 n dp e 1 I L i1 i2 i3 i6 i7 i8 j4) (F2 WI_267 WL_267 I L) := (fa_267 n dp e I L i1 i2 i3 i6 i7 i8 j4).2.1
theorem f_267_2 (n dp : Nat) (e : EN) (I : (Nat → Nat → Int32)) (L : (Nat → Nat → Int64)) (i1 : Int32) (i2 : Int32) (i3 : Int32) (i6 : Int32) (i7 : Int32) (i8 : Int32) (j4 : Int64) : Pc (g_267 n dp e 2 I L i1 i2 i3 i6 i7 i8 j4) (F2 WI_267 WL_267 I L) := (fa_267 n dp e I L i1 i2 i3 i6 i7 i8 j4).2.2.1
theorem f_267_3 (n dp : Nat) (e : EN) (I : (Nat → Nat → Int32)) (L : (Nat → Nat → Int64)) (i1 : Int32) (i2 : Int32) (i3 : Int32) (i6 : Int32) (i7 : Int32) (i8 : Int32) (j4 : Int64) : Pc (g_267 n dp e 3 I L i1 i2 i3 i6 i7 i8 j4) (F2 WI_267 WL_267 I L) := (fa_267 n dp e I L i1 i2 i3 i6 i7 i8 j4).2.2.2
def WI_263 : List (Nat × Nat) := [(105, 0), (128, 0), (131, 0), (133, 0), (129, 0), (130, 0)]
def WL_263 : List (Nat × Nat) := []
set_option maxHeartbeats 8000000 in
set_option maxRecDepth 100000 in
theorem fa_263 : ∀ (n dp : Nat) (e : EN) (I : (Nat → Nat → Int32)) (L : (Nat → Nat → Int64)) (i1 : Int32) (i2 : Int32) (i3 : Int32), Pc (g_263 n dp e 0 I L i1 i2 i3) (F3 WI_263 WL_263 I L) ∧
    Pc (g_263 n dp e 1 I L i1 i2 i3) (F3 WI_263 WL_263 I L) ∧
    Pc (g_263 n dp e 2 I L i1 i2 i3) (F3 WI_263 WL_263 I L) ∧
    Pc (g_263 n dp e 3 I L i1 i2 i3) (F3 WI_263 WL_263 I L) ∧
    Pc (g_263 n dp e 4 I L i1 i2 i3) (F3 WI_263 WL_263 I L) ∧
    Pc (g_263 n dp e 5 I L i1 i2 i3) (F3 WI_263 WL_263 I L) ∧
    Pc (g_263 n dp e 6 I L i1 i2 i3) (F3 WI_263 WL_263 I L) ∧
    Pc (g_263 n dp e 7 I L i1 i2 i3) (F3 WI_263 WL_263 I L) ∧
    Pc (g_263 n dp e 8 I L i1 i2 i3) (F3 WI_263 WL_263 I L) ∧
    Pc (g_263 n dp e 9 I L i1 i2 i3) (F3 WI_263 WL_263 I L) ∧
    Pc (g_263 n dp e 10 I L i1 i2 i3) (F3 WI_263 WL_263 I L) ∧
    Pc (g_263 n dp e 11 I L i1 i2 i3) (F3 WI_263 WL_263 I L) := by
  intro n
  induction n with
  | zero => intro dp e I L i1 i2 i3; exact ⟨Pc_none, Pc_none, Pc_none, Pc_none, Pc_none, Pc_none, Pc_none, Pc_none, Pc_none, Pc_none, Pc_none, Pc_none⟩
  | succ n ih =>
    intro dp e I L i1 i2 i3
    refine ⟨?_, ?_, ?_, ?_, ?_, ?_, ?_, ?_, ?_, ?_, ?_, ?_⟩
    · rw [e_263_0]
      repeat' first
        | with_reducible exact Pc_none
        | with_reducible exact Pc_s3
        | with_reducible refine Pc_ite ?_ ?_
        | ((with_reducible refine Pc_c23 (f_264_0 _ _ _ _ _ _) ?_ ?_ (fun _ _ => ?_)); exact (sbs_of rfl); exact sbs_of rfl; dsimp only)
        | with_reducible exact (ih _ _ _ _ _ _ _).2.1
    · rw [e_263_1]
      repeat' first
        | with_reducible exact Pc_none
        | with_reducible exact Pc_s3
        | with_reducible refine Pc_ite ?_ ?_
        | with_reducible exact (ih _ _ _ _ _ _ _).2.2.2.1
        | with_reducible exact (ih _ _ _ _ _ _ _).2.2.1
    · rw [e_263_2]
      repeat' first
        | with_reducible exact Pc_none
        | with_reducible exact Pc_s3
        | with_reducible refine Pc_ite ?_ ?_
        | with_reducible exact (ih _ _ _ _ _ _ _).2.1
        | with_reducible exact (ih _ _ _ _ _ _ _).2.2.1
        | ((with_reducible refine Pc_u3 ?_ (fun _ => ?_)); exact rfl)
        | with_reducible refine Pc_st (fun _ => ?_)
    · rw [e_263_3]
      repeat' first
        | with_reducible exact Pc_none
        | with_reducible exact Pc_s3
        | with_reducible refine Pc_ite ?_ ?_
        | with_reducible exact (ih _ _ _ _ _ _ _).2.2.2.2.2.2.2.1
        | with_reducible exact (ih _ _ _ _ _ _ _).2.2.2.2.1
    · rw [e_263_4]
      repeat' first
        | with_reducible exact Pc_none
        | with_reducible exact Pc_s3
        | with_reducible refine Pc_ite ?_ ?_
        | with_reducible exact (ih _ _ _ _ _ _ _).2.2.2.1
        | with_reducible exact (ih _ _ _ _ _ _ _).2.2.2.2.2.2.1
        | ((with_reducible refine Pc_c23 (f_265_0 _ _ _ _ _ _ _ _) ?_ ?_ (fun _ _ => ?_)); exact (sbs_of rfl); exact sbs_of rfl; dsimp only)
        | with_reducible exact (ih _ _ _ _ _ _ _).2.2.2.2.2.1
    · rw [e_263_5]
      repeat' first
        | with_reducible exact Pc_none
        | with_reducible exact Pc_s3
        | with_reducible refine Pc_ite ?_ ?_
        | with_reducible exact (ih _ _ _ _ _ _ _).2.2.2.2.2.2.1
        | ((with_reducible refine Pc_c33 (f_266_0 _ _ _ _ _ _ _ _ _ _) ?_ ?_ (fun _ _ _ => ?_)); exact (sbs_of rfl); exact sbs_of rfl; dsimp only)
        | with_reducible exact (ih _ _ _ _ _ _ _).2.2.2.2.2.1
        | ((with_reducible refine Pc_u3 ?_ (fun _ => ?_)); exact rfl)
        | with_reducible refine Pc_st (fun _ => ?_)
    · rw [e_263_6]
      repeat' first
        | with_reducible exact Pc_none
        | with_reducible exact Pc_s3
        | with_reducible exact (ih _ _ _ _ _ _ _).2.2.2.2.1
    · rw [e_263_7]
      repeat' first
        | with_reducible exact Pc_none
        | with_reducible exact Pc_s3
        | with_reducible refine Pc_ite ?_ ?_
        | with_reducible exact (ih _ _ _ _ _ _ _).2.2.2.2.2.2.2.2.2.1
        | ((with_reducible refine Pc_c23 (f_265_0 _ _ _ _ _ _ _ _) ?_ ?_ (fun _ _ => ?_)); exact (sbs_of rfl); exact sbs_of rfl; dsimp only)
        | with_reducible exact (ih _ _ _ _ _ _ _).2.2.2.2.2.2.2.2.1
        | with_reducible refine Pc_st (fun _ => ?_)
    · rw [e_263_8]
      repeat' first
        | with_reducible exact Pc_none
        | with_reducible exact Pc_s3
        | with_reducible refine Pc_ite ?_ ?_
        | with_reducible exact (ih _ _ _ _ _ _ _).2.2.2.2.2.2.2.1
        | with_reducible exact (ih _ _ _ _ _ _ _).2.2.2.2.2.2.2.2.1
        | ((with_reducible refine Pc_u3 ?_ (fun _ => ?_)); exact rfl)
        | with_reducible refine Pc_st (fun _ => ?_)
    · rw [e_263_9]
      repeat' first
        | with_reducible exact Pc_none
        | with_reducible exact Pc_s3
        | with_reducible refine Pc_ite ?_ ?_
        | with_reducible exact (ih _ _ _ _ _ _ _).2.2.2.2.2.2.2.2.2.2.1
    · rw [e_263_10]
      repeat' first
        | with_reducible exact Pc_none
        | with_reducible exact Pc_s3
        | with_reducible refine Pc_ite ?_ ?_
        | with_reducible exact (ih _ _ _ _ _ _ _).2.2.2.2.2.2.2.2.2.1
        | with_reducible exact (ih _ _ _ _ _ _ _).2.2.2.2.2.2.2.2.2.2.2
        | ((with_reducible refine Pc_c23 (f_267_0 _ _ _ _ _ _ _ _ _ _ _ _) ?_ ?_ (fun _ _ => ?_)); exact (sbs_of rfl); exact sbs_of rfl; dsimp only)
    · rw [e_263_11]
      repeat' first
        | with_reducible exact Pc_none
        | with_reducible exact Pc_s3
        | with_reducible exact (ih _ _ _ _ _ _ _).2.2.2.2.2.2.2.2.2.2.1
theorem f_263_0 (n dp : Nat) (e : EN) (I : (Nat → Nat → Int32)) (L : (Nat → Nat → Int64)) (i1 : Int32) (i2 : Int32) (i3 : Int32) : Pc (g_263 n dp e 0 I L i1 i2 i3) (F3 WI_263 WL_263 I L) := (fa_263 n dp e I L i1 i2 i3).1
theorem f_263_1 (n dp : Nat) (e : EN) (I : (Nat → Nat → Int32)) (L : (Nat → Nat → Int64)) (i1 : Int32) (i2 : Int32) (i3 : Int32) : Pc (g_263 n dp e 1 I L i1 i2 i3) (F3 WI_263 WL_263 I L) := (fa_263 n dp e I L i1 i2 i3).2.1
theorem f_263_2 (n dp : Nat) (e : EN) (I : (Nat → Nat → Int32)) (L : (Nat → Nat → Int64)) (i1 : Int32) (i2 : Int32) (i3 : Int32) : Pc (g_263 n dp e 2 I L i1 i2 i3) (F3 WI_263 WL_263 I L) := (fa_263 n dp e I L i1 i2 i3).2.2.1
theorem f_263_3 (n dp : Nat) (e : EN) (I : (Nat → Nat → Int32)) (L : (Nat → Nat → Int64)) (i1 : Int32) (i2 : Int32) (i3 : Int32) : Pc (g_263 n dp e 3 I L i1 i2 i3) (F3 WI_263 WL_263 I L) := (fa_263 n dp e I L i1 i2 i3).2.2.2.1
theorem f_263_4 (n dp : Nat) (e : EN) (I : (Nat → Nat → Int32)) (L : (Nat → Nat → Int64)) (i1 : Int32) (i2 : Int32) (i3 : Int32) : Pc (g_263 n dp e 4 I L i1 i2 i3) (F3 WI_263 WL_263 I L) := (fa_263 n dp e I L i1 i2 i3).2.2.2.2.1
theorem f_263_5 (n dp : Nat) (e : EN) (I : (Nat → Nat → Int32)) (L : (Nat → Nat → Int64)) (i1 : Int32) (i2 : Int32) (i3 : Int32) : Pc (g_263 n dp e 5 I L i1 i2 i3) (F3 WI_263 WL_263 I L) := (fa_263 n dp e I L i1 i2 i3).2.2.2.2.2.1
theorem f_263_6 (n dp : Nat) (e : EN) (I : (Nat → Nat → Int32)) (L : (Nat → Nat → Int64)) (i1 : Int32) (i2 : Int32) (i3 : Int32) : Pc (g_263 n dp e 6 I L i1 i2 i3) (F3 WI_263 WL_263 I L) := (fa_263 n dp e I L i1 i2 i3).2.2.2.2.2.2.1
theorem f_263_7 (n dp : Nat) (e : EN) (I : (Nat → Nat → Int32)) (L : (Nat → Nat → Int64)) (i1 : Int32) (i2 : Int32) (i3 : Int32) : Pc (g_263 n dp e 7 I L i1 i2 i3) (F3 WI_263 WL_263 I L) := (fa_263 n dp e I L i1 i2 i3).2.2.2.2.2.2.2.1
theorem f_263_8 (n dp : Nat) (e : EN) (I : (Nat → Nat → Int32)) (L : (Nat → Nat → Int64)) (i1 : Int32) (i2 : Int32) (i3 : Int32) : Pc (g_263 n dp e 8 I L i1 i2 i3) (F3 WI_263 WL_263 I L) := (fa_263 n dp e I L i1 i2 i3).2.2.2.2.2.2.2.2.1
theorem f_263_9 (n dp : Nat) (e : EN) (I : (Nat → Nat → Int32)) (L : (Nat → Nat → Int64)) (i1 : Int32) (i2 : Int32) (i3 : Int32) : Pc (g_263 n dp e 9 I L i1 i2 i3) (F3 WI_263 WL_263 I L) := (fa_263 n dp e I L i1 i2 i3).2.2.2.2.2.2.2.2.2.1
theorem f_263_10 (n dp : Nat) (e : EN) (I : (Nat → Nat → Int32)) (L : (Nat → Nat → Int64)) (i1 : Int32) (i2 : Int32) (i3 : Int32) : Pc (g_263 n dp e 10 I L i1 i2 i3) (F3 WI_263 WL_263 I L) := (fa_263 n dp e I L i1 i2 i3).2.2.2.2.2.2.2.2.2.2.1
theorem f_263_11 (n dp : Nat) (e : EN) (I : (Nat → Nat → Int32)) (L : (Nat → Nat → Int64)) (i1 : Int32) (i2 : Int32) (i3 : Int32) : Pc (g_263 n dp e 11 I L i1 i2 i3) (F3 WI_263 WL_263 I L) := (fa_263 n dp e I L i1 i2 i3).2.2.2.2.2.2.2.2.2.2.2
def WI_261 : List (Nat × Nat) := [(105, 0), (125, 0), (120, 0), (123, 0), (124, 0), (121, 0), (122, 0), (126, 0), (127, 0), (128, 0), (131, 0), (133, 0), (129, 0), (130, 0), (135, 0), (134, 0)]
def WL_261 : List (Nat × Nat) := [(118, 0), (119, 0), (105, 0)]
set_option maxHeartbeats 8000000 in
set_option maxRecDepth 100000 in
theorem fa_261 : ∀ (n dp : Nat) (e : EN) (I : (Nat → Nat → Int32)) (L : (Nat → Nat → Int64)) (i1 : Int32) (i2 : Int32) (i3 : Int32) (i4 : Int32), Pc (g_261 n dp e 0 I L i1 i2 i3 i4) (F3 WI_261 WL_261 I L) ∧
    Pc (g_261 n dp e 1 I L i1 i2 i3 i4) (F3 WI_261 WL_261 I L) ∧
    Pc (g_261 n dp e 2 I L i1 i2 i3 i4) (F3 WI_261 WL_261 I L) ∧
    Pc (g_261 n dp e 3 I L i1 i2 i3 i4) (F3 WI_261 WL_261 I L) ∧
    Pc (g_261 n dp e 4 I L i1 i2 i3 i4) (F3 WI_261 WL_261 I L) := by
  intro n
  induction n with
  | zero => intro dp e I L i1 i2 i3 i4; exact ⟨Pc_none, Pc_none, Pc_none, Pc_none, Pc_none⟩
  | succ n ih =>
    intro dp e I L i1 i2 i3 i4
    refine ⟨?_, ?_, ?_, ?_, ?_⟩
    · rw [e_261_0]
      repeat' first
        | with_reducible exact Pc_none
        | with_reducible exact Pc_s3
        | with_reducible refine Pc_ite ?_ ?_
        | ((with_reducible refine Pc_c33 (f_262_0 _ _ _ _ _ _ _ _ _ _ _) ?_ ?_ (fun _ _ _ => ?_)); exact (sbs_of rfl); exact sbs_of rfl; dsimp only)
        | ((with_reducible refine Pc_c33 (f_263_0 _ _ _ _ _ _ _ _) ?_ ?_ (fun _ _ _ => ?_)); exact (sbs_of rfl); exact sbs_of rfl; dsimp only)
        | with_reducible exact (ih _ _ _ _ _ _ _ _).2.1
        | ((with_reducible refine Pc_u3 ?_ (fun _ => ?_)); exact rfl)
        | with_reducible refine Pc_st (fun _ => ?_)
    · rw [e_261_1]
      repeat' first
        | with_reducible exact Pc_none
        | with_reducible exact Pc_s3
        | with_reducible refine Pc_ite ?_ ?_
        | with_reducible exact (ih _ _ _ _ _ _ _ _).2.2.1
        | with_reducible exact (ih _ _ _ _ _ _ _ _).2.1
        | ((with_reducible refine Pc_u3 ?_ (fun _ => ?_)); exact rfl)
        | with_reducible refine Pc_st (fun _ => ?_)
    · rw [e_261_2]
      repeat' first
        | with_reducible exact Pc_none
        | with_reducible exact Pc_s3
        | with_reducible refine Pc_ite ?_ ?_
        | ((with_reducible refine Pc_c23 (f_265_0 _ _ _ _ _ _ _ _) ?_ ?_ (fun _ _ => ?_)); exact (sbs_of rfl); exact sbs_of rfl; dsimp only)
        | with_reducible exact (ih _ _ _ _ _ _ _ _).2.2.2.1
    · rw [e_261_3]
      repeat' first
        | with_reducible exact Pc_none
        | with_reducible exact Pc_s3
        | with_reducible refine Pc_ite ?_ ?_
        | ((with_reducible refine Pc_c33 (f_268_0 _ _ _ _ _ _ _) ?_ ?_ (fun _ _ _ => ?_)); exact (sbs_of rfl); exact sbs_of rfl; dsimp only)
        | ((with_reducible refine Pc_c33 (f_266_0 _ _ _ _ _ _ _ _ _ _) ?_ ?_ (fun _ _ _ => ?_)); exact (sbs_of rfl); exact sbs_of rfl; dsimp only)
        | with_reducible exact (ih _ _ _ _ _ _ _ _).2.2.2.2
        | with_reducible exact (ih _ _ _ _ _ _ _ _).2.2.2.1
        | ((with_reducible refine Pc_u3 ?_ (fun _ => ?_)); exact rfl)
        | with_reducible refine Pc_st (fun _ => ?_)
    · rw [e_261_4]
      repeat' first
        | with_reducible exact Pc_none
        | with_reducible exact Pc_s3
        | with_reducible refine Pc_ite ?_ ?_
        | with_reducible exact (ih _ _ _ _ _ _ _ _).2.2.1
        | with_reducible exact (ih _ _ _ _ _ _ _ _).2.2.2.2
        | ((with_reducible refine Pc_u3 ?_ (fun _ => ?_)); exact rfl)
        | with_reducible refine Pc_st (fun _ => ?_)
theorem f_261_0 (n dp : Nat) (e : EN) (I : (Nat → Nat → Int32)) (L : (Nat → Nat → Int64)) (i1 : Int32) (i2 : Int32) (i3 : Int32) (i4 : Int32) : Pc (g_261 n dp e 0 I L i1 i2 i3 i4) (F3 WI_261 WL_261 I L) := (fa_261 n dp e I L i1 i2 i3 i4).1
theorem f_261_1 (n dp : Nat) (e : EN) (I : (Nat → Nat → Int32)) (L : (Nat → Nat → Int64)) (i1 : Int32) (i2 : Int32) (i3 : Int32) (i4 : Int32) : Pc (g_261 n dp e 1 I L i1 i2 i3 i4) (F3 WI_261 WL_261 I L) := (fa_261 n dp e I L i1 i2 i3 i4).2.1
theorem f_261_2 (n dp : Nat) (e : EN) (I : (Nat → Nat → Int32)) (L : (Nat → Nat → Int64)) (i1 : Int32) (i2 : Int32) (i3 : Int32) (i4 : Int32) : Pc (g_261 n dp e 2 I L i1 i2 i3 i4) (F3 WI_261 WL_261 I L) := (fa_261 n dp e I L i1 i2 i3 i4).2.2.1
theorem f_261_3 (n dp : Nat) (e : EN) (I : (Nat → Nat → Int32)) (L : (Nat → Nat → Int64)) (i1 : Int32) (i2 : Int32) (i3 : Int32) (i4 : Int32) : Pc (g_261 n dp e 3 I L i1 i2 i3 i4) (F3 WI_261 WL_261 I L) := (fa_261 n dp e I L i1 i2 i3 i4).2.2.2.1
theorem f_261_4 (n dp : Nat) (e : EN) (I : (Nat → Nat → Int32)) (L : (Nat → Nat → Int64)) (i1 : Int32) (i2 : Int32) (i3 : Int32) (i4 : Int32) : Pc (g_261 n dp e 4 I L i1 i2 i3 i4) (F3 WI_261 WL_261 I L) := (fa_261 n dp e I L i1 i2 i3 i4).2.2.2.2
def WI_260 : List (Nat × Nat) := [(105, 0), (125, 0), (120, 0), (123, 0), (124, 0), (121, 0), (122, 0), (126, 0), (127, 0), (128, 0), (131, 0), (133, 0), (129, 0), (130, 0), (135, 0), (134, 0)]
def WL_260 : List (Nat × Nat) := [(118, 0), (119, 0), (105, 0)]
set_option maxHeartbeats 8000000 in
set_option maxRecDepth 100000 in
theorem fa_260 : ∀ (n dp : Nat) (e : EN) (I : (Nat → Nat → Int32)) (L : (Nat → Nat → Int64)) (i1 : Int32), Pc (g_260 n dp e 0 I L i1) (F3 WI_260 WL_260 I L) := by
  intro n
  induction n with
  | zero => intro dp e I L i1; exact Pc_none
  | succ n ih =>
    intro dp e I L i1
    · rw [e_260_0]
      repeat' first
        | with_reducible exact Pc_none
        | with_reducible exact Pc_s3
        | with_reducible refine Pc_ite ?_ ?_
        | ((with_reducible refine Pc_c33 (f_193_0 _ _ _ _ _ _ _ _) ?_ ?_ (fun _ _ _ => ?_)); exact (sbs_of rfl); exact sbs_of rfl; dsimp only)
        | ((with_reducible refine Pc_c33 (f_261_0 _ _ _ _ _ _ _ _ _) ?_ ?_ (fun _ _ _ => ?_)); exact (sbs_of rfl); exact sbs_of rfl; dsimp only)
        | ((with_reducible refine Pc_u3 ?_ (fun _ => ?_)); exact rfl)
        | with_reducible refine Pc_st (fun _ => ?_)
theorem f_260_0 (n dp : Nat) (e : EN) (I : (Nat → Nat → Int32)) (L : (Nat → Nat → Int64)) (i1 : Int32) : Pc (g_260 n dp e 0 I L i1) (F3 WI_260 WL_260 I L) := (fa_260 n dp e I L i1)
def WI_270 : List (Nat × Nat) := [(105, 0), (125, 0), (120, 0), (123, 0), (124, 0), (121, 0), (122, 0), (126, 0), (127, 0), (128, 0), (131, 0), (133, 0), (129, 0), (130, 0), (135, 0), (134, 0)]
def WL_270 : List (Nat × Nat) := [(118, 0), (119, 0), (105, 0)]
set_option maxHeartbeats 8000000 in
set_option maxRecDepth 100000 in
theorem fa_270 : ∀ (n dp : Nat) (e : EN) (I : (Nat → Nat → Int32)) (L : (Nat → Nat → Int64)) (i1 : Int32), Pc (g_270 n dp e 0 I L i1) (F3 WI_270 WL_270 I L) := by
  intro n
  induction n with
  | zero => intro dp e I L i1; exact Pc_none
  | succ n ih =>
    intro dp e I L i1
    · rw [e_270_0]
      repeat' first
        | with_reducible exact Pc_none
        | with_reducible exact Pc_s3
        | with_reducible refine Pc_ite ?_ ?_
        | ((with_reducible refine Pc_c33 (f_261_0 _ _ _ _ _ _ _ _ _) ?_ ?_ (fun _ _ _ => ?_)); exact (sbs_of rfl); exact sbs_of rfl; dsimp only)
        | ((with_reducible refine Pc_c33 (f_198_0 _ _ _ _ _) ?_ ?_ (fun _ _ _ => ?_)); exact (sbs_of rfl); exact sbs_of rfl; dsimp only)
        | ((with_reducible refine Pc_c33 (f_193_0 _ _ _ _ _ _ _ _) ?_ ?_ (fun _ _ _ => ?_)); exact (sbs_of rfl); exact sbs_of rfl; dsimp only)
        | ((with_reducible refine Pc_u3 ?_ (fun _ => ?_)); exact rfl)
        | with_reducible refine Pc_st (fun _ => ?_)
theorem f_270_0 (n dp : Nat) (e : EN) (I : (Nat → Nat → Int32)) (L : (Nat → Nat → Int64)) (i1 : Int32) : Pc (g_270 n dp e 0 I L i1) (F3 WI_270 WL_270 I L) := (fa_270 n dp e I L i1)
def WI_272 : List (Nat × Nat) := []
def WL_272 : List (Nat × Nat) := []
set_option maxHeartbeats 8000000 in
set_option maxRecDepth 100000 in
theorem fa_272 : ∀ (n dp : Nat) (e : EN) (I : (Nat → Nat → Int32)) (L : (Nat → Nat → Int64)) (i0 : Int32) (i1 : Int32), Pc (g_272 n dp e 0 I L i0 i1) (F3 WI_272 WL_272 I L) := by
  intro n
  induction n with
  | zero => intro dp e I L i0 i1; exact Pc_none
  | succ n ih =>
    intro dp e I L i0 i1
    · rw [e_272_0]
      repeat' first
        | with_reducible exact Pc_none
        | with_reducible exact Pc_s3
        | with_reducible refine Pc_ite ?_ ?_
theorem f_272_0 (n dp : Nat) (e : EN) (I : (Nat → Nat → Int32)) (L : (Nat → Nat → Int64)) (i0 : Int32) (i1 : Int32) : Pc (g_272 n dp e 0 I L i0 i1) (F3 WI_272 WL_272 I L) := (fa_272 n dp e I L i0 i1)
def WI_271 : List (Nat × Nat) := [(105, 0), (125, 0), (120, 0), (123, 0), (124, 0), (121, 0), (122, 0), (126, 0), (127, 0), (128, 0), (131, 0), (133, 0), (129, 0), (130, 0), (135, 0), (134, 0)]
def WL_271 : List (Nat × Nat) := [(118, 0), (119, 0), (105, 0)]
set_option maxHeartbeats 8000000 in
set_option maxRecDepth 100000 in
theorem fa_271 : ∀ (n dp : Nat) (e : EN) (I : (Nat → Nat → Int32)) (L : (Nat → Nat → Int64)) (i1 : Int32) (i2 : Int32), Pc (g_271 n dp e 0 I L i1 i2) (F3 WI_271 WL_271 I L) := by
  intro n
  induction n with
  | zero => intro dp e I L i1 i2; exact Pc_none
  | succ n ih =>
    intro dp e I L i1 i2
    · rw [e_271_0]
      repeat' first
        | with_reducible exact Pc_none
        | with_reducible exact Pc_s3
        | with_reducible refine Pc_ite ?_ ?_
        | ((with_reducible refine Pc_c33 (f_202_0 _ _ _ _ _ _) ?_ ?_ (fun _ _ _ => ?_)); exact (sbs_of rfl); exact sbs_of rfl; dsimp only)
        | ((with_reducible refine Pc_c33 (f_193_0 _ _ _ _ _ _ _ _) ?_ ?_ (fun _ _ _ => ?_)); exact (sbs_of rfl); exact sbs_of rfl; dsimp only)
        | ((with_reducible refine Pc_c33 (f_261_0 _ _ _ _ _ _ _ _ _) ?_ ?_ (fun _ _ _ => ?_)); exact (sbs_of rfl); exact sbs_of rfl; dsimp only)
        | ((with_reducible refine Pc_c33 (f_272_0 _ _ _ _ _ _ _) ?_ ?_ (fun _ _ _ => ?_)); exact (sbs_of rfl); exact sbs_of rfl; dsimp only)
        | ((with_reducible refine Pc_u3 ?_ (fun _ => ?_)); exact rfl)
        | with_reducible refine Pc_st (fun _ => ?_)
theorem f_271_0 (n dp : Nat) (e : EN) (I : (Nat → Nat → Int32)) (L : (Nat → Nat → Int64)) (i1 : Int32) (i2 : Int32) : Pc (g_271 n dp e 0 I L i1 i2) (F3 WI_271 WL_271 I L) := (fa_271 n dp e I L i1 i2)
def WI_274 : List (Nat × Nat) := [(105, 0), (125, 0), (120, 0), (123, 0), (124, 0), (121, 0), (122, 0), (126, 0), (127, 0), (128, 0), (131, 0), (133, 0), (129, 0), (130, 0)]
def WL_274 : List (Nat × Nat) := [(118, 0), (119, 0), (105, 0)]
set_option maxHeartbeats 8000000 in
set_option maxRecDepth 100000 in
theorem fa_274 : ∀ (n dp : Nat) (e : EN) (I : (Nat → Nat → Int32)) (L : (Nat → Nat → Int64)) (i1 : Int32) (i2 : Int32), Pc (g_274 n dp e 0 I L i1 i2) (F3 WI_274 WL_274 I L) := by
  intro n
  induction n with
  | zero => intro dp e I L i1 i2; exact Pc_none
  | succ n ih =>
    intro dp e I L i1 i2
    · rw [e_274_0]
      repeat' first
        | with_reducible exact Pc_none
        | with_reducible exact Pc_s3
        | with_reducible refine Pc_ite ?_ ?_
        | ((with_reducible refine Pc_c33 (f_262_0 _ _ _ _ _ _ _ _ _ _ _) ?_ ?_ (fun _ _ _ => ?_)); exact (sbs_of rfl); exact sbs_of rfl; dsimp only)
        | ((with_reducible refine Pc_c33 (f_263_0 _ _ _ _ _ _ _ _) ?_ ?_ (fun _ _ _ => ?_)); exact (sbs_of rfl); exact sbs_of rfl; dsimp only)
theorem f_274_0 (n dp : Nat) (e : EN) (I : (Nat → Nat → Int32)) (L : (Nat → Nat → Int64)) (i1 : Int32) (i2 : Int32) : Pc (g_274 n dp e 0 I L i1 i2) (F3 WI_274 WL_274 I L) := (fa_274 n dp e I L i1 i2)
def WI_273 : List (Nat × Nat) := [(105, 0), (125, 0), (120, 0), (123, 0), (124, 0), (121, 0), (122, 0), (126, 0), (127, 0), (128, 0), (131, 0), (133, 0), (129, 0), (130, 0), (135, 0), (134, 0)]
def WL_273 : List (Nat × Nat) := [(118, 0), (119, 0), (105, 0)]
set_option maxHeartbeats 8000000 in
set_option maxRecDepth 100000 in
theorem fa_273 : ∀ (n dp : Nat) (e : EN) (I : (Nat → Nat → Int32)) (L : (Nat → Nat → Int64)) (i1 : Int32), Pc (g_273 n dp e 0 I L i1) (F3 WI_273 WL_273 I L) := by
  intro n
  induction n with
  | zero => intro dp e I L i1; exact Pc_none
  | succ n ih =>
    intro dp e I L i1
    · rw [e_273_0]
      repeat' first
        | with_reducible exact Pc_none
        | with_reducible exact Pc_s3
        | with_reducible refine Pc_ite ?_ ?_
        | ((with_reducible refine Pc_c33 (f_197_0 _ _ _ _ _ _) ?_ ?_ (fun _ _ _ => ?_)); exact (sbs_of rfl); exact sbs_of rfl; dsimp only)
        | ((with_reducible refine Pc_c33 (f_261_0 _ _ _ _ _ _ _ _ _) ?_ ?_ (fun _ _ _ => ?_)); exact (sbs_of rfl); exact sbs_of rfl; dsimp only)
        | ((with_reducible refine Pc_c33 (f_198_0 _ _ _ _ _) ?_ ?_ (fun _ _ _ => ?_)); exact (sbs_of rfl); exact sbs_of rfl; dsimp only)
        | ((with_reducible refine Pc_c33 (f_274_0 _ _ _ _ _ _ _) ?_ ?_ (fun _ _ _ => ?_)); exact (sbs_of rfl); exact sbs_of rfl; dsimp only)
        | ((with_reducible refine Pc_u3 ?_ (fun _ => ?_)); exact rfl)
        | with_reducible refine Pc_st (fun _ => ?_)
theorem f_273_0 (n dp : Nat) (e : EN) (I : (Nat → Nat → Int32)) (L : (Nat → Nat → Int64)) (i1 : Int32) : Pc (g_273 n dp e 0 I L i1) (F3 WI_273 WL_273 I L) := (fa_273 n dp e I L i1)
def WI_275 : List (Nat × Nat) := [(105, 0), (125, 0), (120, 0), (123, 0), (124, 0), (121, 0), (122, 0), (126, 0), (127, 0), (128, 0), (131, 0), (133, 0), (129, 0), (130, 0), (135, 0), (134, 0)]
def WL_275 : List (Nat × Nat) := [(118, 0), (119, 0), (105, 0)]
set_option maxHeartbeats 8000000 in
set_option maxRecDepth 100000 in
theorem fa_275 : ∀ (n dp : Nat) (e : EN) (I : (Nat → Nat → Int32)) (L : (Nat → Nat → Int64)) (i1 : Int32), Pc (g_275 n dp e 0 I L i1) (F3 WI_275 WL_275 I L) := by
  intro n
  induction n with
  | zero => intro dp e I L i1; exact Pc_none
  | succ n ih =>
    intro dp e I L i1
    · rw [e_275_0]
      repeat' first
        | with_reducible exact Pc_none
        | with_reducible exact Pc_s3
        | with_reducible refine Pc_ite ?_ ?_
        | ((with_reducible refine Pc_c33 (f_197_0 _ _ _ _ _ _) ?_ ?_ (fun _ _ _ => ?_)); exact (sbs_of rfl); exact sbs_of rfl; dsimp only)
        | ((with_reducible refine Pc_c33 (f_261_0 _ _ _ _ _ _ _ _ _) ?_ ?_ (fun _ _ _ => ?_)); exact (sbs_of rfl); exact sbs_of rfl; dsimp only)
        | ((with_reducible refine Pc_c33 (f_274_0 _ _ _ _ _ _ _) ?_ ?_ (fun _ _ _ => ?_)); exact (sbs_of rfl); exact sbs_of rfl; dsimp only)
        | ((with_reducible refine Pc_u3 ?_ (fun _ => ?_)); exact rfl)
        | with_reducible refine Pc_st (fun _ => ?_)
theorem f_275_0 (n dp : Nat) (e : EN) (I : (Nat → Nat → Int32)) (L : (Nat → Nat → Int64)) (i1 : Int32) : Pc (g_275 n dp e 0 I L i1) (F3 WI_275 WL_275 I L) := (fa_275 n dp e I L i1)
def WI_276 : List (Nat × Nat) := [(105, 0), (125, 0), (120, 0), (123, 0), (124, 0), (121, 0), (122, 0), (126, 0), (127, 0), (128, 0), (131, 0), (133, 0), (129, 0), (130, 0), (135, 0), (134, 0)]
def WL_276 : List (Nat × Nat) := [(118, 0), (119, 0), (105, 0)]
set_option maxHeartbeats 8000000 in
set_option maxRecDepth 100000 in
theorem fa_276 : ∀ (n dp : Nat) (e : EN) (I : (Nat → Nat → Int32)) (L : (Nat → Nat → Int64)) (i1 : Int32) (i2 : Int32), Pc (g_276 n dp e 0 I L i1 i2) (F3 WI_276 WL_276 I L) ∧
    Pc (g_276 n dp e 1 I L i1 i2) (F3 WI_276 WL_276 I L) := by
  intro n
  induction n with
  | zero => intro dp e I L i1 i2; exact ⟨Pc_none, Pc_none⟩
  | succ n ih =>
    intro dp e I L i1 i2
    refine ⟨?_, ?_⟩
    · rw [e_276_0]
      repeat' first
        | with_reducible exact Pc_none
        | with_reducible exact Pc_s3
        | with_reducible refine Pc_ite ?_ ?_
        | ((with_reducible refine Pc_c33 (f_202_0 _ _ _ _ _ _) ?_ ?_ (fun _ _ _ => ?_)); exact (sbs_of rfl); exact sbs_of rfl; dsimp only)
        | ((with_reducible refine Pc_c33 (f_261_0 _ _ _ _ _ _ _ _ _) ?_ ?_ (fun _ _ _ => ?_)); exact (sbs_of rfl); exact sbs_of rfl; dsimp only)
        | ((with_reducible refine Pc_c33 (f_204_0 _ _ _ _ _ _ _) ?_ ?_ (fun _ _ _ => ?_)); exact (sbs_of rfl); exact sbs_of rfl; dsimp only)
        | with_reducible exact (ih _ _ _ _ _ _).2
        | ((with_reducible refine Pc_u3 ?_ (fun _ => ?_)); exact rfl)
        | with_reducible refine Pc_st (fun _ => ?_)
    · rw [e_276_1]
      repeat' first
        | with_reducible exact Pc_none
        | with_reducible exact Pc_s3
        | with_reducible refine Pc_ite ?_ ?_
        | ((with_reducible refine Pc_c33 (f_262_0 _ _ _ _ _ _ _ _ _ _ _) ?_ ?_ (fun _ _ _ => ?_)); exact (sbs_of rfl); exact sbs_of rfl; dsimp only)
        | ((with_reducible refine Pc_c33 (f_263_0 _ _ _ _ _ _ _ _) ?_ ?_ (fun _ _ _ => ?_)); exact (sbs_of rfl); exact sbs_of rfl; dsimp only)
        | ((with_reducible refine Pc_u3 ?_ (fun _ => ?_)); exact rfl)
        | with_reducible refine Pc_st (fun _ => ?_)
theorem f_276_0 (n dp : Nat) (e : EN) (I : (Nat → Nat → Int32)) (L : (Nat → Nat → Int64)) (i1 : Int32) (i2 : Int32) : Pc (g_276 n dp e 0 I L i1 i2) (F3 WI_276 WL_276 I L) := (fa_276 n dp e I L i1 i2).1
theorem f_276_1 (n dp : Nat) (e : EN) (I : (Nat → Nat → Int32)) (L : (Nat → Nat → Int64)) (i1 : Int32) (i2 : Int32) : Pc (g_276 n dp e 1 I L i1 i2) (F3 WI_276 WL_276 I L) := (fa_276 n dp e I L i1 i2).2
def WI_277 : List (Nat × Nat) := [(105, 0), (125, 0), (120, 0), (123, 0), (124, 0), (121, 0), (122, 0), (126, 0), (127, 0), (128, 0), (131, 0), (133, 0), (129, 0), (130, 0), (135, 0), (134, 0), (132, 0)]
def WL_277 : List (Nat × Nat) := [(118, 0), (119, 0), (105, 0)]
set_option maxHeartbeats 8000000 in
set_option maxRecDepth 100000 in
theorem fa_277 : ∀ (n dp : Nat) (e : EN) (I : (Nat → Nat → Int32)) (L : (Nat → Nat → Int64)) (i1 : Int32) (i2 : Int32) (i3 : Int32) (i4 : Int32) (i5 : Int32), Pc (g_277 n dp e 0 I L i1 i2 i3 i4 i5) (F3 WI_277 WL_277 I L) ∧
    Pc (g_277 n dp e 1 I L i1 i2 i3 i4 i5) (F3 WI_277 WL_277 I L) ∧
    Pc (g_277 n dp e 2 I L i1 i2 i3 i4 i5) (F3 WI_277 WL_277 I L) := by
  intro n
  induction n with
  | zero => intro dp e I L i1 i2 i3 i4 i5; exact ⟨Pc_none, Pc_none, Pc_none⟩
  | succ n ih =>
    intro dp e I L i1 i2 i3 i4 i5
    refine ⟨?_, ?_, ?_⟩
    · rw [e_277_0]
      repeat' first
        | with_reducible exact Pc_none
        | with_reducible exact Pc_s3
        | with_reducible refine Pc_ite ?_ ?_
        | ((with_reducible refine Pc_c33 (f_197_0 _ _ _ _ _ _) ?_ ?_ (fun _ _ _ => ?_)); exact (sbs_of rfl); exact sbs_of rfl; dsimp only)
        | ((with_reducible refine Pc_c33 (f_193_0 _ _ _ _ _ _ _ _) ?_ ?_ (fun _ _ _ => ?_)); exact (sbs_of rfl); exact sbs_of rfl; dsimp only)
        | ((with_reducible refine Pc_c33 (f_261_0 _ _ _ _ _ _ _ _ _) ?_ ?_ (fun _ _ _ => ?_)); exact (sbs_of rfl); exact sbs_of rfl; dsimp only)
        | with_reducible exact (ih _ _ _ _ _ _ _ _ _).2.1
        | ((with_reducible refine Pc_u3 ?_ (fun _ => ?_)); exact rfl)
        | with_reducible refine Pc_st (fun _ => ?_)
    · rw [e_277_1]
      repeat' first
        | with_reducible exact Pc_none
        | with_reducible exact Pc_s3
        | with_reducible refine Pc_ite ?_ ?_
        | ((with_reducible refine Pc_c33 (f_198_0 _ _ _ _ _) ?_ ?_ (fun _ _ _ => ?_)); exact (sbs_of rfl); exact sbs_of rfl; dsimp only)
        | ((with_reducible refine Pc_c33 (f_262_0 _ _ _ _ _ _ _ _ _ _ _) ?_ ?_ (fun _ _ _ => ?_)); exact (sbs_of rfl); exact sbs_of rfl; dsimp only)
        | ((with_reducible refine Pc_c33 (f_263_0 _ _ _ _ _ _ _ _) ?_ ?_ (fun _ _ _ => ?_)); exact (sbs_of rfl); exact sbs_of rfl; dsimp only)
        | with_reducible exact (ih _ _ _ _ _ _ _ _ _).2.2
        | ((with_reducible refine Pc_u3 ?_ (fun _ => ?_)); exact rfl)
        | with_reducible refine Pc_st (fun _ => ?_)
    · rw [e_277_2]
      repeat' first
        | with_reducible exact Pc_none
        | with_reducible exact Pc_s3
        | with_reducible exact (ih _ _ _ _ _ _ _ _ _).2.1
theorem f_277_0 (n dp : Nat) (e : EN) (I : (Nat → Nat → Int32)) (L : (Nat → Nat → Int64)) (i1 : Int32) (i2 : Int32) (i3 : Int32) (i4 : Int32) (i5 : Int32) : Pc (g_277 n dp e 0 I L i1 i2 i3 i4 i5) (F3 WI_277 WL_277 I L) := (fa_277 n dp e I L i1 i2 i3 i4 i5).1
theorem f_277_1 (n dp : Nat) (e : EN) (I : (Nat → Nat → Int32)) (L : (Nat → Nat → Int64)) (i1 : Int32) (i2 : Int32) (i3 : Int32) (i4 : Int32) (i5 : Int32) : Pc (g_277 n dp e 1 I L i1 i2 i3 i4 i5) (F3 WI_277 WL_277 I L) := (fa_277 n dp e I L i1 i2 i3 i4 i5).2.1
theorem f_277_2 (n dp : Nat) (e : EN) (I : (Nat → Nat → Int32)) (L : (Nat → Nat → Int64)) (i1 : Int32) (i2 : Int32) (i3 : Int32) (i4 : Int32) (i5 : Int32) : Pc (g_277 n dp e 2 I L i1 i2 i3 i4 i5) (F3 WI_277 WL_277 I L) := (fa_277 n dp e I L i1 i2 i3 i4 i5).2.2
def WI_278 : List (Nat × Nat) := [(105, 0), (106, 0), (107, 0)]
def WL_278 : List (Nat × Nat) := []
set_option maxHeartbeats 8000000 in
set_option maxRecDepth 100000 in
theorem fa_278 : ∀ (n dp : Nat) (e : EN) (I : (Nat → Nat → Int32)) (L : (Nat → Nat → Int64)) (i1 : Int32) (i2 : Int32), Pc (g_278 n dp e 0 I L i1 i2) (F3 WI_278 WL_278 I L) := by
  intro n
  induction n with
  | zero => intro dp e I L i1 i2; exact Pc_none
  | succ n ih =>
    intro dp e I L i1 i2
    · rw [e_278_0]
      repeat' first
        | with_reducible exact Pc_none
        | with_reducible exact Pc_s3
        | with_reducible refine Pc_ite ?_ ?_
        | ((with_reducible refine Pc_c33 (f_193_0 _ _ _ _ _ _ _ _) ?_ ?_ (fun _ _ _ => ?_)); exact (sbs_of rfl); exact sbs_of rfl; dsimp only)
        | ((with_reducible refine Pc_c33 (f_194_0 _ _ _ _ _ _) ?_ ?_ (fun _ _ _ => ?_)); exact (sbs_of rfl); exact sbs_of rfl; dsimp only)
        | ((with_reducible refine Pc_c33 (f_199_0 _ _ _ _ _ _ _) ?_ ?_ (fun _ _ _ => ?_)); exact (sbs_of rfl); exact sbs_of rfl; dsimp only)
        | ((with_reducible refine Pc_u3 ?_ (fun _ => ?_)); exact rfl)
        | with_reducible refine Pc_st (fun _ => ?_)
theorem f_278_0 (n dp : Nat) (e : EN) (I : (Nat → Nat → Int32)) (L : (Nat → Nat → Int64)) (i1 : Int32) (i2 : Int32) : Pc (g_278 n dp e 0 I L i1 i2) (F3 WI_278 WL_278 I L) := (fa_278 n dp e I L i1 i2)
def WI_280 : List (Nat × Nat) := []
def WL_280 : List (Nat × Nat) := []
set_option maxHeartbeats 8000000 in
set_option maxRecDepth 100000 in
theorem fa_280 : ∀ (n dp : Nat) (e : EN) (I : (Nat → Nat → Int32)) (L : (Nat → Nat → Int64)) (i1 : Int32), Pc (g_280 n dp e 0 I L i1) (F3 WI_280 WL_280 I L) := by
  intro n
  induction n with
  | zero => intro dp e I L i1; exact Pc_none
  | succ n ih =>
    intro dp e I L i1
    · rw [e_280_0]
      repeat' first
        | with_reducible exact Pc_none
        | with_reducible exact Pc_s3
        | with_reducible refine Pc_ite ?_ ?_
theorem f_280_0 (n dp : Nat) (e : EN) (I : (Nat → Nat → Int32)) (L : (Nat → Nat → Int64)) (i1 : Int32) : Pc (g_280 n dp e 0 I L i1) (F3 WI_280 WL_280 I L) := (fa_280 n dp e I L i1)
def WI_281 : List (Nat × Nat) := []
def WL_281 : List (Nat × Nat) := []
set_option maxHeartbeats 8000000 in
set_option maxRecDepth 100000 in
theorem fa_281 : ∀ (n dp : Nat) (e : EN) (I : (Nat → Nat → Int32)) (L : (Nat → Nat → Int64)) (i1 : Int32), Pc (g_281 n dp e 0 I L i1) (F3 WI_281 WL_281 I L) := by
  intro n
  induction n with
  | zero => intro dp e I L i1; exact Pc_none
  | succ n ih =>
    intro dp e I L i1
    · rw [e_281_0]
      repeat' first
        | with_reducible exact Pc_none
        | with_reducible exact Pc_s3
        | with_reducible refine Pc_ite ?_ ?_
        | ((with_reducible refine Pc_c33 (f_280_0 _ _ _ _ _ _) ?_ ?_ (fun _ _ _ => ?_)); exact (sbs_of rfl); exact sbs_of rfl; dsimp only)
theorem f_281_0 (n dp : Nat) (e : EN) (I : (Nat → Nat → Int32)) (L : (Nat → Nat → Int64)) (i1 : Int32) : Pc (g_281 n dp e 0 I L i1) (F3 WI_281 WL_281 I L) := (fa_281 n dp e I L i1)
def WI_279 : List (Nat × Nat) := [(105, 0), (125, 0), (120, 0), (123, 0), (124, 0), (121, 0), (122, 0), (126, 0), (127, 0), (128, 0), (131, 0), (133, 0), (129, 0), (130, 0), (135, 0), (134, 0)]
def WL_279 : List (Nat × Nat) := [(118, 0), (119, 0), (105, 0)]
set_option maxHeartbeats 8000000 in
set_option maxRecDepth 100000 in
theorem fa_279 : ∀ (n dp : Nat) (e : EN) (I : (Nat → Nat → Int32)) (L : (Nat → Nat → Int64)) (i1 : Int32) (i2 : Int32) (i3 : Int32) (i4 : Int32) (i5 : Int32) (i6 : Int32) (i7 : Int32), Pc (g_279 n dp e 0 I L i1 i2 i3 i4 i5 i6 i7) (F3 WI_279 WL_279 I L) ∧
    Pc (g_279 n dp e 1 I L i1 i2 i3 i4 i5 i6 i7) (F3 WI_279 WL_279 I L) ∧
    Pc (g_279 n dp e 2 I L i1 i2 i3 i4 i5 i6 i7) (F3 WI_279 WL_279 I L) ∧
    Pc (g_279 n dp e 3 I L i1 i2 i3 i4 i5 i6 i7) (F3 WI_279 WL_279 I L) := by
  intro n
  induction n with
  | zero => intro dp e I L i1 i2 i3 i4 i5 i6 i7; exact ⟨Pc_none, Pc_none, Pc_none, Pc_none⟩
  | succ n ih =>
    intro dp e I L i1 i2 i3 i4 i5 i6 i7
    refine ⟨?_, ?_, ?_, ?_⟩
    · rw [e_279_0]
      repeat' first
        | with_reducible exact Pc_none
        | with_reducible exact Pc_s3
        | with_reducible refine Pc_ite ?_ ?_
        | ((with_reducible refine Pc_c33 (f_193_0 _ _ _ _ _ _ _ _) ?_ ?_ (fun _ _ _ => ?_)); exact (sbs_of rfl); exact sbs_of rfl; dsimp only)
        | ((with_reducible refine Pc_c33 (f_261_0 _ _ _ _ _ _ _ _ _) ?_ ?_ (fun _ _ _ => ?_)); exact (sbs_of rfl); exact sbs_of rfl; dsimp only)
        | with_reducible exact (ih _ _ _ _ _ _ _ _ _ _ _).2.1
        | ((with_reducible refine Pc_u3 ?_ (fun _ => ?_)); exact rfl)
        | with_reducible refine Pc_st (fun _ => ?_)
    · rw [e_279_1]
      repeat' first
        | with_reducible exact Pc_none
        | with_reducible exact Pc_s3
        | with_reducible refine Pc_ite ?_ ?_
        | with_reducible exact (ih _ _ _ _ _ _ _ _ _ _ _).2.2.2
        | with_reducible exact (ih _ _ _ _ _ _ _ _ _ _ _).2.2.1
    · rw [e_279_2]
      repeat' first
        | with_reducible exact Pc_none
        | with_reducible exact Pc_s3
        | with_reducible refine Pc_ite ?_ ?_
        | ((with_reducible refine Pc_c33 (f_198_0 _ _ _ _ _) ?_ ?_ (fun _ _ _ => ?_)); exact (sbs_of rfl); exact sbs_of rfl; dsimp only)
        | ((with_reducible refine Pc_c33 (f_272_0 _ _ _ _ _ _ _) ?_ ?_ (fun _ _ _ => ?_)); exact (sbs_of rfl); exact sbs_of rfl; dsimp only)
        | with_reducible exact (ih _ _ _ _ _ _ _ _ _ _ _).2.1
        | ((with_reducible refine Pc_c33 (f_280_0 _ _ _ _ _ _) ?_ ?_ (fun _ _ _ => ?_)); exact (sbs_of rfl); exact sbs_of rfl; dsimp only)
        | ((with_reducible refine Pc_c33 (f_281_0 _ _ _ _ _ _) ?_ ?_ (fun _ _ _ => ?_)); exact (sbs_of rfl); exact sbs_of rfl; dsimp only)
        | with_reducible exact (ih _ _ _ _ _ _ _ _ _ _ _).2.2.1
        | with_reducible refine Pc_st (fun _ => ?_)
    · rw [e_279_3]
      repeat' first
        | with_reducible exact Pc_none
        | with_reducible exact Pc_s3
        | with_reducible refine Pc_ite ?_ ?_
        | ((with_reducible refine Pc_c33 (f_198_0 _ _ _ _ _) ?_ ?_ (fun _ _ _ => ?_)); exact (sbs_of rfl); exact sbs_of rfl; dsimp only)
        | ((with_reducible refine Pc_c33 (f_281_0 _ _ _ _ _ _) ?_ ?_ (fun _ _ _ => ?_)); exact (sbs_of rfl); exact sbs_of rfl; dsimp only)
        | with_reducible exact (ih _ _ _ _ _ _ _ _ _ _ _).2.2.2
theorem f_279_0 (n dp : Nat) (e : EN) (I : (Nat → Nat → Int32)) (L : (Nat → Nat → Int64)) (i1 : Int32) (i2 : Int32) (i3 : Int32) (i4 : Int32) (i5 : Int32) (i6 : Int32) (i7 : Int32) : Pc (g_279 n dp e 0 I L i1 i2 i3 i4 i5 i6 i7) (F3 WI_279 WL_279 I L) := (fa_279 n dp e I L i1 i2 i3 i4 i5 i6 i7).1
theorem f_279_1 (n dp : Nat) (e : EN) (I : (Nat → Nat → Int32)) (L : (Nat → Nat → Int64)) (i1 : Int32) (i2 : Int32) (i3 : Int32) (i4 : Int32) (i5 : Int32) (i6 : Int32) (i7 : Int32) : Pc (g_279 n dp e 1 I L i1 i2 i3 i4 i5 i6 i7) (F3 WI_279 WL_279 I L) := (fa_279 n dp e I L i1 i2 i3 i4 i5 i6 i7).2.1
theorem f_279_2 (n dp : Nat) (e : EN) (I : (Nat → Nat → Int32)) (L : (Nat → Nat → Int64)) (i1 : Int32) (i2 : Int32) (i3 : Int32) (i4 : Int32) (i5 : Int32) (i6 : Int32) (i7 : Int32) : Pc (g_279 n dp e 2 I L i1 i2 i3 i4 i5 i6 i7) (F3 WI_279 WL_279 I L) := (fa_279 n dp e I L i1 i2 i3 i4 i5 i6 i7).2.2.1
theorem f_279_3 (n dp : Nat) (e : EN) (I : (Nat → Nat → Int32)) (L : (Nat → Nat → Int64)) (i1 : Int32) (i2 : Int32) (i3 : Int32) (i4 : Int32) (i5 : Int32) (i6 : Int32) (i7 : Int32) : Pc (g_279 n dp e 3 I L i1 i2 i3 i4 i5 i6 i7) (F3 WI_279 WL_279 I L) := (fa_279 n dp e I L i1 i2 i3 i4 i5 i6 i7).2.2.2
def WI_284 : List (Nat × Nat) := [(124, 0)]
def WL_284 : List (Nat × Nat) := []
set_option maxHeartbeats 8000000 in
set_option maxRecDepth 100000 in
theorem fa_284 : ∀ (n dp : Nat) (e : EN) (I : (Nat → Nat → Int32)) (L : (Nat → Nat → Int64)) (i1 : Int32) (i2 : Int32) (i3 : Int32) (i4 : Int32) (i5 : Int32) (i6 : Int32), Pc (g_284 n dp e 0 I L i1 i2 i3 i4 i5 i6) (F3 WI_284 WL_284 I L) ∧
    Pc (g_284 n dp e 1 I L i1 i2 i3 i4 i5 i6) (F3 WI_284 WL_284 I L) ∧
    Pc (g_284 n dp e 2 I L i1 i2 i3 i4 i5 i6) (F3 WI_284 WL_284 I L) ∧
    Pc (g_284 n dp e 3 I L i1 i2 i3 i4 i5 i6) (F3 WI_284 WL_284 I L) ∧
    Pc (g_284 n dp e 4 I L i1 i2 i3 i4 i5 i6) (F3 WI_284 WL_284 I L) := by
  intro n
  induction n with
  | zero => intro dp e I L i1 i2 i3 i4 i5 i6; exact ⟨Pc_none, Pc_none, Pc_none, Pc_none, Pc_none⟩
  | succ n ih =>
    intro dp e I L i1 i2 i3 i4 i5 i6
    refine ⟨?_, ?_, ?_, ?_, ?_⟩
    · rw [e_284_0]
      repeat' first
        | with_reducible exact Pc_none
        | with_reducible exact Pc_s3
        | with_reducible exact (ih _ _ _ _ _ _ _ _ _ _).2.1
    · rw [e_284_1]
      repeat' first
        | with_reducible exact Pc_none
        | with_reducible exact Pc_s3
        | with_reducible refine Pc_ite ?_ ?_
        | with_reducible exact (ih _ _ _ _ _ _ _ _ _ _).2.2.1
        | with_reducible exact (ih _ _ _ _ _ _ _ _ _ _).2.1
        | ((with_reducible refine Pc_u3 ?_ (fun _ => ?_)); exact rfl)
        | with_reducible refine Pc_st (fun _ => ?_)
    · rw [e_284_2]
      repeat' first
        | with_reducible exact Pc_none
        | with_reducible exact Pc_s3
        | with_reducible refine Pc_ite ?_ ?_
        | with_reducible exact (ih _ _ _ _ _ _ _ _ _ _).2.2.2.1
        | with_reducible refine Pc_st (fun _ => ?_)
    · rw [e_284_3]
      repeat' first
        | with_reducible exact Pc_none
        | with_reducible exact Pc_s3
        | with_reducible refine Pc_ite ?_ ?_
        | with_reducible exact (ih _ _ _ _ _ _ _ _ _ _).2.2.2.2
        | ((with_reducible refine Pc_c33 (f_241_0 _ _ _ _ _ _ _) ?_ ?_ (fun _ _ _ => ?_)); exact (sbs_of rfl); exact sbs_of rfl; dsimp only)
        | with_reducible exact (ih _ _ _ _ _ _ _ _ _ _).2.2.2.1
        | ((with_reducible refine Pc_u3 ?_ (fun _ => ?_)); exact rfl)
        | with_reducible refine Pc_st (fun _ => ?_)
    · rw [e_284_4]
      repeat' first
        | with_reducible exact Pc_none
        | with_reducible exact Pc_s3
        | with_reducible exact (ih _ _ _ _ _ _ _ _ _ _).2.2.1
theorem f_284_0 (n dp : Nat) (e : EN) (I : (Nat → Nat → Int32)) (L : (Nat → Nat → Int64)) (i1 : Int32) (i2 : Int32) (i3 : Int32) (i4 : Int32) (i5 : Int32) (i6 : Int32) : Pc (g_284 n dp e 0 I L i1 i2 i3 i4 i5 i6) (F3 WI_284 WL_284 I L) := (fa_284 n dp e I L i1 i2 i3 i4 i5 i6).1
theorem f_284_1 (n dp : Nat) (e : EN) (I : (Nat → Nat → Int32)) (L : (Nat → Nat → Int64)) (i1 : Int32) (i2 : Int32) (i3 : Int32) (i4 : Int32) (i5 : Int32) (i6 : Int32) : Pc (g_284 n dp e 1 I L i1 i2 i3 i4 i5 i6) (F3 WI_284 WL_284 I L) := (fa_284 n dp e I L i1 i2 i3 i4 i5 i6).2.1
theorem f_284_2 (n dp : Nat) (e : EN) (I : (Nat → Nat → Int32)) (L : (Nat → Nat → Int64)) (i1 : Int32) (i2 : Int32) (i3 : Int32) (i4 : Int32) (i5 : Int32) (i6 : Int32) : Pc (g_284 n dp e 2 I L i1 i2 i3 i4 i5 i6) (F3 WI_284 WL_284 I L) := (fa_284 n dp e I L i1 i2 i3 i4 i5 i6).2.2.1
theorem f_284_3 (n dp : Nat) (e : EN) (I : (Nat → Nat → Int32)) (L : (Nat → Nat → Int64)) (i1 : Int32) (i2 : Int32) (i3 : Int32) (i4 : Int32) (i5 : Int32) (i6 : Int32) : Pc (g_284 n dp e 3 I L i1 i2 i3 i4 i5 i6) (F3 WI_284 WL_284 I L) := (fa_284 n dp e I L i1 i2 i3 i4 i5 i6).2.2.2.1
theorem f_284_4 (n dp : Nat) (e : EN) (I : (Nat → Nat → Int32)) (L : (Nat → Nat → Int64)) (i1 : Int32) (i2 : Int32) (i3 : Int32) (i4 : Int32) (i5 : Int32) (i6 : Int32) : Pc (g_284 n dp e 4 I L i1 i2 i3 i4 i5 i6) (F3 WI_284 WL_284 I L) := (fa_284 n dp e I L i1 i2 i3 i4 i5 i6).2.2.2.2
def WI_283 : List (Nat × Nat) := [(105, 0), (136, 0), (138, 0), (137, 0), (124, 0)]
def WL_283 : List (Nat × Nat) := [(118, 0), (119, 0), (105, 0)]
set_option maxHeartbeats 8000000 in
set_option maxRecDepth 100000 in
theorem fa_283 : ∀ (n dp : Nat) (e : EN) (I : (Nat → Nat → Int32)) (L : (Nat → Nat → Int64)) (i1 : Int32) (i2 : Int32) (i3 : Int32), Pc (g_283 n dp e 0 I L i1 i2 i3) (F2 WI_283 WL_283 I L) ∧
    Pc (g_283 n dp e 1 I L i1 i2 i3) (F2 WI_283 WL_283 I L) ∧
    Pc (g_283 n dp e 2 I L i1 i2 i3) (F2 WI_283 WL_283 I L) ∧
    Pc (g_283 n dp e 3 I L i1 i2 i3) (F2 WI_283 WL_283 I L) ∧
    Pc (g_283 n dp e 4 I L i1 i2 i3) (F2 WI_283 WL_283 I L) := by
  intro n
  induction n with
  | zero => intro dp e I L i1 i2 i3; exact ⟨Pc_none, Pc_none, Pc_none, Pc_none, Pc_none⟩
  | succ n ih =>
    intro dp e I L i1 i2 i3
    refine ⟨?_, ?_, ?_, ?_, ?_⟩
    · rw [e_283_0]
      repeat' first
        | with_reducible exact Pc_none
        | with_reducible exact Pc_s2
        | with_reducible exact (ih _ _ _ _ _ _ _).2.1
        | ((with_reducible refine Pc_u2 ?_ (fun _ => ?_)); exact rfl)
        | with_reducible refine Pc_st (fun _ => ?_)
    · rw [e_283_1]
      repeat' first
        | with_reducible exact Pc_none
        | with_reducible exact Pc_s2
        | with_reducible refine Pc_ite ?_ ?_
        | with_reducible exact (ih _ _ _ _ _ _ _).2.2.1
        | ((with_reducible refine Pc_u2 ?_ (fun _ => ?_)); exact rfl)
        | with_reducible refine Pc_st (fun _ => ?_)
    · rw [e_283_2]
      repeat' first
        | with_reducible exact Pc_none
        | with_reducible exact Pc_s2
        | with_reducible refine Pc_ite ?_ ?_
        | ((with_reducible refine Pc_c32 (f_198_0 _ _ _ _ _) ?_ ?_ (fun _ _ _ => ?_)); exact (sbs_of rfl); exact sbs_of rfl; dsimp only)
        | with_reducible exact (ih _ _ _ _ _ _ _).2.2.2.2
        | ((with_reducible refine Pc_c32 (f_280_0 _ _ _ _ _ _) ?_ ?_ (fun _ _ _ => ?_)); exact (sbs_of rfl); exact sbs_of rfl; dsimp only)
        | ((with_reducible refine Pc_c32 (f_240_0 _ _ _ _ _ _) ?_ ?_ (fun _ _ _ => ?_)); exact (sbs_of rfl); exact sbs_of rfl; dsimp only)
        | ((with_reducible refine Pc_c32 (f_251_0 _ _ _ _ _ _ _) ?_ ?_ (fun _ _ _ => ?_)); exact (sbs_of rfl); exact sbs_of rfl; dsimp only)
        | ((with_reducible refine Pc_c32 (f_284_0 _ _ _ _ _ _ _ _ _ _ _) ?_ ?_ (fun _ _ _ => ?_)); exact (sbs_of rfl); exact sbs_of rfl; dsimp only)
        | ((with_reducible refine Pc_c32 (f_250_0 _ _ _ _ _ _ _) ?_ ?_ (fun _ _ _ => ?_)); exact (sbs_of rfl); exact sbs_of rfl; dsimp only)
        | with_reducible exact (ih _ _ _ _ _ _ _).2.2.2.1
        | ((with_reducible refine Pc_u2 ?_ (fun _ => ?_)); exact rfl)
        | with_reducible refine Pc_st (fun _ => ?_)
    · rw [e_283_3]
      repeat' first
        | with_reducible exact Pc_none
        | with_reducible exact Pc_s2
        | with_reducible exact (ih _ _ _ _ _ _ _).2.2.1
    · rw [e_283_4]
      repeat' first
        | with_reducible exact Pc_none
        | with_reducible exact Pc_s2
        | with_reducible exact (ih _ _ _ _ _ _ _).2.1
theorem f_283_0 (n dp : Nat) (e : EN) (I : (Nat → Nat → Int32)) (L : (Nat → Nat → Int64)) (i1 : Int32) (i2 : Int32) (i3 : Int32) : Pc (g_283 n dp e 0 I L i1 i2 i3) (F2 WI_283 WL_283 I L) := (fa_283 n dp e I L i1 i2 i3).1
theorem f_283_1 (n dp : Nat) (e : EN) (I : (Nat → Nat → Int32)) (L : (Nat → Nat → Int64)) (i1 : Int32) (i2 : Int32) (i3 : Int32) : Pc (g_283 n dp e 1 I L i1 i2 i3) (F2 WI_283 WL_283 I L) := (fa_283 n dp e I L i1 i2 i3).2.1
theorem f_283_2 (n dp : Nat) (e : EN) (I : (Nat → Nat → Int32)) (L : (Nat → Nat → Int64)) (i1 : Int32) (i2 : Int32) (i3 : Int32) : Pc (g_283 n dp e 2 I L i1 i2 i3) (F2 WI_283 WL_283 I L) := (fa_283 n dp e I L i1 i2 i3).2.2.1
theorem f_283_3 (n dp : Nat) (e : EN) (I : (Nat → Nat → Int32)) (L : (Nat → Nat → Int64)) (i1 : Int32) (i2 : Int32) (i3 : Int32) : Pc (g_283 n dp e 3 I L i1 i2 i3) (F2 WI_283 WL_283 I L) := (fa_283 n dp e I L i1 i2 i3).2.2.2.1
theorem f_283_4 (n dp : Nat) (e : EN) (I : (Nat → Nat → Int32)) (L : (Nat → Nat → Int64)) (i1 : Int32) (i2 : Int32) (i3 : Int32) : Pc (g_283 n dp e 4 I L i1 i2 i3) (F2 WI_283 WL_283 I L) := (fa_283 n dp e I L i1 i2 i3).2.2.2.2
def WI_282 : List (Nat × Nat) := [(105, 0), (125, 0), (120, 0), (123, 0), (124, 0), (121, 0), (122, 0), (126, 0), (127, 0), (128, 0), (131, 0), (133, 0), (129, 0), (130, 0), (135, 0), (134, 0), (136, 0), (138, 0), (137, 0)]
def WL_282 : List (Nat × Nat) := [(118, 0), (119, 0), (105, 0)]
set_option maxHeartbeats 8000000 in
set_option maxRecDepth 100000 in
theorem fa_282 : ∀ (n dp : Nat) (e : EN) (I : (Nat → Nat → Int32)) (L : (Nat → Nat → Int64)) (i1 : Int32) (i2 : Int32) (i3 : Int32), Pc (g_282 n dp e 0 I L i1 i2 i3) (F3 WI_282 WL_282 I L) ∧
    Pc (g_282 n dp e 1 I L i1 i2 i3) (F3 WI_282 WL_282 I L) ∧
    Pc (g_282 n dp e 2 I L i1 i2 i3) (F3 WI_282 WL_282 I L) := by
  intro n
  induction n with
  | zero => intro dp e I L i1 i2 i3; exact ⟨Pc_none, Pc_none, Pc_none⟩
  | succ n ih =>
    intro dp e I L i1 i2 i3
    refine ⟨?_, ?_, ?_⟩
    · rw [e_282_0]
      repeat' first
        | with_reducible exact Pc_none
        | with_reducible exact Pc_s3
        | with_reducible refine Pc_ite ?_ ?_
        | with_reducible exact (ih _ _ _ _ _ _ _).2.1
        | ((with_reducible refine Pc_c33 (f_239_0 _ _ _ _ _ _) ?_ ?_ (fun _ _ _ => ?_)); exact (sbs_of rfl); exact sbs_of rfl; dsimp only)
        | ((with_reducible refine Pc_u3 ?_ (fun _ => ?_)); exact rfl)
        | with_reducible refine Pc_st (fun _ => ?_)
    · rw [e_282_1]
      repeat' first
        | with_reducible exact Pc_none
        | with_reducible exact Pc_s3
        | with_reducible refine Pc_ite ?_ ?_
        | ((with_reducible refine Pc_c33 (f_261_0 _ _ _ _ _ _ _ _ _) ?_ ?_ (fun _ _ _ => ?_)); exact (sbs_of rfl); exact sbs_of rfl; dsimp only)
        | ((with_reducible refine Pc_c23 (f_283_0 _ _ _ _ _ _ _ _) ?_ ?_ (fun _ _ => ?_)); exact (sbs_of rfl); exact sbs_of rfl; dsimp only)
        | with_reducible exact (ih _ _ _ _ _ _ _).2.2
    · rw [e_282_2]
      repeat' first
        | with_reducible exact Pc_none
        | with_reducible exact Pc_s3
        | with_reducible refine Pc_ite ?_ ?_
        | with_reducible exact (ih _ _ _ _ _ _ _).2.2
        | with_reducible refine Pc_st (fun _ => ?_)
theorem f_282_0 (n dp : Nat) (e : EN) (I : (Nat → Nat → Int32)) (L : (Nat → Nat → Int64)) (i1 : Int32) (i2 : Int32) (i3 : Int32) : Pc (g_282 n dp e 0 I L i1 i2 i3) (F3 WI_282 WL_282 I L) := (fa_282 n dp e I L i1 i2 i3).1
theorem f_282_1 (n dp : Nat) (e : EN) (I : (Nat → Nat → Int32)) (L : (Nat → Nat → Int64)) (i1 : Int32) (i2 : Int32) (i3 : Int32) : Pc (g_282 n dp e 1 I L i1 i2 i3) (F3 WI_282 WL_282 I L) := (fa_282 n dp e I L i1 i2 i3).2.1
theorem f_282_2 (n dp : Nat) (e : EN) (I : (Nat → Nat → Int32)) (L : (Nat → Nat → Int64)) (i1 : Int32) (i2 : Int32) (i3 : Int32) : Pc (g_282 n dp e 2 I L i1 i2 i3) (F3 WI_282 WL_282 I L) := (fa_282 n dp e I L i1 i2 i3).2.2
def WI_287 : List (Nat × Nat) := []
def WL_287 : List (Nat × Nat) := []
set_option maxHeartbeats 8000000 in
set_option maxRecDepth 100000 in
theorem fa_287 : ∀ (n dp : Nat) (e : EN) (I : (Nat → Nat → Int32)) (L : (Nat → Nat → Int64)) (i0 : Int32) (i1 : Int32), Pc (g_287 n dp e 0 I L i0 i1) (F3 WI_287 WL_287 I L) := by
  intro n
  induction n with
  | zero => intro dp e I L i0 i1; exact Pc_none
  | succ n ih =>
    intro dp e I L i0 i1
    · rw [e_287_0]
      repeat' first
        | with_reducible exact Pc_none
        | with_reducible exact Pc_s3
        | with_reducible refine Pc_ite ?_ ?_
theorem f_287_0 (n dp : Nat) (e : EN) (I : (Nat → Nat → Int32)) (L : (Nat → Nat → Int64)) (i0 : Int32) (i1 : Int32) : Pc (g_287 n dp e 0 I L i0 i1) (F3 WI_287 WL_287 I L) := (fa_287 n dp e I L i0 i1)
def WI_286 : List (Nat × Nat) := [(139, 0)]
def WL_286 : List (Nat × Nat) := []
set_option maxHeartbeats 8000000 in
set_option maxRecDepth 100000 in
theorem fa_286 : ∀ (n dp : Nat) (e : EN) (I : (Nat → Nat → Int32)) (L : (Nat → Nat → Int64)) (i1 : Int32) (i2 : Int32) (i3 : Int32) (i4 : Int32) (i5 : Int32), Pc (g_286 n dp e 0 I L i1 i2 i3 i4 i5) (F3 WI_286 WL_286 I L) ∧
    Pc (g_286 n dp e 1 I L i1 i2 i3 i4 i5) (F3 WI_286 WL_286 I L) ∧
    Pc (g_286 n dp e 2 I L i1 i2 i3 i4 i5) (F3 WI_286 WL_286 I L) ∧
    Pc (g_286 n dp e 3 I L i1 i2 i3 i4 i5) (F3 WI_286 WL_286 I L) ∧
    Pc (g_286 n dp e 4 I L i1 i2 i3 i4 i5) (F3 WI_286 WL_286 I L) := by
  intro n
  induction n with
  | zero => intro dp e I L i1 i2 i3 i4 i5; exact ⟨Pc_none, Pc_none, Pc_none, Pc_none, Pc_none⟩
  | succ n ih =>
    intro dp e I L i1 i2 i3 i4 i5
    refine ⟨?_, ?_, ?_, ?_, ?_⟩
    · rw [e_286_0]
      repeat' first
        | with_reducible exact Pc_none
        | with_reducible exact Pc_s3
        | with_reducible exact (ih _ _ _ _ _ _ _ _ _).2.1
    · rw [e_286_1]
      repeat' first
        | with_reducible exact Pc_none
        | with_reducible exact Pc_s3
        | with_reducible refine Pc_ite ?_ ?_
        | with_reducible exact (ih _ _ _ _ _ _ _ _ _).2.2.1
        | with_reducible exact (ih _ _ _ _ _ _ _ _ _).2.1
        | ((with_reducible refine Pc_u3 ?_ (fun _ => ?_)); exact rfl)
        | with_reducible refine Pc_st (fun _ => ?_)
    · rw [e_286_2]
      repeat' first
        | with_reducible exact Pc_none
        | with_reducible exact Pc_s3
        | with_reducible refine Pc_ite ?_ ?_
        | with_reducible exact (ih _ _ _ _ _ _ _ _ _).2.2.2.2
        | with_reducible exact (ih _ _ _ _ _ _ _ _ _).2.2.2.1
        | ((with_reducible refine Pc_c33 (f_287_0 _ _ _ _ _ _ _) ?_ ?_ (fun _ _ _ => ?_)); exact (sbs_of rfl); exact sbs_of rfl; dsimp only)
        | ((with_reducible refine Pc_u3 ?_ (fun _ => ?_)); exact rfl)
        | with_reducible refine Pc_st (fun _ => ?_)
    · rw [e_286_3]
      repeat' first
        | with_reducible exact Pc_none
        | with_reducible exact Pc_s3
        | with_reducible exact (ih _ _ _ _ _ _ _ _ _).2.2.1
    · rw [e_286_4]
      repeat' first
        | with_reducible exact Pc_none
        | with_reducible exact Pc_s3
        | with_reducible refine Pc_ite ?_ ?_
        | with_reducible exact (ih _ _ _ _ _ _ _ _ _).2.2.2.2
        | with_reducible refine Pc_st (fun _ => ?_)
theorem f_286_0 (n dp : Nat) (e : EN) (I : (Nat → Nat → Int32)) (L : (Nat → Nat → Int64)) (i1 : Int32) (i2 : Int32) (i3 : Int32) (i4 : Int32) (i5 : Int32) : Pc (g_286 n dp e 0 I L i1 i2 i3 i4 i5) (F3 WI_286 WL_286 I L) := (fa_286 n dp e I L i1 i2 i3 i4 i5).1
theorem f_286_1 (n dp : Nat) (e : EN) (I : (Nat → Nat → Int32)) (L : (Nat → Nat → Int64)) (i1 : Int32) (i2 : Int32) (i3 : Int32) (i4 : Int32) (i5 : Int32) : Pc (g_286 n dp e 1 I L i1 i2 i3 i4 i5) (F3 WI_286 WL_286 I L) := (fa_286 n dp e I L i1 i2 i3 i4 i5).2.1
theorem f_286_2 (n dp : Nat) (e : EN) (I : (Nat → Nat → Int32)) (L : (Nat → Nat → Int64)) (i1 : Int32) (i2 : Int32) (i3 : Int32) (i4 : Int32) (i5 : Int32) : Pc (g_286 n dp e 2 I L i1 i2 i3 i4 i5) (F3 WI_286 WL_286 I L) := (fa_286 n dp e I L i1 i2 i3 i4 i5).2.2.1
theorem f_286_3 (n dp : Nat) (e : EN) (I : (Nat → Nat → Int32)) (L : (Nat → Nat → Int64)) (i1 : Int32) (i2 : Int32) (i3 : Int32) (i4 : Int32) (i5 : Int32) : Pc (g_286 n dp e 3 I L i1 i2 i3 i4 i5) (F3 WI_286 WL_286 I L) := (fa_286 n dp e I L i1 i2 i3 i4 i5).2.2.2.1
theorem f_286_4 (n dp : Nat) (e : EN) (I : (Nat → Nat → Int32)) (L : (Nat → Nat → Int64)) (i1 : Int32) (i2 : Int32) (i3 : Int32) (i4 : Int32) (i5 : Int32) : Pc (g_286 n dp e 4 I L i1 i2 i3 i4 i5) (F3 WI_286 WL_286 I L) := (fa_286 n dp e I L i1 i2 i3 i4 i5).2.2.2.2
def WI_285 : List (Nat × Nat) := [(105, 0), (125, 0), (120, 0), (123, 0), (124, 0), (121, 0), (122, 0), (126, 0), (127, 0), (128, 0), (131, 0), (133, 0), (129, 0), (130, 0), (135, 0), (134, 0), (136, 0), (138, 0), (137, 0), (139, 0), (140, 0)]
def WL_285 : List (Nat × Nat) := [(118, 0), (119, 0), (105, 0)]
set_option maxHeartbeats 8000000 in
set_option maxRecDepth 100000 in
theorem fa_285 : ∀ (n dp : Nat) (e : EN) (I : (Nat → Nat → Int32)) (L : (Nat → Nat → Int64)) (i1 : Int32) (i2 : Int32) (i3 : Int32) (i4 : Int32) (i5 : Int32) (i6 : Int32), Pc (g_285 n dp e 0 I L i1 i2 i3 i4 i5 i6) (F3 WI_285 WL_285 I L) ∧
    Pc (g_285 n dp e 1 I L i1 i2 i3 i4 i5 i6) (F3 WI_285 WL_285 I L) ∧
    Pc (g_285 n dp e 2 I L i1 i2 i3 i4 i5 i6) (F3 WI_285 WL_285 I L) ∧
    Pc (g_285 n dp e 3 I L i1 i2 i3 i4 i5 i6) (F3 WI_285 WL_285 I L) ∧
    Pc (g_285 n dp e 4 I L i1 i2 i3 i4 i5 i6) (F3 WI_285 WL_285 I L) ∧
    Pc (g_285 n dp e 5 I L i1 i2 i3 i4 i5 i6) (F3 WI_285 WL_285 I L) ∧
    Pc (g_285 n dp e 6 I L i1 i2 i3 i4 i5 i6) (F3 WI_285 WL_285 I L) ∧
    Pc (g_285 n dp e 7 I L i1 i2 i3 i4 i5 i6) (F3 WI_285 WL_285 I L) := by
  intro n
  induction n with
  | zero => intro dp e I L i1 i2 i3 i4 i5 i6; exact ⟨Pc_none, Pc_none, Pc_none, Pc_none, Pc_none, Pc_none, Pc_none, Pc_none⟩
  | succ n ih =>
    intro dp e I L i1 i2 i3 i4 i5 i6
    refine ⟨?_, ?_, ?_, ?_, ?_, ?_, ?_, ?_⟩
    · rw [e_285_0]
      repeat' first
        | with_reducible exact Pc_none
        | with_reducible exact Pc_s3
        | with_reducible refine Pc_ite ?_ ?_
        | with_reducible exact (ih _ _ _ _ _ _ _ _ _ _).2.1
        | ((with_reducible refine Pc_c33 (f_239_0 _ _ _ _ _ _) ?_ ?_ (fun _ _ _ => ?_)); exact (sbs_of rfl); exact sbs_of rfl; dsimp only)
        | ((with_reducible refine Pc_u3 ?_ (fun _ => ?_)); exact rfl)
        | with_reducible refine Pc_st (fun _ => ?_)
    · rw [e_285_1]
      repeat' first
        | with_reducible exact Pc_none
        | with_reducible exact Pc_s3
        | with_reducible refine Pc_ite ?_ ?_
        | ((with_reducible refine Pc_c33 (f_261_0 _ _ _ _ _ _ _ _ _) ?_ ?_ (fun _ _ _ => ?_)); exact (sbs_of rfl); exact sbs_of rfl; dsimp only)
        | ((with_reducible refine Pc_c23 (f_283_0 _ _ _ _ _ _ _ _) ?_ ?_ (fun _ _ => ?_)); exact (sbs_of rfl); exact sbs_of rfl; dsimp only)
        | with_reducible exact (ih _ _ _ _ _ _ _ _ _ _).2.2.1
    · rw [e_285_2]
      repeat' first
        | with_reducible exact Pc_none
        | with_reducible exact Pc_s3
        | with_reducible refine Pc_ite ?_ ?_
        | with_reducible exact (ih _ _ _ _ _ _ _ _ _ _).2.2.2.1
    · rw [e_285_3]
      repeat' first
        | with_reducible exact Pc_none
        | with_reducible exact Pc_s3
        | with_reducible exact (ih _ _ _ _ _ _ _ _ _ _).2.2.2.2.1
    · rw [e_285_4]
      repeat' first
        | with_reducible exact Pc_none
        | with_reducible exact Pc_s3
        | with_reducible refine Pc_ite ?_ ?_
        | with_reducible exact (ih _ _ _ _ _ _ _ _ _ _).2.2.2.2.2.1
        | with_reducible exact (ih _ _ _ _ _ _ _ _ _ _).2.2.2.2.1
    · rw [e_285_5]
      repeat' first
        | with_reducible exact Pc_none
        | with_reducible exact Pc_s3
        | with_reducible refine Pc_ite ?_ ?_
        | with_reducible exact (ih _ _ _ _ _ _ _ _ _ _).2.2.2.2.2.2.1
        | ((with_reducible refine Pc_c33 (f_286_0 _ _ _ _ _ _ _ _ _ _) ?_ ?_ (fun _ _ _ => ?_)); exact (sbs_of rfl); exact sbs_of rfl; dsimp only)
        | with_reducible exact (ih _ _ _ _ _ _ _ _ _ _).2.2.2.2.2.1
    · rw [e_285_6]
      repeat' first
        | with_reducible exact Pc_none
        | with_reducible exact Pc_s3
        | with_reducible refine Pc_ite ?_ ?_
        | with_reducible exact (ih _ _ _ _ _ _ _ _ _ _).2.2.2.2.2.2.2
        | ((with_reducible refine Pc_u3 ?_ (fun _ => ?_)); exact rfl)
        | with_reducible refine Pc_st (fun _ => ?_)
    · rw [e_285_7]
      repeat' first
        | with_reducible exact Pc_none
        | with_reducible exact Pc_s3
        | with_reducible exact (ih _ _ _ _ _ _ _ _ _ _).2.2.2.2.2.2.1
theorem f_285_0 (n dp : Nat) (e : EN) (I : (Nat → Nat → Int32)) (L : (Nat → Nat → Int64)) (i1 : Int32) (i2 : Int32) (i3 : Int32) (i4 : Int32) (i5 : Int32) (i6 : Int32) : Pc (g_285 n dp e 0 I L i1 i2 i3 i4 i5 i6) (F3 WI_285 WL_285 I L) := (fa_285 n dp e I L i1 i2 i3 i4 i5 i6).1
theorem f_285_1 (n dp : Nat) (e : EN) (I : (Nat → Nat → Int32)) (L : (Nat → Nat → Int64)) (i1 : Int32) (i2 : Int32) (i3 : Int32) (i4 : Int32) (i5 : Int32) (i6 : Int32) : Pc (g_285 n dp e 1 I L i1 i2 i3 i4 i5 i6) (F3 WI_285 WL_285 I L) := (fa_285 n dp e I L i1 i2 i3 i4 i5 i6).2.1
theorem f_285_2 (n dp : Nat) (e : EN) (I : (Nat → Nat → Int32)) (L : (Nat → Nat → Int64)) (i1 : Int32) (i2 : Int32) (i3 : Int32) (i4 : Int32) (i5 : Int32) (i6 : Int32) : Pc (g_285 n dp e 2 I L i1 i2 i3 i4 i5 i6) (F3 WI_285 WL_285 I L) := (fa_285 n dp e I L i1 i2 i3 i4 i5 i6).2.2.1
theorem f_285_3 (n dp : Nat) (e : EN) (I : (Nat → Nat → Int32)) (L : (Nat → Nat → Int64)) (i1 : Int32) (i2 : Int32) (i3 : Int32) (i4 : Int32) (i5 : Int32) (i6 : Int32) : Pc (g_285 n dp e 3 I L i1 i2 i3 i4 i5 i6) (F3 WI_285 WL_285 I L) := (fa_285 n dp e I L i1 i2 i3 i4 i5 i6).2.2.2.1
theorem f_285_4 (n dp : Nat) (e : EN) (I : (Nat → Nat → Int32)) (L : (Nat → Nat → Int64)) (i1 : Int32) (i2 : Int32) (i3 : Int32) (i4 : Int32) (i5 : Int32) (i6 : Int32) : Pc (g_285 n dp e 4 I L i1 i2 i3 i4 i5 i6) (F3 WI_285 WL_285 I L) := (fa_285 n dp e I L i1 i2 i3 i4 i5 i6).2.2.2.2.1
theorem f_285_5 (n dp : Nat) (e : EN) (I : (Nat → Nat → Int32)) (L : (Nat → Nat → Int64)) (i1 : Int32) (i2 : Int32) (i3 : Int32) (i4 : Int32) (i5 : Int32) (i6 : Int32) : Pc (g_285 n dp e 5 I L i1 i2 i3 i4 i5 i6) (F3 WI_285 WL_285 I L) := (fa_285 n dp e I L i1 i2 i3 i4 i5 i6).2.2.2.2.2.1
theorem f_285_6 (n dp : Nat) (e : EN) (I : (Nat → Nat → Int32)) (L : (Nat → Nat → Int64)) (i1 : Int32) (i2 : Int32) (i3 : Int32) (i4 : Int32) (i5 : Int32) (i6 : Int32) : Pc (g_285 n dp e 6 I L i1 i2 i3 i4 i5 i6) (F3 WI_285 WL_285 I L) := (fa_285 n dp e I L i1 i2 i3 i4 i5 i6).2.2.2.2.2.2.1
theorem f_285_7 (n dp : Nat) (e : EN) (I : (Nat → Nat → Int32)) (L : (Nat → Nat → Int64)) (i1 : Int32) (i2 : Int32) (i3 : Int32) (i4 : Int32) (i5 : Int32) (i6 : Int32) : Pc (g_285 n dp e 7 I L i1 i2 i3 i4 i5 i6) (F3 WI_285 WL_285 I L) := (fa_285 n dp e I L i1 i2 i3 i4 i5 i6).2.2.2.2.2.2.2
def WI_289 : List (Nat × Nat) := []
def WL_289 : List (Nat × Nat) := []
set_option maxHeartbeats 8000000 in
set_option maxRecDepth 100000 in
theorem fa_289 : ∀ (n dp : Nat) (e : EN) (I : (Nat → Nat → Int32)) (L : (Nat → Nat → Int64)) (i0 : Int32) (i1 : Int32) (i2 : Int32) (i3 : Int32) (i4 : Int32) (i5 : Int32), Pc (g_289 n dp e 0 I L i0 i1 i2 i3 i4 i5) (F3 WI_289 WL_289 I L) := by
  intro n
  induction n with
  | zero => intro dp e I L i0 i1 i2 i3 i4 i5; exact Pc_none
  | succ n ih =>
    intro dp e I L i0 i1 i2 i3 i4 i5
    · rw [e_289_0]
      repeat' first
        | with_reducible exact Pc_none
        | with_reducible exact Pc_s3
        | with_reducible refine Pc_ite ?_ ?_
        | ((with_reducible refine Pc_c33 (f_193_0 _ _ _ _ _ _ _ _) ?_ ?_ (fun _ _ _ => ?_)); exact (sbs_of rfl); exact sbs_of rfl; dsimp only)
theorem f_289_0 (n dp : Nat) (e : EN) (I : (Nat → Nat → Int32)) (L : (Nat → Nat → Int64)) (i0 : Int32) (i1 : Int32) (i2 : Int32) (i3 : Int32) (i4 : Int32) (i5 : Int32) : Pc (g_289 n dp e 0 I L i0 i1 i2 i3 i4 i5) (F3 WI_289 WL_289 I L) := (fa_289 n dp e I L i0 i1 i2 i3 i4 i5)
def WI_290 : List (Nat × Nat) := [(107, 0)]
def WL_290 : List (Nat × Nat) := []
set_option maxHeartbeats 8000000 in
set_option maxRecDepth 100000 in
theorem fa_290 : ∀ (n dp : Nat) (e : EN) (I : (Nat → Nat → Int32)) (L : (Nat → Nat → Int64)) (i1 : Int32) (i2 : Int32) (i3 : Int32) (i4 : Int32) (i5 : Int32) (i6 : Int32), Pc (g_290 n dp e 0 I L i1 i2 i3 i4 i5 i6) (F2 WI_290 WL_290 I L) := by
  intro n
  induction n with
  | zero => intro dp e I L i1 i2 i3 i4 i5 i6; exact Pc_none
  | succ n ih =>
    intro dp e I L i1 i2 i3 i4 i5 i6
    · rw [e_290_0]
      repeat' first
        | with_reducible exact Pc_none
        | with_reducible exact Pc_s2
        | with_reducible refine Pc_ite ?_ ?_
        | ((with_reducible refine Pc_u2 ?_ (fun _ => ?_)); exact rfl)
        | with_reducible refine Pc_st (fun _ => ?_)
theorem f_290_0 (n dp : Nat) (e : EN) (I : (Nat → Nat → Int32)) (L : (Nat → Nat → Int64)) (i1 : Int32) (i2 : Int32) (i3 : Int32) (i4 : Int32) (i5 : Int32) (i6 : Int32) : Pc (g_290 n dp e 0 I L i1 i2 i3 i4 i5 i6) (F2 WI_290 WL_290 I L) := (fa_290 n dp e I L i1 i2 i3 i4 i5 i6)
def WI_288 : List (Nat × Nat) := [(105, 0), (106, 0), (107, 0)]
def WL_288 : List (Nat × Nat) := []
set_option maxHeartbeats 8000000 in
set_option maxRecDepth 100000 in
theorem fa_288 : ∀ (n dp : Nat) (e : EN) (I : (Nat → Nat → Int32)) (L : (Nat → Nat → Int64)) (i1 : Int32) (i2 : Int32) (i3 : Int32) (i4 : Int32) (i5 : Int32) (i6 : Int32), Pc (g_288 n dp e 0 I L i1 i2 i3 i4 i5 i6) (F3 WI_288 WL_288 I L) := by
  intro n
  induction n with
  | zero => intro dp e I L i1 i2 i3 i4 i5 i6; exact Pc_none
  | succ n ih =>
    intro dp e I L i1 i2 i3 i4 i5 i6
    · rw [e_288_0]
      repeat' first
        | with_reducible exact Pc_none
        | with_reducible exact Pc_s3
        | with_reducible refine Pc_ite ?_ ?_
        | ((with_reducible refine Pc_c33 (f_289_0 _ _ _ _ _ _ _ _ _ _ _) ?_ ?_ (fun _ _ _ => ?_)); exact (sbs_of rfl); exact sbs_of rfl; dsimp only)
        | ((with_reducible refine Pc_c33 (f_194_0 _ _ _ _ _ _) ?_ ?_ (fun _ _ _ => ?_)); exact (sbs_of rfl); exact sbs_of rfl; dsimp only)
        | ((with_reducible refine Pc_c23 (f_290_0 _ _ _ _ _ _ _ _ _ _ _) ?_ ?_ (fun _ _ => ?_)); exact (sbs_of rfl); exact sbs_of rfl; dsimp only)
        | ((with_reducible refine Pc_u3 ?_ (fun _ => ?_)); exact rfl)
        | with_reducible refine Pc_st (fun _ => ?_)
theorem f_288_0 (n dp : Nat) (e : EN) (I : (Nat → Nat → Int32)) (L : (Nat → Nat → Int64)) (i1 : Int32) (i2 : Int32) (i3 : Int32) (i4 : Int32) (i5 : Int32) (i6 : Int32) : Pc (g_288 n dp e 0 I L i1 i2 i3 i4 i5 i6) (F3 WI_288 WL_288 I L) := (fa_288 n dp e I L i1 i2 i3 i4 i5 i6)
def WI_292 : List (Nat × Nat) := []
def WL_292 : List (Nat × Nat) := []
set_option maxHeartbeats 8000000 in
set_option maxRecDepth 100000 in
theorem fa_292 : ∀ (n dp : Nat) (e : EN) (I : (Nat → Nat → Int32)) (L : (Nat → Nat → Int64)) (i1 : Int32) (i2 : Int32), Pc (g_292 n dp e 0 I L i1 i2) (F3 WI_292 WL_292 I L) := by
  intro n
  induction n with
  | zero => intro dp e I L i1 i2; exact Pc_none
  | succ n ih =>
    intro dp e I L i1 i2
    · rw [e_292_0]
      repeat' first
        | with_reducible exact Pc_none
        | with_reducible exact Pc_s3
        | with_reducible refine Pc_ite ?_ ?_
theorem f_292_0 (n dp : Nat) (e : EN) (I : (Nat → Nat → Int32)) (L : (Nat → Nat → Int64)) (i1 : Int32) (i2 : Int32) : Pc (g_292 n dp e 0 I L i1 i2) (F3 WI_292 WL_292 I L) := (fa_292 n dp e I L i1 i2)
def WI_291 : List (Nat × Nat) := [(105, 0)]
def WL_291 : List (Nat × Nat) := []
set_option maxHeartbeats 8000000 in
set_option maxRecDepth 100000 in
theorem fa_291 : ∀ (n dp : Nat) (e : EN) (I : (Nat → Nat → Int32)) (L : (Nat → Nat → Int64)) (i1 : Int32) (i2 : Int32), Pc (g_291 n dp e 0 I L i1 i2) (F3 WI_291 WL_291 I L) := by
  intro n
  induction n with
  | zero => intro dp e I L i1 i2; exact Pc_none
  | succ n ih =>
    intro dp e I L i1 i2
    · rw [e_291_0]
      repeat' first
        | with_reducible exact Pc_none
        | with_reducible exact Pc_s3
        | with_reducible refine Pc_ite ?_ ?_
        | ((with_reducible refine Pc_c33 (f_193_0 _ _ _ _ _ _ _ _) ?_ ?_ (fun _ _ _ => ?_)); exact (sbs_of rfl); exact sbs_of rfl; dsimp only)
        | ((with_reducible refine Pc_c33 (f_292_0 _ _ _ _ _ _ _) ?_ ?_ (fun _ _ _ => ?_)); exact (sbs_of rfl); exact sbs_of rfl; dsimp only)
        | ((with_reducible refine Pc_u3 ?_ (fun _ => ?_)); exact rfl)
        | with_reducible refine Pc_st (fun _ => ?_)
theorem f_291_0 (n dp : Nat) (e : EN) (I : (Nat → Nat → Int32)) (L : (Nat → Nat → Int64)) (i1 : Int32) (i2 : Int32) : Pc (g_291 n dp e 0 I L i1 i2) (F3 WI_291 WL_291 I L) := (fa_291 n dp e I L i1 i2)
def WI_293 : List (Nat × Nat) := [(105, 0), (106, 0), (107, 0)]
def WL_293 : List (Nat × Nat) := []
set_option maxHeartbeats 8000000 in
set_option maxRecDepth 100000 in
theorem fa_293 : ∀ (n dp : Nat) (e : EN) (I : (Nat → Nat → Int32)) (L : (Nat → Nat → Int64)) (i1 : Int32) (i2 : Int32) (i3 : Int32) (i4 : Int32), Pc (g_293 n dp e 0 I L i1 i2 i3 i4) (F3 WI_293 WL_293 I L) ∧
    Pc (g_293 n dp e 1 I L i1 i2 i3 i4) (F3 WI_293 WL_293 I L) ∧
    Pc (g_293 n dp e 2 I L i1 i2 i3 i4) (F3 WI_293 WL_293 I L) ∧
    Pc (g_293 n dp e 3 I L i1 i2 i3 i4) (F3 WI_293 WL_293 I L) ∧
    Pc (g_293 n dp e 4 I L i1 i2 i3 i4) (F3 WI_293 WL_293 I L) := by
  intro n
  induction n with
  | zero => intro dp e I L i1 i2 i3 i4; exact ⟨Pc_none, Pc_none, Pc_none, Pc_none, Pc_none⟩
  | succ n ih =>
    intro dp e I L i1 i2 i3 i4
    refine ⟨?_, ?_, ?_, ?_, ?_⟩
    · rw [e_293_0]
      repeat' first
        | with_reducible exact Pc_none
        | with_reducible exact Pc_s3
        | with_reducible refine Pc_ite ?_ ?_
        | ((with_reducible refine Pc_c33 (f_194_0 _ _ _ _ _ _) ?_ ?_ (fun _ _ _ => ?_)); exact (sbs_of rfl); exact sbs_of rfl; dsimp only)
        | with_reducible exact (ih _ _ _ _ _ _ _ _).2.1
        | ((with_reducible refine Pc_u3 ?_ (fun _ => ?_)); exact rfl)
        | with_reducible refine Pc_st (fun _ => ?_)
    · rw [e_293_1]
      repeat' first
        | with_reducible exact Pc_none
        | with_reducible exact Pc_s3
        | with_reducible refine Pc_ite ?_ ?_
        | ((with_reducible refine Pc_c33 (f_194_0 _ _ _ _ _ _) ?_ ?_ (fun _ _ _ => ?_)); exact (sbs_of rfl); exact sbs_of rfl; dsimp only)
        | with_reducible exact (ih _ _ _ _ _ _ _ _).2.2.1
        | with_reducible exact (ih _ _ _ _ _ _ _ _).2.2.2.1
        | ((with_reducible refine Pc_c33 (f_289_0 _ _ _ _ _ _ _ _ _ _ _) ?_ ?_ (fun _ _ _ => ?_)); exact (sbs_of rfl); exact sbs_of rfl; dsimp only)
        | with_reducible exact (ih _ _ _ _ _ _ _ _).2.2.2.2
        | ((with_reducible refine Pc_c23 (f_290_0 _ _ _ _ _ _ _ _ _ _ _) ?_ ?_ (fun _ _ => ?_)); exact (sbs_of rfl); exact sbs_of rfl; dsimp only)
        | ((with_reducible refine Pc_u3 ?_ (fun _ => ?_)); exact rfl)
        | with_reducible refine Pc_st (fun _ => ?_)
    · rw [e_293_2]
      repeat' first
        | with_reducible exact Pc_none
        | with_reducible exact Pc_s3
        | with_reducible refine Pc_ite ?_ ?_
        | with_reducible exact (ih _ _ _ _ _ _ _ _).2.2.2.1
        | ((with_reducible refine Pc_c33 (f_289_0 _ _ _ _ _ _ _ _ _ _ _) ?_ ?_ (fun _ _ _ => ?_)); exact (sbs_of rfl); exact sbs_of rfl; dsimp only)
        | with_reducible exact (ih _ _ _ _ _ _ _ _).2.2.2.2
        | ((with_reducible refine Pc_c23 (f_290_0 _ _ _ _ _ _ _ _ _ _ _) ?_ ?_ (fun _ _ => ?_)); exact (sbs_of rfl); exact sbs_of rfl; dsimp only)
        | ((with_reducible refine Pc_u3 ?_ (fun _ => ?_)); exact rfl)
        | with_reducible refine Pc_st (fun _ => ?_)
    · rw [e_293_3]
      repeat' first
        | with_reducible exact Pc_none
        | with_reducible exact Pc_s3
        | with_reducible refine Pc_ite ?_ ?_
        | with_reducible exact (ih _ _ _ _ _ _ _ _).2.2.2.2
        | ((with_reducible refine Pc_c23 (f_290_0 _ _ _ _ _ _ _ _ _ _ _) ?_ ?_ (fun _ _ => ?_)); exact (sbs_of rfl); exact sbs_of rfl; dsimp only)
        | ((with_reducible refine Pc_u3 ?_ (fun _ => ?_)); exact rfl)
        | with_reducible refine Pc_st (fun _ => ?_)
    · rw [e_293_4]
      repeat' first
        | with_reducible exact Pc_none
        | with_reducible exact Pc_s3
        | with_reducible exact (ih _ _ _ _ _ _ _ _).2.1
theorem f_293_0 (n dp : Nat) (e : EN) (I : (Nat → Nat → Int32)) (L : (Nat → Nat → Int64)) (i1 : Int32) (i2 : Int32) (i3 : Int32) (i4 : Int32) : Pc (g_293 n dp e 0 I L i1 i2 i3 i4) (F3 WI_293 WL_293 I L) := (fa_293 n dp e I L i1 i2 i3 i4).1
theorem f_293_1 (n dp : Nat) (e : EN) (I : (Nat → Nat → Int32)) (L : (Nat → Nat → Int64)) (i1 : Int32) (i2 : Int32) (i3 : Int32) (i4 : Int32) : Pc (g_293 n dp e 1 I L i1 i2 i3 i4) (F3 WI_293 WL_293 I L) := (fa_293 n dp e I L i1 i2 i3 i4).2.1
theorem f_293_2 (n dp : Nat) (e : EN) (I : (Nat → Nat → Int32)) (L : (Nat → Nat → Int64)) (i1 : Int32) (i2 : Int32) (i3 : Int32) (i4 : Int32) : Pc (g_293 n dp e 2 I L i1 i2 i3 i4) (F3 WI_293 WL_293 I L) := (fa_293 n dp e I L i1 i2 i3 i4).2.2.1
theorem f_293_3 (n dp : Nat) (e : EN) (I : (Nat → Nat → Int32)) (L : (Nat → Nat → Int64)) (i1 : Int32) (i2 : Int32) (i3 : Int32) (i4 : Int32) : Pc (g_293 n dp e 3 I L i1 i2 i3 i4) (F3 WI_293 WL_293 I L) := (fa_293 n dp e I L i1 i2 i3 i4).2.2.2.1
theorem f_293_4 (n dp : Nat) (e : EN) (I : (Nat → Nat → Int32)) (L : (Nat → Nat → Int64)) (i1 : Int32) (i2 : Int32) (i3 : Int32) (i4 : Int32) : Pc (g_293 n dp e 4 I L i1 i2 i3 i4) (F3 WI_293 WL_293 I L) := (fa_293 n dp e I L i1 i2 i3 i4).2.2.2.2
def WI_294 : List (Nat × Nat) := [(105, 0)]
def WL_294 : List (Nat × Nat) := []
set_option maxHeartbeats 8000000 in
set_option maxRecDepth 100000 in
theorem fa_294 : ∀ (n dp : Nat) (e : EN) (I : (Nat → Nat → Int32)) (L : (Nat → Nat → Int64)), Pc (g_294 n dp e 0 I L) (F3 WI_294 WL_294 I L) := by
  intro n
  induction n with
  | zero => intro dp e I L; exact Pc_none
  | succ n ih =>
    intro dp e I L
    · rw [e_294_0]
      repeat' first
        | with_reducible exact Pc_none
        | with_reducible exact Pc_s3
        | ((with_reducible refine Pc_u3 ?_ (fun _ => ?_)); exact rfl)
        | with_reducible refine Pc_st (fun _ => ?_)
theorem f_294_0 (n dp : Nat) (e : EN) (I : (Nat → Nat → Int32)) (L : (Nat → Nat → Int64)) : Pc (g_294 n dp e 0 I L) (F3 WI_294 WL_294 I L) := (fa_294 n dp e I L)
def WI_295 : List (Nat × Nat) := [(105, 0)]
def WL_295 : List (Nat × Nat) := []
set_option maxHeartbeats 8000000 in
set_option maxRecDepth 100000 in
theorem fa_295 : ∀ (n dp : Nat) (e : EN) (I : (Nat → Nat → Int32)) (L : (Nat → Nat → Int64)) (i1 : Int32) (i2 : Int32) (i3 : Int32) (i4 : Int32) (i5 : Int32) (i6 : Int32) (i7 : Int32) (i8 : Int32) (i9 : Int32) (i10 : Int32) (i11 : Int32) (i12 : Int32), Pc (g_295 n dp e 0 I L i1 i2 i3 i4 i5 i6 i7 i8 i9 i10 i11 i12) (F3 WI_295 WL_295 I L) ∧
    Pc (g_295 n dp e 1 I L i1 i2 i3 i4 i5 i6 i7 i8 i9 i10 i11 i12) (F3 WI_295 WL_295 I L) ∧
    Pc (g_295 n dp e 2 I L i1 i2 i3 i4 i5 i6 i7 i8 i9 i10 i11 i12) (F3 WI_295 WL_295 I L) ∧
    Pc (g_295 n dp e 3 I L i1 i2 i3 i4 i5 i6 i7 i8 i9 i10 i11 i12) (F3 WI_295 WL_295 I L) ∧
    Pc (g_295 n dp e 4 I L i1 i2 i3 i4 i5 i6 i7 i8 i9 i10 i11 i12) (F3 WI_295 WL_295 I L) ∧
    Pc (g_295 n dp e 5 I L i1 i2 i3 i4 i5 i6 i7 i8 i9 i10 i11 i12) (F3 WI_295 WL_295 I L) := by
  intro n
  induction n with
  | zero => intro dp e I L i1 i2 i3 i4 i5 i6 i7 i8 i9 i10 i11 i12; exact ⟨Pc_none, Pc_none, Pc_none, Pc_none, Pc_none, Pc_none⟩
  | succ n ih =>
    intro dp e I L i1 i2 i3 i4 i5 i6 i7 i8 i9 i10 i11 i12
    refine ⟨?_, ?_, ?_, ?_, ?_, ?_⟩
    · rw [e_295_0]
      repeat' first
        | with_reducible exact Pc_none
        | with_reducible exact Pc_s3
        | with_reducible refine Pc_ite ?_ ?_
        | ((with_reducible refine Pc_c33 (f_193_0 _ _ _ _ _ _ _ _) ?_ ?_ (fun _ _ _ => ?_)); exact (sbs_of rfl); exact sbs_of rfl; dsimp only)
        | with_reducible exact (ih _ _ _ _ _ _ _ _ _ _ _ _ _ _ _ _).2.1
        | ((with_reducible refine Pc_u3 ?_ (fun _ => ?_)); exact rfl)
        | with_reducible refine Pc_st (fun _ => ?_)
    · rw [e_295_1]
      repeat' first
        | with_reducible exact Pc_none
        | with_reducible exact Pc_s3
        | with_reducible refine Pc_ite ?_ ?_
        | with_reducible exact (ih _ _ _ _ _ _ _ _ _ _ _ _ _ _ _ _).2.2.1
        | ((with_reducible refine Pc_c33 (f_292_0 _ _ _ _ _ _ _) ?_ ?_ (fun _ _ _ => ?_)); exact (sbs_of rfl); exact sbs_of rfl; dsimp only)
        | with_reducible exact (ih _ _ _ _ _ _ _ _ _ _ _ _ _ _ _ _).2.1
        | with_reducible refine Pc_st (fun _ => ?_)
    · rw [e_295_2]
      repeat' first
        | with_reducible exact Pc_none
        | with_reducible exact Pc_s3
        | with_reducible refine Pc_ite ?_ ?_
        | with_reducible exact (ih _ _ _ _ _ _ _ _ _ _ _ _ _ _ _ _).2.2.2.1
        | with_reducible exact (ih _ _ _ _ _ _ _ _ _ _ _ _ _ _ _ _).2.2.2.2.2
    · rw [e_295_3]
      repeat' first
        | with_reducible exact Pc_none
        | with_reducible exact Pc_s3
        | with_reducible refine Pc_ite ?_ ?_
        | ((with_reducible refine Pc_c33 (f_193_0 _ _ _ _ _ _ _ _) ?_ ?_ (fun _ _ _ => ?_)); exact (sbs_of rfl); exact sbs_of rfl; dsimp only)
        | with_reducible exact (ih _ _ _ _ _ _ _ _ _ _ _ _ _ _ _ _).2.2.2.2.2
        | ((with_reducible refine Pc_c33 (f_287_0 _ _ _ _ _ _ _) ?_ ?_ (fun _ _ _ => ?_)); exact (sbs_of rfl); exact sbs_of rfl; dsimp only)
        | with_reducible exact (ih _ _ _ _ _ _ _ _ _ _ _ _ _ _ _ _).2.2.2.2.1
        | ((with_reducible refine Pc_c33 (f_292_0 _ _ _ _ _ _ _) ?_ ?_ (fun _ _ _ => ?_)); exact (sbs_of rfl); exact sbs_of rfl; dsimp only)
        | with_reducible refine Pc_st (fun _ => ?_)
    · rw [e_295_4]
      repeat' first
        | with_reducible exact Pc_none
        | with_reducible exact Pc_s3
        | with_reducible exact (ih _ _ _ _ _ _ _ _ _ _ _ _ _ _ _ _).2.2.2.1
    · rw [e_295_5]
      repeat' first
        | with_reducible exact Pc_none
        | with_reducible exact Pc_s3
        | with_reducible exact (ih _ _ _ _ _ _ _ _ _ _ _ _ _ _ _ _).2.2.1
theorem f_295_0 (n dp : Nat) (e : EN) (I : (Nat → Nat → Int32)) (L : (Nat → Nat → Int64)) (i1 : Int32) (i2 : Int32) (i3 : Int32) (i4 : Int32) (i5 : Int32) (i6 : Int32) (i7 : Int32) (i8 : Int32) (i9 : Int32) (i10 : Int32) (i11 : Int32) (i12 : Int32) : Pc (g_295 n dp e 0 I L i1 i2 i3 i4 i5 i6 i7 i8 i9 i10 i11 i12) (F3 WI_295 WL_295 I L) := (fa_295 n dp e I L i1 i2 i3 i4 i5 i6 i7 i8 i9 i10 i11 i12).1
theorem f_295_1 (n dp : Nat) (e : EN) (I : (Nat → Nat → Int32)) (L : (Nat → Nat → Int64)) (i1 : Int32) (i2 : Int32) (i3 : Int32) (i4 : Int32) (i5 : Int32) (i6 : Int32) (i7 : Int32) (i8 : Int32) (i9 : Int32) (i10 : Int32) (i11 : Int32) (i12 : Int32) : Pc (g_295 n dp e 1 I L i1 i2 i3 i4 i5 i6 i7 i8 i9 i10 i11 i12) (F3 WI_295 WL_295 I L) := (fa_295 n dp e I L i1 i2 i3 i4 i5 i6 i7 i8 i9 i10 i11 i12).2.1
theorem f_295_2 (n dp : Nat) (e : EN) (I : (Nat → Nat → Int32)) (L : (Nat → Nat → Int64)) (i1 : Int32) (i2 : Int32) (i3 : Int32) (i4 : Int32) (i5 : Int32) (i6 : Int32) (i7 : Int32) (i8 : Int32) (i9 : Int32) (i10 : Int32) (i11 : Int32) (i12 : Int32) : Pc (g_295 n dp e 2 I L i1 i2 i3 i4 i5 i6 i7 i8 i9 i10 i11 i12) (F3 WI_295 WL_295 I L) := (fa_295 n dp e I L i1 i2 i3 i4 i5 i6 i7 i8 i9 i10 i11 i12).2.2.1
theorem f_295_3 (n dp : Nat) (e : EN) (I : (Nat → Nat → Int32)) (L : (Nat → Nat → Int64)) (i1 : Int32) (i2 : Int32) (i3 : Int32) (i4 : Int32) (i5 : Int32) (i6 : Int32) (i7 : Int32) (i8 : Int32) (i9 : Int32) (i10 : Int32) (i11 : Int32) (i12 : Int32) : Pc (g_295 n dp e 3 I L i1 i2 i3 i4 i5 i6 i7 i8 i9 i10 i11 i12) (F3 WI_295 WL_295 I L) := (fa_295 n dp e I L i1 i2 i3 i4 i5 i6 i7 i8 i9 i10 i11 i12).2.2.2.1
theorem f_295_4 (n dp : Nat) (e : EN) (I : (Nat → Nat → Int32)) (L : (Nat → Nat → Int64)) (i1 : Int32) (i2 : Int32) (i3 : Int32) (i4 : Int32) (i5 : Int32) (i6 : Int32) (i7 : Int32) (i8 : Int32) (i9 : Int32) (i10 : Int32) (i11 : Int32) (i12 : Int32) : Pc (g_295 n dp e 4 I L i1 i2 i3 i4 i5 i6 i7 i8 i9 i10 i11 i12) (F3 WI_295 WL_295 I L) := (fa_295 n dp e I L i1 i2 i3 i4 i5 i6 i7 i8 i9 i10 i11 i12).2.2.2.2.1
theorem f_295_5 (n dp : Nat) (e : EN) (I : (Nat → Nat → Int32)) (L : (Nat → Nat → Int64)) (i1 : Int32) (i2 : Int32) (i3 : Int32) (i4 : Int32) (i5 : Int32) (i6 : Int32) (i7 : Int32) (i8 : Int32) (i9 : Int32) (i10 : Int32) (i11 : Int32) (i12 : Int32) : Pc (g_295 n dp e 5 I L i1 i2 i3 i4 i5 i6 i7 i8 i9 i10 i11 i12) (F3 WI_295 WL_295 I L) := (fa_295 n dp e I L i1 i2 i3 i4 i5 i6 i7 i8 i9 i10 i11 i12).2.2.2.2.2
