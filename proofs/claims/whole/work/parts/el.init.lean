/-! THE FIRST STATE -/
def kdA : KD := va_up (fun _ => (0, 0)) 0 (11, 0)
def bgS0 : Option (PSi × Nat × Nat) := kf_0 20 20 0 1 kdA (fun _ _ => 0) (fun _ _ => 0) (fun _ _ => none) 0
/-- the class's cells, then the model's one, then its constructor -/
def bgS1 : Option (PSi × Nat × Nat) := bgS0.bind (fun r => kf_191 20 20 0 106 (va_up r.1.2.1 105 (12, 0)) (nw2 r.1.2.2.1 105) (nw2 r.1.2.2.2.1 105) (va_up r.1.2.2.2.2 105 (fun _ => none)) 105)
theorem bgS0_z : bgS0.map (fun r => r.1.1) = some 105 := by decide +kernel
theorem bgS1_z : bgS1.map (fun r => r.1.1) = some 144 := by decide +kernel
def zzJ : JI := match bgS1 with
  | some r => r.1.2.2.1
  | none => fun _ _ => 0
theorem zzJ_24 : zzJ 24 12 = 1 := by decide +kernel
set_option maxRecDepth 1000000 in
set_option maxHeartbeats 1000000 in
theorem zzJ_27 (i : Int) : zzJ 27 i = 0 := by with_unfolding_all rfl
def zzR : RF := match bgS1 with
  | some r => r.1.2.2.2.2
  | none => fun _ _ => none
def zzK : KD := match bgS1 with
  | some r => r.1.2.1
  | none => fun _ => (0, 0)
def zzM : JI := match bgS1 with
  | some r => r.1.2.2.2.1
  | none => fun _ _ => 0
theorem zz_kd : (List.range 144).all (fun a => zzK a == kd0.getD a (0, 0)) = true := by decide +kernel
theorem zz_R : R0.all (fun q => zzR q.1 q.2.1 == some q.2.2) = true := by decide +kernel
theorem zz_r : zzR 1 7 = some 9 ∧ zzR 0 11 = some 93 ∧ zzR 20 0 = none ∧ zzR 20 1 = none ∧ zzR 44 4 = some 47 ∧ zzR 44 5 = some 48 ∧ zzR 44 6 = some 49 ∧ zzR 44 7 = some 50 := by decide +kernel
theorem zz_a : zzJ 24 13 = 1 ∧ zzJ 24 14 = 1 ∧ zzJ 24 15 = 1 := by decide +kernel
theorem zz_b : zzJ 73 15 = 1 ∧ zzJ 73 16 = 1 ∧ zzJ 81 11 = 1 := by decide +kernel
theorem zz_c : zzJ 105 32 = 0 ∧ zzJ 105 51 = 0 ∧ zzJ 105 0 = 0 := by decide +kernel
theorem zz_d : zzJ 0 14 = 0 ∧ zzJ 9 13 = 0 ∧ zzJ 9 10 = 0 ∧ zzJ 9 11 = 0 ∧ zzJ 9 12 = 0 := by decide +kernel
theorem zz_m : ∀ i : Fin 5, zzM 116 i.1 = cws.getD (4 + i.1) 0 := by decide +kernel
theorem zz_sh : Sh 144 zzK zzR := ⟨Nat.le_refl _, fun a ha => eq_of_beq (List.all_eq_true.mp zz_kd a (List.mem_range.mpr ha)), fun q hq => eq_of_beq (List.all_eq_true.mp zz_R q hq)⟩
