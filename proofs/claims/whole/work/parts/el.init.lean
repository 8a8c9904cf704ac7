/-! THE FIRST STATE -/
def kdA : KD := va_up (fun _ => (0, 0)) 0 (11, 0)
def bgS0 : Option (PSi × Nat × Nat) := kf_0 20 20 0 1 kdA (fun _ _ => 0) (fun _ _ => 0) (fun _ _ => none) 0
/-- the class's cells, then the model's one, then its constructor -/
def bgS1 : Option (PSi × Nat × Nat) := bgS0.bind (fun r => kf_191 20 20 0 106 (va_up r.1.2.1 105 (12, 0)) (nw2 r.1.2.2.1 105) (nw2 r.1.2.2.2.1 105) (va_up r.1.2.2.2.2 105 (fun _ => none)) 105)
theorem bgS0_z : bgS0.map (fun r => r.1.1) = some 105 := by decide +kernel
theorem bgS1_z : bgS1.map (fun r => r.1.1) = some 144 := by decide +kernel
def zzJ : JI := match bgS1 with
  | some r => r.1.2.2.1
  | none => fun _ _ => 0
theorem zzJ_24 : zzJ 24 12 = 1 := by decide +kernel
set_option maxRecDepth 1000000 in
set_option maxHeartbeats 1000000 in
theorem zzJ_27 (i : Int) : zzJ 27 i = 0 := by with_unfolding_all rfl
