/-! lifted functions 10, printed by lift.py -/
set_option maxHeartbeats 4000000 in
set_option maxRecDepth 100000 in
def kf_274 : Nat → Nat → EN → Nat → JI → JI → Int → Int → Option (Int × JI × JI)
  | 0, _, _, _, _, _, _, _ => none
  | n + 1, dp, e, lab, I, L, i1, i2 =>
    if lab = 0 then (if i1 = 0 then (if i1 = 1 then (if i1 = 2 then (if 1 ≤ dp then (if (-2147483648 ≤ (I 107 0) + i2 ∧ (I 107 0) + i2 ≤ 2147483647) ∧ (-2147483648 ≤ (I 107 1) + i2 ∧ (I 107 1) + i2 ≤ 2147483647) ∧ (-2147483648 ≤ (I 107 2) + i2 ∧ (I 107 2) + i2 ≤ 2147483647) then ((kf_262 n (dp - 1) e 0 I L ((I 107 0) + i2) ((I 107 1) + i2) ((I 107 2) + i2) 0 0 0).bind (fun ⟨x0_51, I0_51, L0_51⟩ => (if x0_51 = 0 then (some (((-1) : Int), I0_51, L0_51)) else (if 1 ≤ dp then ((kf_263 n (dp - 1) e 0 I0_51 L0_51 0 0 0).bind (fun ⟨x1_58, I1_58, L1_58⟩ => (some ((x1_58 : Int), I1_58, L1_58)))) else none)))) else none) else none) else (if 1 ≤ dp then (if (-2147483648 ≤ (I 107 0) + i2 ∧ (I 107 0) + i2 ≤ 2147483647) ∧ (-2147483648 ≤ (I 107 1) + i2 ∧ (I 107 1) + i2 ≤ 2147483647) ∧ (-2147483648 ≤ (I 107 2) + 0 ∧ (I 107 2) + 0 ≤ 2147483647) then ((kf_262 n (dp - 1) e 0 I L ((I 107 0) + i2) ((I 107 1) + i2) ((I 107 2) + 0) 0 0 0).bind (fun ⟨x0_51, I0_51, L0_51⟩ => (if x0_51 = 0 then (some (((-1) : Int), I0_51, L0_51)) else (if 1 ≤ dp then ((kf_263 n (dp - 1) e 0 I0_51 L0_51 0 0 0).bind (fun ⟨x1_58, I1_58, L1_58⟩ => (some ((x1_58 : Int), I1_58, L1_58)))) else none)))) else none) else none)) else (if i1 = 2 then (if 1 ≤ dp then (if (-2147483648 ≤ (I 107 0) + i2 ∧ (I 107 0) + i2 ≤ 2147483647) ∧ (-2147483648 ≤ (I 107 1) + 0 ∧ (I 107 1) + 0 ≤ 2147483647) ∧ (-2147483648 ≤ (I 107 2) + i2 ∧ (I 107 2) + i2 ≤ 2147483647) then ((kf_262 n (dp - 1) e 0 I L ((I 107 0) + i2) ((I 107 1) + 0) ((I 107 2) + i2) 0 0 0).bind (fun ⟨x0_51, I0_51, L0_51⟩ => (if x0_51 = 0 then (some (((-1) : Int), I0_51, L0_51)) else (if 1 ≤ dp then ((kf_263 n (dp - 1) e 0 I0_51 L0_51 0 0 0).bind (fun ⟨x1_58, I1_58, L1_58⟩ => (some ((x1_58 : Int), I1_58, L1_58)))) else none)))) else none) else none) else (if 1 ≤ dp then (if (-2147483648 ≤ (I 107 0) + i2 ∧ (I 107 0) + i2 ≤ 2147483647) ∧ (-2147483648 ≤ (I 107 1) + 0 ∧ (I 107 1) + 0 ≤ 2147483647) ∧ (-2147483648 ≤ (I 107 2) + 0 ∧ (I 107 2) + 0 ≤ 2147483647) then ((kf_262 n (dp - 1) e 0 I L ((I 107 0) + i2) ((I 107 1) + 0) ((I 107 2) + 0) 0 0 0).bind (fun ⟨x0_51, I0_51, L0_51⟩ => (if x0_51 = 0 then (some (((-1) : Int), I0_51, L0_51)) else (if 1 ≤ dp then ((kf_263 n (dp - 1) e 0 I0_51 L0_51 0 0 0).bind (fun ⟨x1_58, I1_58, L1_58⟩ => (some ((x1_58 : Int), I1_58, L1_58)))) else none)))) else none) else none))) else (if i1 = 1 then (if i1 = 2 then (if 1 ≤ dp then (if (-2147483648 ≤ (I 107 0) + 0 ∧ (I 107 0) + 0 ≤ 2147483647) ∧ (-2147483648 ≤ (I 107 1) + i2 ∧ (I 107 1) + i2 ≤ 2147483647) ∧ (-2147483648 ≤ (I 107 2) + i2 ∧ (I 107 2) + i2 ≤ 2147483647) then ((kf_262 n (dp - 1) e 0 I L ((I 107 0) + 0) ((I 107 1) + i2) ((I 107 2) + i2) 0 0 0).bind (fun ⟨x0_51, I0_51, L0_51⟩ => (if x0_51 = 0 then (some (((-1) : Int), I0_51, L0_51)) else (if 1 ≤ dp then ((kf_263 n (dp - 1) e 0 I0_51 L0_51 0 0 0).bind (fun ⟨x1_58, I1_58, L1_58⟩ => (some ((x1_58 : Int), I1_58, L1_58)))) else none)))) else none) else none) else (if 1 ≤ dp then (if (-2147483648 ≤ (I 107 0) + 0 ∧ (I 107 0) + 0 ≤ 2147483647) ∧ (-2147483648 ≤ (I 107 1) + i2 ∧ (I 107 1) + i2 ≤ 2147483647) ∧ (-2147483648 ≤ (I 107 2) + 0 ∧ (I 107 2) + 0 ≤ 2147483647) then ((kf_262 n (dp - 1) e 0 I L ((I 107 0) + 0) ((I 107 1) + i2) ((I 107 2) + 0) 0 0 0).bind (fun ⟨x0_51, I0_51, L0_51⟩ => (if x0_51 = 0 then (some (((-1) : Int), I0_51, L0_51)) else (if 1 ≤ dp then ((kf_263 n (dp - 1) e 0 I0_51 L0_51 0 0 0).bind (fun ⟨x1_58, I1_58, L1_58⟩ => (some ((x1_58 : Int), I1_58, L1_58)))) else none)))) else none) else none)) else (if i1 = 2 then (if 1 ≤ dp then (if (-2147483648 ≤ (I 107 0) + 0 ∧ (I 107 0) + 0 ≤ 2147483647) ∧ (-2147483648 ≤ (I 107 1) + 0 ∧ (I 107 1) + 0 ≤ 2147483647) ∧ (-2147483648 ≤ (I 107 2) + i2 ∧ (I 107 2) + i2 ≤ 2147483647) then ((kf_262 n (dp - 1) e 0 I L ((I 107 0) + 0) ((I 107 1) + 0) ((I 107 2) + i2) 0 0 0).bind (fun ⟨x0_51, I0_51, L0_51⟩ => (if x0_51 = 0 then (some (((-1) : Int), I0_51, L0_51)) else (if 1 ≤ dp then ((kf_263 n (dp - 1) e 0 I0_51 L0_51 0 0 0).bind (fun ⟨x1_58, I1_58, L1_58⟩ => (some ((x1_58 : Int), I1_58, L1_58)))) else none)))) else none) else none) else (if 1 ≤ dp then (if (-2147483648 ≤ (I 107 0) + 0 ∧ (I 107 0) + 0 ≤ 2147483647) ∧ (-2147483648 ≤ (I 107 1) + 0 ∧ (I 107 1) + 0 ≤ 2147483647) ∧ (-2147483648 ≤ (I 107 2) + 0 ∧ (I 107 2) + 0 ≤ 2147483647) then ((kf_262 n (dp - 1) e 0 I L ((I 107 0) + 0) ((I 107 1) + 0) ((I 107 2) + 0) 0 0 0).bind (fun ⟨x0_51, I0_51, L0_51⟩ => (if x0_51 = 0 then (some (((-1) : Int), I0_51, L0_51)) else (if 1 ≤ dp then ((kf_263 n (dp - 1) e 0 I0_51 L0_51 0 0 0).bind (fun ⟨x1_58, I1_58, L1_58⟩ => (some ((x1_58 : Int), I1_58, L1_58)))) else none)))) else none) else none))))
    else none
set_option maxRecDepth 100000 in
theorem ke_274_0 (n : Nat) (dp : Nat) (e : EN) (I : JI) (L : JI) (i1 : Int) (i2 : Int) : kf_274 (n + 1) dp e 0 I L i1 i2 = (if i1 = 0 then (if i1 = 1 then (if i1 = 2 then (if 1 ≤ dp then (if (-2147483648 ≤ (I 107 0) + i2 ∧ (I 107 0) + i2 ≤ 2147483647) ∧ (-2147483648 ≤ (I 107 1) + i2 ∧ (I 107 1) + i2 ≤ 2147483647) ∧ (-2147483648 ≤ (I 107 2) + i2 ∧ (I 107 2) + i2 ≤ 2147483647) then ((kf_262 n (dp - 1) e 0 I L ((I 107 0) + i2) ((I 107 1) + i2) ((I 107 2) + i2) 0 0 0).bind (fun ⟨x0_51, I0_51, L0_51⟩ => (if x0_51 = 0 then (some (((-1) : Int), I0_51, L0_51)) else (if 1 ≤ dp then ((kf_263 n (dp - 1) e 0 I0_51 L0_51 0 0 0).bind (fun ⟨x1_58, I1_58, L1_58⟩ => (some ((x1_58 : Int), I1_58, L1_58)))) else none)))) else none) else none) else (if 1 ≤ dp then (if (-2147483648 ≤ (I 107 0) + i2 ∧ (I 107 0) + i2 ≤ 2147483647) ∧ (-2147483648 ≤ (I 107 1) + i2 ∧ (I 107 1) + i2 ≤ 2147483647) ∧ (-2147483648 ≤ (I 107 2) + 0 ∧ (I 107 2) + 0 ≤ 2147483647) then ((kf_262 n (dp - 1) e 0 I L ((I 107 0) + i2) ((I 107 1) + i2) ((I 107 2) + 0) 0 0 0).bind (fun ⟨x0_51, I0_51, L0_51⟩ => (if x0_51 = 0 then (some (((-1) : Int), I0_51, L0_51)) else (if 1 ≤ dp then ((kf_263 n (dp - 1) e 0 I0_51 L0_51 0 0 0).bind (fun ⟨x1_58, I1_58, L1_58⟩ => (some ((x1_58 : Int), I1_58, L1_58)))) else none)))) else none) else none)) else (if i1 = 2 then (if 1 ≤ dp then (if (-2147483648 ≤ (I 107 0) + i2 ∧ (I 107 0) + i2 ≤ 2147483647) ∧ (-2147483648 ≤ (I 107 1) + 0 ∧ (I 107 1) + 0 ≤ 2147483647) ∧ (-2147483648 ≤ (I 107 2) + i2 ∧ (I 107 2) + i2 ≤ 2147483647) then ((kf_262 n (dp - 1) e 0 I L ((I 107 0) + i2) ((I 107 1) + 0) ((I 107 2) + i2) 0 0 0).bind (fun ⟨x0_51, I0_51, L0_51⟩ => (if x0_51 = 0 then (some (((-1) : Int), I0_51, L0_51)) else (if 1 ≤ dp then ((kf_263 n (dp - 1) e 0 I0_51 L0_51 0 0 0).bind (fun ⟨x1_58, I1_58, L1_58⟩ => (some ((x1_58 : Int), I1_58, L1_58)))) else none)))) else none) else none) else (if 1 ≤ dp then (if (-2147483648 ≤ (I 107 0) + i2 ∧ (I 107 0) + i2 ≤ 2147483647) ∧ (-2147483648 ≤ (I 107 1) + 0 ∧ (I 107 1) + 0 ≤ 2147483647) ∧ (-2147483648 ≤ (I 107 2) + 0 ∧ (I 107 2) + 0 ≤ 2147483647) then ((kf_262 n (dp - 1) e 0 I L ((I 107 0) + i2) ((I 107 1) + 0) ((I 107 2) + 0) 0 0 0).bind (fun ⟨x0_51, I0_51, L0_51⟩ => (if x0_51 = 0 then (some (((-1) : Int), I0_51, L0_51)) else (if 1 ≤ dp then ((kf_263 n (dp - 1) e 0 I0_51 L0_51 0 0 0).bind (fun ⟨x1_58, I1_58, L1_58⟩ => (some ((x1_58 : Int), I1_58, L1_58)))) else none)))) else none) else none))) else (if i1 = 1 then (if i1 = 2 then (if 1 ≤ dp then (if (-2147483648 ≤ (I 107 0) + 0 ∧ (I 107 0) + 0 ≤ 2147483647) ∧ (-2147483648 ≤ (I 107 1) + i2 ∧ (I 107 1) + i2 ≤ 2147483647) ∧ (-2147483648 ≤ (I 107 2) + i2 ∧ (I 107 2) + i2 ≤ 2147483647) then ((kf_262 n (dp - 1) e 0 I L ((I 107 0) + 0) ((I 107 1) + i2) ((I 107 2) + i2) 0 0 0).bind (fun ⟨x0_51, I0_51, L0_51⟩ => (if x0_51 = 0 then (some (((-1) : Int), I0_51, L0_51)) else (if 1 ≤ dp then ((kf_263 n (dp - 1) e 0 I0_51 L0_51 0 0 0).bind (fun ⟨x1_58, I1_58, L1_58⟩ => (some ((x1_58 : Int), I1_58, L1_58)))) else none)))) else none) else none) else (if 1 ≤ dp then (if (-2147483648 ≤ (I 107 0) + 0 ∧ (I 107 0) + 0 ≤ 2147483647) ∧ (-2147483648 ≤ (I 107 1) + i2 ∧ (I 107 1) + i2 ≤ 2147483647) ∧ (-2147483648 ≤ (I 107 2) + 0 ∧ (I 107 2) + 0 ≤ 2147483647) then ((kf_262 n (dp - 1) e 0 I L ((I 107 0) + 0) ((I 107 1) + i2) ((I 107 2) + 0) 0 0 0).bind (fun ⟨x0_51, I0_51, L0_51⟩ => (if x0_51 = 0 then (some (((-1) : Int), I0_51, L0_51)) else (if 1 ≤ dp then ((kf_263 n (dp - 1) e 0 I0_51 L0_51 0 0 0).bind (fun ⟨x1_58, I1_58, L1_58⟩ => (some ((x1_58 : Int), I1_58, L1_58)))) else none)))) else none) else none)) else (if i1 = 2 then (if 1 ≤ dp then (if (-2147483648 ≤ (I 107 0) + 0 ∧ (I 107 0) + 0 ≤ 2147483647) ∧ (-2147483648 ≤ (I 107 1) + 0 ∧ (I 107 1) + 0 ≤ 2147483647) ∧ (-2147483648 ≤ (I 107 2) + i2 ∧ (I 107 2) + i2 ≤ 2147483647) then ((kf_262 n (dp - 1) e 0 I L ((I 107 0) + 0) ((I 107 1) + 0) ((I 107 2) + i2) 0 0 0).bind (fun ⟨x0_51, I0_51, L0_51⟩ => (if x0_51 = 0 then (some (((-1) : Int), I0_51, L0_51)) else (if 1 ≤ dp then ((kf_263 n (dp - 1) e 0 I0_51 L0_51 0 0 0).bind (fun ⟨x1_58, I1_58, L1_58⟩ => (some ((x1_58 : Int), I1_58, L1_58)))) else none)))) else none) else none) else (if 1 ≤ dp then (if (-2147483648 ≤ (I 107 0) + 0 ∧ (I 107 0) + 0 ≤ 2147483647) ∧ (-2147483648 ≤ (I 107 1) + 0 ∧ (I 107 1) + 0 ≤ 2147483647) ∧ (-2147483648 ≤ (I 107 2) + 0 ∧ (I 107 2) + 0 ≤ 2147483647) then ((kf_262 n (dp - 1) e 0 I L ((I 107 0) + 0) ((I 107 1) + 0) ((I 107 2) + 0) 0 0 0).bind (fun ⟨x0_51, I0_51, L0_51⟩ => (if x0_51 = 0 then (some (((-1) : Int), I0_51, L0_51)) else (if 1 ≤ dp then ((kf_263 n (dp - 1) e 0 I0_51 L0_51 0 0 0).bind (fun ⟨x1_58, I1_58, L1_58⟩ => (some ((x1_58 : Int), I1_58, L1_58)))) else none)))) else none) else none)))) := by rw [kf_274.eq_2, if_pos (show (0 : Nat) = 0 from rfl)]
set_option maxHeartbeats 8000000 in
set_option maxRecDepth 100000 in
theorem ks_274 : ∀ (n : Nat) (dp : Nat) (e : EN) (lab : Nat) (I : Nat → Nat → Int32) (I' : JI) (L : Nat → Nat → Int64) (L' : JI) (i1 : Int32) (i1' : Int) (i2 : Int32) (i2' : Int), Rli I I' → Rll L L' → Ui i1 i1' → Ui i2 i2' → Sim R3 (g_274 n dp e lab I L i1 i2) (kf_274 n dp e lab I' L' i1' i2') := by
  intro n
  induction n with
  | zero => intros; rw [kf_274.eq_1]; exact Sn
  | succ n ih =>
    intro dp e lab I I' L L' i1 i1' i2 i2' u_I u_L u_i1 u_i2
    rw [g_274.eq_2, kf_274.eq_2]
    refine Sc Iff.rfl (fun _ => ?_) (fun _ => ?_)
    · refine Sc (eq_up u_i1 (rfl : Ui 0 0)) (fun c1 => ?_) (fun c1 => ?_)
      · refine Sc (eq_up u_i1 (rfl : Ui (1) (1))) (fun c2 => ?_) (fun c2 => ?_)
        · refine Sc (eq_up u_i1 (rfl : Ui (2) (2))) (fun c3 => ?_) (fun c3 => ?_)
          · refine Sc Iff.rfl (fun c4 => ?_) (fun _ => Sn)
            refine Sg (fun g5 => ?_)
            refine Sb3 (ks_262 n (dp - 1) e 0 _ _ _ _ _ _ _ _ _ _ _ _ _ _ _ _ u_I u_L (ui_add (u_I 107 0) u_i2 g5.1) (ui_add (u_I 107 1) u_i2 g5.2.1) (ui_add (u_I 107 2) u_i2 g5.2.2) (rfl : Ui 0 0) (rfl : Ui 0 0) (rfl : Ui 0 0)) (fun x0_51 x0_51' I0_51 I0_51' L0_51 L0_51' u_x0_51 u_I0_51 u_L0_51 => ?_)
            refine Sc (eq_up u_x0_51 (rfl : Ui 0 0)) (fun c6 => ?_) (fun c6 => ?_)
            · exact Sr ⟨(rfl : Ui (-1) (-1)), u_I0_51, u_L0_51⟩
            · refine Sc Iff.rfl (fun c7 => ?_) (fun _ => Sn)
              refine Sb3 (ks_263 n (dp - 1) e 0 _ _ _ _ _ _ _ _ _ _ u_I0_51 u_L0_51 (rfl : Ui 0 0) (rfl : Ui 0 0) (rfl : Ui 0 0)) (fun x1_58 x1_58' I1_58 I1_58' L1_58 L1_58' u_x1_58 u_I1_58 u_L1_58 => ?_)
              exact Sr ⟨u_x1_58, u_I1_58, u_L1_58⟩
          · refine Sc Iff.rfl (fun c8 => ?_) (fun _ => Sn)
            refine Sg (fun g9 => ?_)
            refine Sb3 (ks_262 n (dp - 1) e 0 _ _ _ _ _ _ _ _ _ _ _ _ _ _ _ _ u_I u_L (ui_add (u_I 107 0) u_i2 g9.1) (ui_add (u_I 107 1) u_i2 g9.2.1) (ui_add (u_I 107 2) (rfl : Ui (0) (0)) g9.2.2) (rfl : Ui 0 0) (rfl : Ui 0 0) (rfl : Ui 0 0)) (fun x0_51 x0_51' I0_51 I0_51' L0_51 L0_51' u_x0_51 u_I0_51 u_L0_51 => ?_)
            refine Sc (eq_up u_x0_51 (rfl : Ui 0 0)) (fun c10 => ?_) (fun c10 => ?_)
            · exact Sr ⟨(rfl : Ui (-1) (-1)), u_I0_51, u_L0_51⟩
            · refine Sc Iff.rfl (fun c11 => ?_) (fun _ => Sn)
              refine Sb3 (ks_263 n (dp - 1) e 0 _ _ _ _ _ _ _ _ _ _ u_I0_51 u_L0_51 (rfl : Ui 0 0) (rfl : Ui 0 0) (rfl : Ui 0 0)) (fun x1_58 x1_58' I1_58 I1_58' L1_58 L1_58' u_x1_58 u_I1_58 u_L1_58 => ?_)
              exact Sr ⟨u_x1_58, u_I1_58, u_L1_58⟩
        · refine Sc (eq_up u_i1 (rfl : Ui (2) (2))) (fun c12 => ?_) (fun c12 => ?_)
          · refine Sc Iff.rfl (fun c13 => ?_) (fun _ => Sn)
            refine Sg (fun g14 => ?_)
            refine Sb3 (ks_262 n (dp - 1) e 0 _ _ _ _ _ _ _ _ _ _ _ _ _ _ _ _ u_I u_L (ui_add (u_I 107 0) u_i2 g14.1) (ui_add (u_I 107 1) (rfl : Ui (0) (0)) g14.2.1) (ui_add (u_I 107 2) u_i2 g14.2.2) (rfl : Ui 0 0) (rfl : Ui 0 0) (rfl : Ui 0 0)) (fun x0_51 x0_51' I0_51 I0_51' L0_51 L0_51' u_x0_51 u_I0_51 u_L0_51 => ?_)
            refine Sc (eq_up u_x0_51 (rfl : Ui 0 0)) (fun c15 => ?_) (fun c15 => ?_)
            · exact Sr ⟨(rfl : Ui (-1) (-1)), u_I0_51, u_L0_51⟩
            · refine Sc Iff.rfl (fun c16 => ?_) (fun _ => Sn)
              refine Sb3 (ks_263 n (dp - 1) e 0 _ _ _ _ _ _ _ _ _ _ u_I0_51 u_L0_51 (rfl : Ui 0 0) (rfl : Ui 0 0) (rfl : Ui 0 0)) (fun x1_58 x1_58' I1_58 I1_58' L1_58 L1_58' u_x1_58 u_I1_58 u_L1_58 => ?_)
              exact Sr ⟨u_x1_58, u_I1_58, u_L1_58⟩
          · refine Sc Iff.rfl (fun c17 => ?_) (fun _ => Sn)
            refine Sg (fun g18 => ?_)
            refine Sb3 (ks_262 n (dp - 1) e 0 _ _ _ _ _ _ _ _ _ _ _ _ _ _ _ _ u_I u_L (ui_add (u_I 107 0) u_i2 g18.1) (ui_add (u_I 107 1) (rfl : Ui (0) (0)) g18.2.1) (ui_add (u_I 107 2) (rfl : Ui (0) (0)) g18.2.2) (rfl : Ui 0 0) (rfl : Ui 0 0) (rfl : Ui 0 0)) (fun x0_51 x0_51' I0_51 I0_51' L0_51 L0_51' u_x0_51 u_I0_51 u_L0_51 => ?_)
            refine Sc (eq_up u_x0_51 (rfl : Ui 0 0)) (fun c19 => ?_) (fun c19 => ?_)
            · exact Sr ⟨(rfl : Ui (-1) (-1)), u_I0_51, u_L0_51⟩
            · refine Sc Iff.rfl (fun c20 => ?_) (fun _ => Sn)
              refine Sb3 (ks_263 n (dp - 1) e 0 _ _ _ _ _ _ _ _ _ _ u_I0_51 u_L0_51 (rfl : Ui 0 0) (rfl : Ui 0 0) (rfl : Ui 0 0)) (fun x1_58 x1_58' I1_58 I1_58' L1_58 L1_58' u_x1_58 u_I1_58 u_L1_58 => ?_)
              exact Sr ⟨u_x1_58, u_I1_58, u_L1_58⟩
      · refine Sc (eq_up u_i1 (rfl : Ui (1) (1))) (fun c21 => ?_) (fun c21 => ?_)
        · refine Sc (eq_up u_i1 (rfl : Ui (2) (2))) (fun c22 => ?_) (fun c22 => ?_)
          · refine Sc Iff.rfl (fun c23 => ?_) (fun _ => Sn)
            refine Sg (fun g24 => ?_)
            refine Sb3 (ks_262 n (dp - 1) e 0 _ _ _ _ _ _ _ _ _ _ _ _ _ _ _ _ u_I u_L (ui_add (u_I 107 0) (rfl : Ui (0) (0)) g24.1) (ui_add (u_I 107 1) u_i2 g24.2.1) (ui_add (u_I 107 2) u_i2 g24.2.2) (rfl : Ui 0 0) (rfl : Ui 0 0) (rfl : Ui 0 0)) (fun x0_51 x0_51' I0_51 I0_51' L0_51 L0_51' u_x0_51 u_I0_51 u_L0_51 => ?_)
            refine Sc (eq_up u_x0_51 (rfl : Ui 0 0)) (fun c25 => ?_) (fun c25 => ?_)
            · exact Sr ⟨(rfl : Ui (-1) (-1)), u_I0_51, u_L0_51⟩
            · refine Sc Iff.rfl (fun c26 => ?_) (fun _ => Sn)
              refine Sb3 (ks_263 n (dp - 1) e 0 _ _ _ _ _ _ _ _ _ _ u_I0_51 u_L0_51 (rfl : Ui 0 0) (rfl : Ui 0 0) (rfl : Ui 0 0)) (fun x1_58 x1_58' I1_58 I1_58' L1_58 L1_58' u_x1_58 u_I1_58 u_L1_58 => ?_)
              exact Sr ⟨u_x1_58, u_I1_58, u_L1_58⟩
          · refine Sc Iff.rfl (fun c27 => ?_) (fun _ => Sn)
            refine Sg (fun g28 => ?_)
            refine Sb3 (ks_262 n (dp - 1) e 0 _ _ _ _ _ _ _ _ _ _ _ _ _ _ _ _ u_I u_L (ui_add (u_I 107 0) (rfl : Ui (0) (0)) g28.1) (ui_add (u_I 107 1) u_i2 g28.2.1) (ui_add (u_I 107 2) (rfl : Ui (0) (0)) g28.2.2) (rfl : Ui 0 0) (rfl : Ui 0 0) (rfl : Ui 0 0)) (fun x0_51 x0_51' I0_51 I0_51' L0_51 L0_51' u_x0_51 u_I0_51 u_L0_51 => ?_)
            refine Sc (eq_up u_x0_51 (rfl : Ui 0 0)) (fun c29 => ?_) (fun c29 => ?_)
            · exact Sr ⟨(rfl : Ui (-1) (-1)), u_I0_51, u_L0_51⟩
            · refine Sc Iff.rfl (fun c30 => ?_) (fun _ => Sn)
              refine Sb3 (ks_263 n (dp - 1) e 0 _ _ _ _ _ _ _ _ _ _ u_I0_51 u_L0_51 (rfl : Ui 0 0) (rfl : Ui 0 0) (rfl : Ui 0 0)) (fun x1_58 x1_58' I1_58 I1_58' L1_58 L1_58' u_x1_58 u_I1_58 u_L1_58 => ?_)
              exact Sr ⟨u_x1_58, u_I1_58, u_L1_58⟩
        · refine Sc (eq_up u_i1 (rfl : Ui (2) (2))) (fun c31 => ?_) (fun c31 => ?_)
          · refine Sc Iff.rfl (fun c32 => ?_) (fun _ => Sn)
            refine Sg (fun g33 => ?_)
            refine Sb3 (ks_262 n (dp - 1) e 0 _ _ _ _ _ _ _ _ _ _ _ _ _ _ _ _ u_I u_L (ui_add (u_I 107 0) (rfl : Ui (0) (0)) g33.1) (ui_add (u_I 107 1) (rfl : Ui (0) (0)) g33.2.1) (ui_add (u_I 107 2) u_i2 g33.2.2) (rfl : Ui 0 0) (rfl : Ui 0 0) (rfl : Ui 0 0)) (fun x0_51 x0_51' I0_51 I0_51' L0_51 L0_51' u_x0_51 u_I0_51 u_L0_51 => ?_)
            refine Sc (eq_up u_x0_51 (rfl : Ui 0 0)) (fun c34 => ?_) (fun c34 => ?_)
            · exact Sr ⟨(rfl : Ui (-1) (-1)), u_I0_51, u_L0_51⟩
            · refine Sc Iff.rfl (fun c35 => ?_) (fun _ => Sn)
              refine Sb3 (ks_263 n (dp - 1) e 0 _ _ _ _ _ _ _ _ _ _ u_I0_51 u_L0_51 (rfl : Ui 0 0) (rfl : Ui 0 0) (rfl : Ui 0 0)) (fun x1_58 x1_58' I1_58 I1_58' L1_58 L1_58' u_x1_58 u_I1_58 u_L1_58 => ?_)
              exact Sr ⟨u_x1_58, u_I1_58, u_L1_58⟩
          · refine Sc Iff.rfl (fun c36 => ?_) (fun _ => Sn)
            refine Sg (fun g37 => ?_)
            refine Sb3 (ks_262 n (dp - 1) e 0 _ _ _ _ _ _ _ _ _ _ _ _ _ _ _ _ u_I u_L (ui_add (u_I 107 0) (rfl : Ui (0) (0)) g37.1) (ui_add (u_I 107 1) (rfl : Ui (0) (0)) g37.2.1) (ui_add (u_I 107 2) (rfl : Ui (0) (0)) g37.2.2) (rfl : Ui 0 0) (rfl : Ui 0 0) (rfl : Ui 0 0)) (fun x0_51 x0_51' I0_51 I0_51' L0_51 L0_51' u_x0_51 u_I0_51 u_L0_51 => ?_)
            refine Sc (eq_up u_x0_51 (rfl : Ui 0 0)) (fun c38 => ?_) (fun c38 => ?_)
            · exact Sr ⟨(rfl : Ui (-1) (-1)), u_I0_51, u_L0_51⟩
            · refine Sc Iff.rfl (fun c39 => ?_) (fun _ => Sn)
              refine Sb3 (ks_263 n (dp - 1) e 0 _ _ _ _ _ _ _ _ _ _ u_I0_51 u_L0_51 (rfl : Ui 0 0) (rfl : Ui 0 0) (rfl : Ui 0 0)) (fun x1_58 x1_58' I1_58 I1_58' L1_58 L1_58' u_x1_58 u_I1_58 u_L1_58 => ?_)
              exact Sr ⟨u_x1_58, u_I1_58, u_L1_58⟩
    exact Sn
set_option maxHeartbeats 4000000 in
set_option maxRecDepth 100000 in
def kf_273 : Nat → Nat → EN → Nat → JI → JI → Int → Option (Int × JI × JI)
  | 0, _, _, _, _, _, _ => none
  | n + 1, dp, e, lab, I, L, i1 =>
    if lab = 0 then (stI (w2 I 105 0 0) (fun I_2 => (if 1 ≤ dp then ((kf_197 n (dp - 1) e 0 I_2 L i1).bind (fun ⟨x0_6, I0_6, L0_6⟩ => (if x0_6 = 0 then (some (((-1) : Int), I0_6, L0_6)) else (if 1 ≤ dp then ((kf_261 n (dp - 1) e 0 I0_6 L0_6 0 0 0 0).bind (fun ⟨x1_13, I1_13, L1_13⟩ => (if x1_13 = 0 then (some (((-1) : Int), I1_13, L1_13)) else (if 1 ≤ dp then ((kf_198 n (dp - 1) e 0 I1_13 L1_13).bind (fun ⟨x2_20, I2_20, L2_20⟩ => (if x2_20 = 8 then (some (((-1) : Int), I2_20, L2_20)) else (if 1 ≤ dp then ((kf_274 n (dp - 1) e 0 I2_20 L2_20 i1 1).bind (fun ⟨x3_33, I3_33, L3_33⟩ => (if x3_33 = (-1) then (some (((-1) : Int), I3_33, L3_33)) else (if -2147483648 ≤ x3_33 - (I3_33 105 53) ∧ x3_33 - (I3_33 105 53) ≤ 2147483647 then (some (((x3_33 - (I3_33 105 53)) : Int), I3_33, L3_33)) else none)))) else none)))) else none)))) else none)))) else none)))
    else none
set_option maxRecDepth 100000 in
theorem ke_273_0 (n : Nat) (dp : Nat) (e : EN) (I : JI) (L : JI) (i1 : Int) : kf_273 (n + 1) dp e 0 I L i1 = (stI (w2 I 105 0 0) (fun I_2 => (if 1 ≤ dp then ((kf_197 n (dp - 1) e 0 I_2 L i1).bind (fun ⟨x0_6, I0_6, L0_6⟩ => (if x0_6 = 0 then (some (((-1) : Int), I0_6, L0_6)) else (if 1 ≤ dp then ((kf_261 n (dp - 1) e 0 I0_6 L0_6 0 0 0 0).bind (fun ⟨x1_13, I1_13, L1_13⟩ => (if x1_13 = 0 then (some (((-1) : Int), I1_13, L1_13)) else (if 1 ≤ dp then ((kf_198 n (dp - 1) e 0 I1_13 L1_13).bind (fun ⟨x2_20, I2_20, L2_20⟩ => (if x2_20 = 8 then (some (((-1) : Int), I2_20, L2_20)) else (if 1 ≤ dp then ((kf_274 n (dp - 1) e 0 I2_20 L2_20 i1 1).bind (fun ⟨x3_33, I3_33, L3_33⟩ => (if x3_33 = (-1) then (some (((-1) : Int), I3_33, L3_33)) else (if -2147483648 ≤ x3_33 - (I3_33 105 53) ∧ x3_33 - (I3_33 105 53) ≤ 2147483647 then (some (((x3_33 - (I3_33 105 53)) : Int), I3_33, L3_33)) else none)))) else none)))) else none)))) else none)))) else none))) := by rw [kf_273.eq_2, if_pos (show (0 : Nat) = 0 from rfl)]
set_option maxHeartbeats 8000000 in
set_option maxRecDepth 100000 in
theorem ks_273 : ∀ (n : Nat) (dp : Nat) (e : EN) (lab : Nat) (I : Nat → Nat → Int32) (I' : JI) (L : Nat → Nat → Int64) (L' : JI) (i1 : Int32) (i1' : Int), Rli I I' → Rll L L' → Ui i1 i1' → Sim R3 (g_273 n dp e lab I L i1) (kf_273 n dp e lab I' L' i1') := by
  intro n
  induction n with
  | zero => intros; rw [kf_273.eq_1]; exact Sn
  | succ n ih =>
    intro dp e lab I I' L L' i1 i1' u_I u_L u_i1
    rw [g_273.eq_2, kf_273.eq_2]
    refine Sc Iff.rfl (fun _ => ?_) (fun _ => ?_)
    · refine SsJ (ri_up u_I (rfl : ((0 : Nat) : Int) = 0) (rfl : Ui (0) (0))) (fun I_2 I_2' u_I_2 => ?_)
      refine Sc Iff.rfl (fun c1 => ?_) (fun _ => Sn)
      refine Sb3 (ks_197 n (dp - 1) e 0 _ _ _ _ _ _ u_I_2 u_L u_i1) (fun x0_6 x0_6' I0_6 I0_6' L0_6 L0_6' u_x0_6 u_I0_6 u_L0_6 => ?_)
      refine Sc (eq_up u_x0_6 (rfl : Ui 0 0)) (fun c2 => ?_) (fun c2 => ?_)
      · exact Sr ⟨(rfl : Ui (-1) (-1)), u_I0_6, u_L0_6⟩
      · refine Sc Iff.rfl (fun c3 => ?_) (fun _ => Sn)
        refine Sb3 (ks_261 n (dp - 1) e 0 _ _ _ _ _ _ _ _ _ _ _ _ u_I0_6 u_L0_6 (rfl : Ui 0 0) (rfl : Ui 0 0) (rfl : Ui 0 0) (rfl : Ui 0 0)) (fun x1_13 x1_13' I1_13 I1_13' L1_13 L1_13' u_x1_13 u_I1_13 u_L1_13 => ?_)
        refine Sc (eq_up u_x1_13 (rfl : Ui 0 0)) (fun c4 => ?_) (fun c4 => ?_)
        · exact Sr ⟨(rfl : Ui (-1) (-1)), u_I1_13, u_L1_13⟩
        · refine Sc Iff.rfl (fun c5 => ?_) (fun _ => Sn)
          refine Sb3 (ks_198 n (dp - 1) e 0 _ _ _ _ u_I1_13 u_L1_13) (fun x2_20 x2_20' I2_20 I2_20' L2_20 L2_20' u_x2_20 u_I2_20 u_L2_20 => ?_)
          refine Sc (eq_up u_x2_20 (rfl : Ui (8) (8))) (fun c6 => ?_) (fun c6 => ?_)
          · exact Sr ⟨(rfl : Ui (-1) (-1)), u_I2_20, u_L2_20⟩
          · refine Sc Iff.rfl (fun c7 => ?_) (fun _ => Sn)
            refine Sb3 (ks_274 n (dp - 1) e 0 _ _ _ _ _ _ _ _ u_I2_20 u_L2_20 u_i1 (rfl : Ui (1) (1))) (fun x3_33 x3_33' I3_33 I3_33' L3_33 L3_33' u_x3_33 u_I3_33 u_L3_33 => ?_)
            refine Sc (eq_up u_x3_33 (rfl : Ui (-1) (-1))) (fun c8 => ?_) (fun c8 => ?_)
            · exact Sr ⟨(rfl : Ui (-1) (-1)), u_I3_33, u_L3_33⟩
            · refine Sg (fun g9 => ?_)
              exact Sr ⟨(ui_sub u_x3_33 (u_I3_33 105 53) g9), u_I3_33, u_L3_33⟩
    exact Sn
set_option maxHeartbeats 4000000 in
set_option maxRecDepth 100000 in
def kf_275 : Nat → Nat → EN → Nat → JI → JI → Int → Option (Int × JI × JI)
  | 0, _, _, _, _, _, _ => none
  | n + 1, dp, e, lab, I, L, i1 =>
    if lab = 0 then (stI (w2 I 105 0 0) (fun I_2 => (if 1 ≤ dp then ((kf_197 n (dp - 1) e 0 I_2 L i1).bind (fun ⟨x0_6, I0_6, L0_6⟩ => (if x0_6 = 0 then (some (((-100000) : Int), I0_6, L0_6)) else (if 1 ≤ dp then ((kf_261 n (dp - 1) e 0 I0_6 L0_6 0 0 0 0).bind (fun ⟨x1_13, I1_13, L1_13⟩ => (if x1_13 = 0 then (some (((-100000) : Int), I1_13, L1_13)) else (if 1 ≤ dp then ((kf_197 n (dp - 1) e 0 I1_13 L1_13 i1).bind (fun ⟨x2_25, I2_25, L2_25⟩ => (if x2_25 = 0 then (if (0 : Int) ≤ 0 ∧ (0 : Int) < 1570 then (if (I2_25 107 0) = 0 then (some (((-100000) : Int), I2_25, L2_25)) else (if 1 ≤ dp then ((kf_274 n (dp - 1) e 0 I2_25 L2_25 i1 (-1)).bind (fun ⟨x3_52, I3_52, L3_52⟩ => (if -2147483648 ≤ (I2_25 105 53) - x3_52 ∧ (I2_25 105 53) - x3_52 ≤ 2147483647 then (some ((((I2_25 105 53) - x3_52) : Int), I3_52, L3_52)) else none))) else none)) else none) else (if -2147483648 ≤ 0 + i1 ∧ 0 + i1 ≤ 2147483647 then (if 0 ≤ (0 + i1) ∧ (0 + i1) < 1570 then (if (I2_25 107 (0 + i1)) = 0 then (some (((-100000) : Int), I2_25, L2_25)) else (if 1 ≤ dp then ((kf_274 n (dp - 1) e 0 I2_25 L2_25 i1 (-1)).bind (fun ⟨x3_52, I3_52, L3_52⟩ => (if -2147483648 ≤ (I2_25 105 53) - x3_52 ∧ (I2_25 105 53) - x3_52 ≤ 2147483647 then (some ((((I2_25 105 53) - x3_52) : Int), I3_52, L3_52)) else none))) else none)) else none) else none)))) else none)))) else none)))) else none)))
    else none
set_option maxRecDepth 100000 in
theorem ke_275_0 (n : Nat) (dp : Nat) (e : EN) (I : JI) (L : JI) (i1 : Int) : kf_275 (n + 1) dp e 0 I L i1 = (stI (w2 I 105 0 0) (fun I_2 => (if 1 ≤ dp then ((kf_197 n (dp - 1) e 0 I_2 L i1).bind (fun ⟨x0_6, I0_6, L0_6⟩ => (if x0_6 = 0 then (some (((-100000) : Int), I0_6, L0_6)) else (if 1 ≤ dp then ((kf_261 n (dp - 1) e 0 I0_6 L0_6 0 0 0 0).bind (fun ⟨x1_13, I1_13, L1_13⟩ => (if x1_13 = 0 then (some (((-100000) : Int), I1_13, L1_13)) else (if 1 ≤ dp then ((kf_197 n (dp - 1) e 0 I1_13 L1_13 i1).bind (fun ⟨x2_25, I2_25, L2_25⟩ => (if x2_25 = 0 then (if (0 : Int) ≤ 0 ∧ (0 : Int) < 1570 then (if (I2_25 107 0) = 0 then (some (((-100000) : Int), I2_25, L2_25)) else (if 1 ≤ dp then ((kf_274 n (dp - 1) e 0 I2_25 L2_25 i1 (-1)).bind (fun ⟨x3_52, I3_52, L3_52⟩ => (if -2147483648 ≤ (I2_25 105 53) - x3_52 ∧ (I2_25 105 53) - x3_52 ≤ 2147483647 then (some ((((I2_25 105 53) - x3_52) : Int), I3_52, L3_52)) else none))) else none)) else none) else (if -2147483648 ≤ 0 + i1 ∧ 0 + i1 ≤ 2147483647 then (if 0 ≤ (0 + i1) ∧ (0 + i1) < 1570 then (if (I2_25 107 (0 + i1)) = 0 then (some (((-100000) : Int), I2_25, L2_25)) else (if 1 ≤ dp then ((kf_274 n (dp - 1) e 0 I2_25 L2_25 i1 (-1)).bind (fun ⟨x3_52, I3_52, L3_52⟩ => (if -2147483648 ≤ (I2_25 105 53) - x3_52 ∧ (I2_25 105 53) - x3_52 ≤ 2147483647 then (some ((((I2_25 105 53) - x3_52) : Int), I3_52, L3_52)) else none))) else none)) else none) else none)))) else none)))) else none)))) else none))) := by rw [kf_275.eq_2, if_pos (show (0 : Nat) = 0 from rfl)]
set_option maxHeartbeats 8000000 in
set_option maxRecDepth 100000 in
theorem ks_275 : ∀ (n : Nat) (dp : Nat) (e : EN) (lab : Nat) (I : Nat → Nat → Int32) (I' : JI) (L : Nat → Nat → Int64) (L' : JI) (i1 : Int32) (i1' : Int), Rli I I' → Rll L L' → Ui i1 i1' → Sim R3 (g_275 n dp e lab I L i1) (kf_275 n dp e lab I' L' i1') := by
  intro n
  induction n with
  | zero => intros; rw [kf_275.eq_1]; exact Sn
  | succ n ih =>
    intro dp e lab I I' L L' i1 i1' u_I u_L u_i1
    rw [g_275.eq_2, kf_275.eq_2]
    refine Sc Iff.rfl (fun _ => ?_) (fun _ => ?_)
    · refine SsJ (ri_up u_I (rfl : ((0 : Nat) : Int) = 0) (rfl : Ui (0) (0))) (fun I_2 I_2' u_I_2 => ?_)
      refine Sc Iff.rfl (fun c1 => ?_) (fun _ => Sn)
      refine Sb3 (ks_197 n (dp - 1) e 0 _ _ _ _ _ _ u_I_2 u_L u_i1) (fun x0_6 x0_6' I0_6 I0_6' L0_6 L0_6' u_x0_6 u_I0_6 u_L0_6 => ?_)
      refine Sc (eq_up u_x0_6 (rfl : Ui 0 0)) (fun c2 => ?_) (fun c2 => ?_)
      · exact Sr ⟨(rfl : Ui (-100000) (-100000)), u_I0_6, u_L0_6⟩
      · refine Sc Iff.rfl (fun c3 => ?_) (fun _ => Sn)
        refine Sb3 (ks_261 n (dp - 1) e 0 _ _ _ _ _ _ _ _ _ _ _ _ u_I0_6 u_L0_6 (rfl : Ui 0 0) (rfl : Ui 0 0) (rfl : Ui 0 0) (rfl : Ui 0 0)) (fun x1_13 x1_13' I1_13 I1_13' L1_13 L1_13' u_x1_13 u_I1_13 u_L1_13 => ?_)
        refine Sc (eq_up u_x1_13 (rfl : Ui 0 0)) (fun c4 => ?_) (fun c4 => ?_)
        · exact Sr ⟨(rfl : Ui (-100000) (-100000)), u_I1_13, u_L1_13⟩
        · refine Sc Iff.rfl (fun c5 => ?_) (fun _ => Sn)
          refine Sb3 (ks_197 n (dp - 1) e 0 _ _ _ _ _ _ u_I1_13 u_L1_13 u_i1) (fun x2_25 x2_25' I2_25 I2_25' L2_25 L2_25' u_x2_25 u_I2_25 u_L2_25 => ?_)
          refine Sc (eq_up u_x2_25 (rfl : Ui 0 0)) (fun c6 => ?_) (fun c6 => ?_)
          · refine Sc (ix_up (rfl : Ui ((0 : Int32) + 0) (0))) (fun c7 => ?_) (fun _ => Sn)
            refine Sc (eq_up (ui_rd (a := 107) u_I2_25 (rfl : Ui ((0 : Int32) + 0) (0)) (by decide)) (rfl : Ui 0 0)) (fun c8 => ?_) (fun c8 => ?_)
            · exact Sr ⟨(rfl : Ui (-100000) (-100000)), u_I2_25, u_L2_25⟩
            · refine Sc Iff.rfl (fun c9 => ?_) (fun _ => Sn)
              refine Sb3 (ks_274 n (dp - 1) e 0 _ _ _ _ _ _ _ _ u_I2_25 u_L2_25 u_i1 (rfl : Ui (-1) (-1))) (fun x3_52 x3_52' I3_52 I3_52' L3_52 L3_52' u_x3_52 u_I3_52 u_L3_52 => ?_)
              refine Sg (fun g10 => ?_)
              exact Sr ⟨(ui_sub (u_I2_25 105 53) u_x3_52 g10), u_I3_52, u_L3_52⟩
          · refine Sg (fun g11 => ?_)
            refine Sc (ix_up (ui_add (rfl : Ui (0) (0)) u_i1 g11)) (fun c12 => ?_) (fun _ => Sn)
            refine Sc (eq_up (ui_rd (a := 107) u_I2_25 (ui_add (rfl : Ui (0) (0)) u_i1 g11) c12.1) (rfl : Ui 0 0)) (fun c13 => ?_) (fun c13 => ?_)
            · exact Sr ⟨(rfl : Ui (-100000) (-100000)), u_I2_25, u_L2_25⟩
            · refine Sc Iff.rfl (fun c14 => ?_) (fun _ => Sn)
              refine Sb3 (ks_274 n (dp - 1) e 0 _ _ _ _ _ _ _ _ u_I2_25 u_L2_25 u_i1 (rfl : Ui (-1) (-1))) (fun x3_52 x3_52' I3_52 I3_52' L3_52 L3_52' u_x3_52 u_I3_52 u_L3_52 => ?_)
              refine Sg (fun g15 => ?_)
              exact Sr ⟨(ui_sub (u_I2_25 105 53) u_x3_52 g15), u_I3_52, u_L3_52⟩
    exact Sn
set_option maxHeartbeats 4000000 in
set_option maxRecDepth 100000 in
def kf_276 : Nat → Nat → EN → Nat → JI → JI → Int → Int → Option (Int × JI × JI)
  | 0, _, _, _, _, _, _, _ => none
  | n + 1, dp, e, lab, I, L, i1, i2 =>
    if lab = 0 then (stI (w2 I 105 0 0) (fun I_2 => (if 1 ≤ dp then ((kf_202 n (dp - 1) e 0 I_2 L i1).bind (fun ⟨x0_6, I0_6, L0_6⟩ => (if x0_6 = 0 then (some (((-1) : Int), I0_6, L0_6)) else (if 1 ≤ dp then ((kf_261 n (dp - 1) e 0 I0_6 L0_6 0 0 0 0).bind (fun ⟨x1_13, I1_13, L1_13⟩ => (if x1_13 = 0 then (some (((-1) : Int), I1_13, L1_13)) else (if -2147483648 ≤ 60 + i1 ∧ 60 + i1 ≤ 2147483647 then (if 0 ≤ (60 + i1) ∧ (60 + i1) < 1570 then (stI (I1_13 107 (60 + i1)) (fun v_30 => (if v_30 = 8 then (some (((-1) : Int), I1_13, L1_13)) else (if v_30 = 0 then (if 1 ≤ dp then ((kf_204 n (dp - 1) e 0 I1_13 L1_13 0 0).bind (fun ⟨x2_42, I2_42, L2_42⟩ => (if x2_42 = 5 then (some (((-1) : Int), I2_42, L2_42)) else (kf_276 n dp e 1 I2_42 L2_42 i1 v_30)))) else none) else (kf_276 n dp e 1 I1_13 L1_13 i1 v_30))))) else none) else none)))) else none)))) else none)))
    else if lab = 1 then (if 1 ≤ dp then ((kf_262 n (dp - 1) e 0 I L (I 107 0) (I 107 1) (I 107 2) 0 0 0).bind (fun ⟨x0_70, I0_70, L0_70⟩ => (if 0 ≤ i1 ∧ i1 < 10 then (if -2147483648 ≤ i2 + 1 ∧ i2 + 1 ≤ 2147483647 then (stI (w2 I0_70 127 i1 (i2 + 1)) (fun I_82 => (if x0_70 = 0 then (some (((-1) : Int), I_82, L0_70)) else (if 1 ≤ dp then ((kf_263 n (dp - 1) e 0 I_82 L0_70 0 0 0).bind (fun ⟨x1_88, I1_88, L1_88⟩ => (if -2147483648 ≤ x1_88 - (I1_88 105 53) ∧ x1_88 - (I1_88 105 53) ≤ 2147483647 then (some (((x1_88 - (I1_88 105 53)) : Int), I1_88, L1_88)) else none))) else none)))) else none) else none))) else none)
    else none
set_option maxRecDepth 100000 in
theorem ke_276_0 (n : Nat) (dp : Nat) (e : EN) (I : JI) (L : JI) (i1 : Int) (i2 : Int) : kf_276 (n + 1) dp e 0 I L i1 i2 = (stI (w2 I 105 0 0) (fun I_2 => (if 1 ≤ dp then ((kf_202 n (dp - 1) e 0 I_2 L i1).bind (fun ⟨x0_6, I0_6, L0_6⟩ => (if x0_6 = 0 then (some (((-1) : Int), I0_6, L0_6)) else (if 1 ≤ dp then ((kf_261 n (dp - 1) e 0 I0_6 L0_6 0 0 0 0).bind (fun ⟨x1_13, I1_13, L1_13⟩ => (if x1_13 = 0 then (some (((-1) : Int), I1_13, L1_13)) else (if -2147483648 ≤ 60 + i1 ∧ 60 + i1 ≤ 2147483647 then (if 0 ≤ (60 + i1) ∧ (60 + i1) < 1570 then (stI (I1_13 107 (60 + i1)) (fun v_30 => (if v_30 = 8 then (some (((-1) : Int), I1_13, L1_13)) else (if v_30 = 0 then (if 1 ≤ dp then ((kf_204 n (dp - 1) e 0 I1_13 L1_13 0 0).bind (fun ⟨x2_42, I2_42, L2_42⟩ => (if x2_42 = 5 then (some (((-1) : Int), I2_42, L2_42)) else (kf_276 n dp e 1 I2_42 L2_42 i1 v_30)))) else none) else (kf_276 n dp e 1 I1_13 L1_13 i1 v_30))))) else none) else none)))) else none)))) else none))) := by rw [kf_276.eq_2, if_pos (show (0 : Nat) = 0 from rfl)]
set_option maxRecDepth 100000 in
theorem ke_276_1 (n : Nat) (dp : Nat) (e : EN) (I : JI) (L : JI) (i1 : Int) (i2 : Int) : kf_276 (n + 1) dp e 1 I L i1 i2 = (if 1 ≤ dp then ((kf_262 n (dp - 1) e 0 I L (I 107 0) (I 107 1) (I 107 2) 0 0 0).bind (fun ⟨x0_70, I0_70, L0_70⟩ => (if 0 ≤ i1 ∧ i1 < 10 then (if -2147483648 ≤ i2 + 1 ∧ i2 + 1 ≤ 2147483647 then (stI (w2 I0_70 127 i1 (i2 + 1)) (fun I_82 => (if x0_70 = 0 then (some (((-1) : Int), I_82, L0_70)) else (if 1 ≤ dp then ((kf_263 n (dp - 1) e 0 I_82 L0_70 0 0 0).bind (fun ⟨x1_88, I1_88, L1_88⟩ => (if -2147483648 ≤ x1_88 - (I1_88 105 53) ∧ x1_88 - (I1_88 105 53) ≤ 2147483647 then (some (((x1_88 - (I1_88 105 53)) : Int), I1_88, L1_88)) else none))) else none)))) else none) else none))) else none) := by rw [kf_276.eq_2, if_neg (show ¬ ((1 : Nat) = 0) by decide), if_pos (show (1 : Nat) = 1 from rfl)]
set_option maxHeartbeats 8000000 in
set_option maxRecDepth 100000 in
theorem ks_276 : ∀ (n : Nat) (dp : Nat) (e : EN) (lab : Nat) (I : Nat → Nat → Int32) (I' : JI) (L : Nat → Nat → Int64) (L' : JI) (i1 : Int32) (i1' : Int) (i2 : Int32) (i2' : Int), Rli I I' → Rll L L' → Ui i1 i1' → Ui i2 i2' → Sim R3 (g_276 n dp e lab I L i1 i2) (kf_276 n dp e lab I' L' i1' i2') := by
  intro n
  induction n with
  | zero => intros; rw [kf_276.eq_1]; exact Sn
  | succ n ih =>
    intro dp e lab I I' L L' i1 i1' i2 i2' u_I u_L u_i1 u_i2
    rw [g_276.eq_2, kf_276.eq_2]
    refine Sc Iff.rfl (fun _ => ?_) (fun _ => ?_)
    · refine SsJ (ri_up u_I (rfl : ((0 : Nat) : Int) = 0) (rfl : Ui (0) (0))) (fun I_2 I_2' u_I_2 => ?_)
      refine Sc Iff.rfl (fun c1 => ?_) (fun _ => Sn)
      refine Sb3 (ks_202 n (dp - 1) e 0 _ _ _ _ _ _ u_I_2 u_L u_i1) (fun x0_6 x0_6' I0_6 I0_6' L0_6 L0_6' u_x0_6 u_I0_6 u_L0_6 => ?_)
      refine Sc (eq_up u_x0_6 (rfl : Ui 0 0)) (fun c2 => ?_) (fun c2 => ?_)
      · exact Sr ⟨(rfl : Ui (-1) (-1)), u_I0_6, u_L0_6⟩
      · refine Sc Iff.rfl (fun c3 => ?_) (fun _ => Sn)
        refine Sb3 (ks_261 n (dp - 1) e 0 _ _ _ _ _ _ _ _ _ _ _ _ u_I0_6 u_L0_6 (rfl : Ui 0 0) (rfl : Ui 0 0) (rfl : Ui 0 0) (rfl : Ui 0 0)) (fun x1_13 x1_13' I1_13 I1_13' L1_13 L1_13' u_x1_13 u_I1_13 u_L1_13 => ?_)
        refine Sc (eq_up u_x1_13 (rfl : Ui 0 0)) (fun c4 => ?_) (fun c4 => ?_)
        · exact Sr ⟨(rfl : Ui (-1) (-1)), u_I1_13, u_L1_13⟩
        · refine Sg (fun g5 => ?_)
          refine Sc (ix_up (ui_add (rfl : Ui (60) (60)) u_i1 g5)) (fun c6 => ?_) (fun _ => Sn)
          refine SsI (ui_rd (a := 107) u_I1_13 (ui_add (rfl : Ui (60) (60)) u_i1 g5) c6.1) (fun v_30 v_30' u_v_30 => ?_)
          refine Sc (eq_up u_v_30 (rfl : Ui (8) (8))) (fun c7 => ?_) (fun c7 => ?_)
          · exact Sr ⟨(rfl : Ui (-1) (-1)), u_I1_13, u_L1_13⟩
          · refine Sc (eq_up u_v_30 (rfl : Ui 0 0)) (fun c8 => ?_) (fun c8 => ?_)
            · refine Sc Iff.rfl (fun c9 => ?_) (fun _ => Sn)
              refine Sb3 (ks_204 n (dp - 1) e 0 _ _ _ _ _ _ _ _ u_I1_13 u_L1_13 (rfl : Ui 0 0) (rfl : Ui 0 0)) (fun x2_42 x2_42' I2_42 I2_42' L2_42 L2_42' u_x2_42 u_I2_42 u_L2_42 => ?_)
              refine Sc (eq_up u_x2_42 (rfl : Ui (5) (5))) (fun c10 => ?_) (fun c10 => ?_)
              · exact Sr ⟨(rfl : Ui (-1) (-1)), u_I2_42, u_L2_42⟩
              · exact (ih dp e 1 _ _ _ _ _ _ _ _ u_I2_42 u_L2_42 u_i1 u_v_30)
            · exact (ih dp e 1 _ _ _ _ _ _ _ _ u_I1_13 u_L1_13 u_i1 u_v_30)
    refine Sc Iff.rfl (fun _ => ?_) (fun _ => ?_)
    · refine Sc Iff.rfl (fun c1 => ?_) (fun _ => Sn)
      refine Sb3 (ks_262 n (dp - 1) e 0 _ _ _ _ _ _ _ _ _ _ _ _ _ _ _ _ u_I u_L (u_I 107 0) (u_I 107 1) (u_I 107 2) (rfl : Ui 0 0) (rfl : Ui 0 0) (rfl : Ui 0 0)) (fun x0_70 x0_70' I0_70 I0_70' L0_70 L0_70' u_x0_70 u_I0_70 u_L0_70 => ?_)
      refine Sc (ix_up u_i1) (fun c2 => ?_) (fun _ => Sn)
      refine Sg (fun g3 => ?_)
      refine SsJ (ri_up u_I0_70 (kc_up u_i1 c2.1) (ui_add u_i2 (rfl : Ui (1) (1)) g3)) (fun I_82 I_82' u_I_82 => ?_)
      refine Sc (eq_up u_x0_70 (rfl : Ui 0 0)) (fun c4 => ?_) (fun c4 => ?_)
      · exact Sr ⟨(rfl : Ui (-1) (-1)), u_I_82, u_L0_70⟩
      · refine Sc Iff.rfl (fun c5 => ?_) (fun _ => Sn)
        refine Sb3 (ks_263 n (dp - 1) e 0 _ _ _ _ _ _ _ _ _ _ u_I_82 u_L0_70 (rfl : Ui 0 0) (rfl : Ui 0 0) (rfl : Ui 0 0)) (fun x1_88 x1_88' I1_88 I1_88' L1_88 L1_88' u_x1_88 u_I1_88 u_L1_88 => ?_)
        refine Sg (fun g6 => ?_)
        exact Sr ⟨(ui_sub u_x1_88 (u_I1_88 105 53) g6), u_I1_88, u_L1_88⟩
    exact Sn
set_option maxHeartbeats 4000000 in
set_option maxRecDepth 100000 in
def kf_277 : Nat → Nat → EN → Nat → JI → JI → Int → Int → Int → Int → Int → Option (Int × JI × JI)
  | 0, _, _, _, _, _, _, _, _, _, _ => none
  | n + 1, dp, e, lab, I, L, i1, i2, i3, i4, i5 =>
    if lab = 0 then (stI (w2 I 105 0 0) (fun I_2 => (if 1 ≤ dp then ((kf_197 n (dp - 1) e 0 I_2 L i1).bind (fun ⟨x0_6, I0_6, L0_6⟩ => (if x0_6 = 0 then (some (((-1) : Int), I0_6, L0_6)) else (if 1 ≤ dp then ((kf_193 n (dp - 1) e 0 I0_6 L0_6 i2 0 1).bind (fun ⟨x1_16, I1_16, L1_16⟩ => (if x1_16 = 0 then (some (((-1) : Int), I1_16, L1_16)) else (if 1 ≤ dp then ((kf_261 n (dp - 1) e 0 I1_16 L1_16 0 0 0 0).bind (fun ⟨x2_23, I2_23, L2_23⟩ => (if x2_23 = 0 then (some (((-1) : Int), I2_23, L2_23)) else (if 1 ≤ dp then ((kf_197 n (dp - 1) e 0 I2_23 L2_23 i1).bind (fun ⟨x3_35, I3_35, L3_35⟩ => (if x3_35 = 0 then (if (0 : Int) ≤ 0 ∧ (0 : Int) < 1570 then (if (I3_35 107 0) = 0 then (some (((-1) : Int), I3_35, L3_35)) else (if i1 ≤ 0 then (if i1 ≤ 1 then (if (-2147483648 ≤ (I3_35 107 0) + 0 ∧ (I3_35 107 0) + 0 ≤ 2147483647) ∧ (-2147483648 ≤ ((I3_35 107 0) + 0) + 0 ∧ ((I3_35 107 0) + 0) + 0 ≤ 2147483647) ∧ (-2147483648 ≤ (((I3_35 107 0) + 0) + 0) - 1 ∧ (((I3_35 107 0) + 0) + 0) - 1 ≤ 2147483647) then (stI ((((I3_35 107 0) + 0) + 0) - 1) (fun v_92 => (kf_277 n dp e 1 I3_35 L3_35 i1 i2 v_92 0 0))) else none) else (if (-2147483648 ≤ (I3_35 107 0) + 0 ∧ (I3_35 107 0) + 0 ≤ 2147483647) ∧ (-2147483648 ≤ ((I3_35 107 0) + 0) + (I3_35 107 2) ∧ ((I3_35 107 0) + 0) + (I3_35 107 2) ≤ 2147483647) ∧ (-2147483648 ≤ (((I3_35 107 0) + 0) + (I3_35 107 2)) - 1 ∧ (((I3_35 107 0) + 0) + (I3_35 107 2)) - 1 ≤ 2147483647) then (stI ((((I3_35 107 0) + 0) + (I3_35 107 2)) - 1) (fun v_92 => (kf_277 n dp e 1 I3_35 L3_35 i1 i2 v_92 0 0))) else none)) else (if i1 ≤ 1 then (if (-2147483648 ≤ (I3_35 107 0) + (I3_35 107 1) ∧ (I3_35 107 0) + (I3_35 107 1) ≤ 2147483647) ∧ (-2147483648 ≤ ((I3_35 107 0) + (I3_35 107 1)) + 0 ∧ ((I3_35 107 0) + (I3_35 107 1)) + 0 ≤ 2147483647) ∧ (-2147483648 ≤ (((I3_35 107 0) + (I3_35 107 1)) + 0) - 1 ∧ (((I3_35 107 0) + (I3_35 107 1)) + 0) - 1 ≤ 2147483647) then (stI ((((I3_35 107 0) + (I3_35 107 1)) + 0) - 1) (fun v_92 => (kf_277 n dp e 1 I3_35 L3_35 i1 i2 v_92 0 0))) else none) else (if (-2147483648 ≤ (I3_35 107 0) + (I3_35 107 1) ∧ (I3_35 107 0) + (I3_35 107 1) ≤ 2147483647) ∧ (-2147483648 ≤ ((I3_35 107 0) + (I3_35 107 1)) + (I3_35 107 2) ∧ ((I3_35 107 0) + (I3_35 107 1)) + (I3_35 107 2) ≤ 2147483647) ∧ (-2147483648 ≤ (((I3_35 107 0) + (I3_35 107 1)) + (I3_35 107 2)) - 1 ∧ (((I3_35 107 0) + (I3_35 107 1)) + (I3_35 107 2)) - 1 ≤ 2147483647) then (stI ((((I3_35 107 0) + (I3_35 107 1)) + (I3_35 107 2)) - 1) (fun v_92 => (kf_277 n dp e 1 I3_35 L3_35 i1 i2 v_92 0 0))) else none)))) else none) else (if -2147483648 ≤ 0 + i1 ∧ 0 + i1 ≤ 2147483647 then (if 0 ≤ (0 + i1) ∧ (0 + i1) < 1570 then (if (I3_35 107 (0 + i1)) = 0 then (some (((-1) : Int), I3_35, L3_35)) else (if i1 ≤ 0 then (if i1 ≤ 1 then (if (-2147483648 ≤ (I3_35 107 0) + 0 ∧ (I3_35 107 0) + 0 ≤ 2147483647) ∧ (-2147483648 ≤ ((I3_35 107 0) + 0) + 0 ∧ ((I3_35 107 0) + 0) + 0 ≤ 2147483647) ∧ (-2147483648 ≤ (((I3_35 107 0) + 0) + 0) - 1 ∧ (((I3_35 107 0) + 0) + 0) - 1 ≤ 2147483647) then (stI ((((I3_35 107 0) + 0) + 0) - 1) (fun v_92 => (kf_277 n dp e 1 I3_35 L3_35 i1 i2 v_92 0 0))) else none) else (if (-2147483648 ≤ (I3_35 107 0) + 0 ∧ (I3_35 107 0) + 0 ≤ 2147483647) ∧ (-2147483648 ≤ ((I3_35 107 0) + 0) + (I3_35 107 2) ∧ ((I3_35 107 0) + 0) + (I3_35 107 2) ≤ 2147483647) ∧ (-2147483648 ≤ (((I3_35 107 0) + 0) + (I3_35 107 2)) - 1 ∧ (((I3_35 107 0) + 0) + (I3_35 107 2)) - 1 ≤ 2147483647) then (stI ((((I3_35 107 0) + 0) + (I3_35 107 2)) - 1) (fun v_92 => (kf_277 n dp e 1 I3_35 L3_35 i1 i2 v_92 0 0))) else none)) else (if i1 ≤ 1 then (if (-2147483648 ≤ (I3_35 107 0) + (I3_35 107 1) ∧ (I3_35 107 0) + (I3_35 107 1) ≤ 2147483647) ∧ (-2147483648 ≤ ((I3_35 107 0) + (I3_35 107 1)) + 0 ∧ ((I3_35 107 0) + (I3_35 107 1)) + 0 ≤ 2147483647) ∧ (-2147483648 ≤ (((I3_35 107 0) + (I3_35 107 1)) + 0) - 1 ∧ (((I3_35 107 0) + (I3_35 107 1)) + 0) - 1 ≤ 2147483647) then (stI ((((I3_35 107 0) + (I3_35 107 1)) + 0) - 1) (fun v_92 => (kf_277 n dp e 1 I3_35 L3_35 i1 i2 v_92 0 0))) else none) else (if (-2147483648 ≤ (I3_35 107 0) + (I3_35 107 1) ∧ (I3_35 107 0) + (I3_35 107 1) ≤ 2147483647) ∧ (-2147483648 ≤ ((I3_35 107 0) + (I3_35 107 1)) + (I3_35 107 2) ∧ ((I3_35 107 0) + (I3_35 107 1)) + (I3_35 107 2) ≤ 2147483647) ∧ (-2147483648 ≤ (((I3_35 107 0) + (I3_35 107 1)) + (I3_35 107 2)) - 1 ∧ (((I3_35 107 0) + (I3_35 107 1)) + (I3_35 107 2)) - 1 ≤ 2147483647) then (stI ((((I3_35 107 0) + (I3_35 107 1)) + (I3_35 107 2)) - 1) (fun v_92 => (kf_277 n dp e 1 I3_35 L3_35 i1 i2 v_92 0 0))) else none)))) else none) else none)))) else none)))) else none)))) else none)))) else none)))
    else if lab = 1 then (if 1 ≤ dp then ((kf_198 n (dp - 1) e 0 I L).bind (fun ⟨x0_102, I0_102, L0_102⟩ => (if x0_102 ≤ i5 then (if i1 = 0 then (if i1 = 1 then (if i1 = 2 then (if 1 ≤ dp then (if (-2147483648 ≤ (I0_102 107 0) - 1 ∧ (I0_102 107 0) - 1 ≤ 2147483647) ∧ (-2147483648 ≤ (I0_102 107 1) - 1 ∧ (I0_102 107 1) - 1 ≤ 2147483647) ∧ (-2147483648 ≤ (I0_102 107 2) - 1 ∧ (I0_102 107 2) - 1 ≤ 2147483647) then ((kf_262 n (dp - 1) e 0 I0_102 L0_102 ((I0_102 107 0) - 1) ((I0_102 107 1) - 1) ((I0_102 107 2) - 1) 0 0 0).bind (fun ⟨x1_188, I1_188, L1_188⟩ => (if x1_188 = 0 then (some (((-1) : Int), I1_188, L1_188)) else (stI (w2 I1_188 105 48 16) (fun I_199 => (if 1 ≤ dp then ((kf_263 n (dp - 1) e 0 I_199 L1_188 0 0 0).bind (fun ⟨x2_203, I2_203, L2_203⟩ => (if (-2147483648 ≤ x2_203 + 15 ∧ x2_203 + 15 ≤ 2147483647) ∧ (-2147483647 ≤ (x2_203 + 15)) then (stI (Int.tdiv (x2_203 + 15) 16) (fun v_216 => (if i2 = 0 then (if (-2147483648 ≤ 16 * v_216 ∧ 16 * v_216 ≤ 2147483647) ∧ (-2147483648 ≤ (16 * v_216) - x2_203 ∧ (16 * v_216) - x2_203 ≤ 2147483647) then (some ((((16 * v_216) - x2_203) : Int), I2_203, L2_203)) else none) else (some ((v_216 : Int), I2_203, L2_203))))) else none))) else none)))))) else none) else none) else (if 1 ≤ dp then (if (-2147483648 ≤ (I0_102 107 0) - 1 ∧ (I0_102 107 0) - 1 ≤ 2147483647) ∧ (-2147483648 ≤ (I0_102 107 1) - 1 ∧ (I0_102 107 1) - 1 ≤ 2147483647) ∧ (-2147483648 ≤ (I0_102 107 2) - 0 ∧ (I0_102 107 2) - 0 ≤ 2147483647) then ((kf_262 n (dp - 1) e 0 I0_102 L0_102 ((I0_102 107 0) - 1) ((I0_102 107 1) - 1) ((I0_102 107 2) - 0) 0 0 0).bind (fun ⟨x1_188, I1_188, L1_188⟩ => (if x1_188 = 0 then (some (((-1) : Int), I1_188, L1_188)) else (stI (w2 I1_188 105 48 16) (fun I_199 => (if 1 ≤ dp then ((kf_263 n (dp - 1) e 0 I_199 L1_188 0 0 0).bind (fun ⟨x2_203, I2_203, L2_203⟩ => (if (-2147483648 ≤ x2_203 + 15 ∧ x2_203 + 15 ≤ 2147483647) ∧ (-2147483647 ≤ (x2_203 + 15)) then (stI (Int.tdiv (x2_203 + 15) 16) (fun v_216 => (if i2 = 0 then (if (-2147483648 ≤ 16 * v_216 ∧ 16 * v_216 ≤ 2147483647) ∧ (-2147483648 ≤ (16 * v_216) - x2_203 ∧ (16 * v_216) - x2_203 ≤ 2147483647) then (some ((((16 * v_216) - x2_203) : Int), I2_203, L2_203)) else none) else (some ((v_216 : Int), I2_203, L2_203))))) else none))) else none)))))) else none) else none)) else (if i1 = 2 then (if 1 ≤ dp then (if (-2147483648 ≤ (I0_102 107 0) - 1 ∧ (I0_102 107 0) - 1 ≤ 2147483647) ∧ (-2147483648 ≤ (I0_102 107 1) - 0 ∧ (I0_102 107 1) - 0 ≤ 2147483647) ∧ (-2147483648 ≤ (I0_102 107 2) - 1 ∧ (I0_102 107 2) - 1 ≤ 2147483647) then ((kf_262 n (dp - 1) e 0 I0_102 L0_102 ((I0_102 107 0) - 1) ((I0_102 107 1) - 0) ((I0_102 107 2) - 1) 0 0 0).bind (fun ⟨x1_188, I1_188, L1_188⟩ => (if x1_188 = 0 then (some (((-1) : Int), I1_188, L1_188)) else (stI (w2 I1_188 105 48 16) (fun I_199 => (if 1 ≤ dp then ((kf_263 n (dp - 1) e 0 I_199 L1_188 0 0 0).bind (fun ⟨x2_203, I2_203, L2_203⟩ => (if (-2147483648 ≤ x2_203 + 15 ∧ x2_203 + 15 ≤ 2147483647) ∧ (-2147483647 ≤ (x2_203 + 15)) then (stI (Int.tdiv (x2_203 + 15) 16) (fun v_216 => (if i2 = 0 then (if (-2147483648 ≤ 16 * v_216 ∧ 16 * v_216 ≤ 2147483647) ∧ (-2147483648 ≤ (16 * v_216) - x2_203 ∧ (16 * v_216) - x2_203 ≤ 2147483647) then (some ((((16 * v_216) - x2_203) : Int), I2_203, L2_203)) else none) else (some ((v_216 : Int), I2_203, L2_203))))) else none))) else none)))))) else none) else none) else (if 1 ≤ dp then (if (-2147483648 ≤ (I0_102 107 0) - 1 ∧ (I0_102 107 0) - 1 ≤ 2147483647) ∧ (-2147483648 ≤ (I0_102 107 1) - 0 ∧ (I0_102 107 1) - 0 ≤ 2147483647) ∧ (-2147483648 ≤ (I0_102 107 2) - 0 ∧ (I0_102 107 2) - 0 ≤ 2147483647) then ((kf_262 n (dp - 1) e 0 I0_102 L0_102 ((I0_102 107 0) - 1) ((I0_102 107 1) - 0) ((I0_102 107 2) - 0) 0 0 0).bind (fun ⟨x1_188, I1_188, L1_188⟩ => (if x1_188 = 0 then (some (((-1) : Int), I1_188, L1_188)) else (stI (w2 I1_188 105 48 16) (fun I_199 => (if 1 ≤ dp then ((kf_263 n (dp - 1) e 0 I_199 L1_188 0 0 0).bind (fun ⟨x2_203, I2_203, L2_203⟩ => (if (-2147483648 ≤ x2_203 + 15 ∧ x2_203 + 15 ≤ 2147483647) ∧ (-2147483647 ≤ (x2_203 + 15)) then (stI (Int.tdiv (x2_203 + 15) 16) (fun v_216 => (if i2 = 0 then (if (-2147483648 ≤ 16 * v_216 ∧ 16 * v_216 ≤ 2147483647) ∧ (-2147483648 ≤ (16 * v_216) - x2_203 ∧ (16 * v_216) - x2_203 ≤ 2147483647) then (some ((((16 * v_216) - x2_203) : Int), I2_203, L2_203)) else none) else (some ((v_216 : Int), I2_203, L2_203))))) else none))) else none)))))) else none) else none))) else (if i1 = 1 then (if i1 = 2 then (if 1 ≤ dp then (if (-2147483648 ≤ (I0_102 107 0) - 0 ∧ (I0_102 107 0) - 0 ≤ 2147483647) ∧ (-2147483648 ≤ (I0_102 107 1) - 1 ∧ (I0_102 107 1) - 1 ≤ 2147483647) ∧ (-2147483648 ≤ (I0_102 107 2) - 1 ∧ (I0_102 107 2) - 1 ≤ 2147483647) then ((kf_262 n (dp - 1) e 0 I0_102 L0_102 ((I0_102 107 0) - 0) ((I0_102 107 1) - 1) ((I0_102 107 2) - 1) 0 0 0).bind (fun ⟨x1_188, I1_188, L1_188⟩ => (if x1_188 = 0 then (some (((-1) : Int), I1_188, L1_188)) else (stI (w2 I1_188 105 48 16) (fun I_199 => (if 1 ≤ dp then ((kf_263 n (dp - 1) e 0 I_199 L1_188 0 0 0).bind (fun ⟨x2_203, I2_203, L2_203⟩ => (if (-2147483648 ≤ x2_203 + 15 ∧ x2_203 + 15 ≤ 2147483647) ∧ (-2147483647 ≤ (x2_203 + 15)) then (stI (Int.tdiv (x2_203 + 15) 16) (fun v_216 => (if i2 = 0 then (if (-2147483648 ≤ 16 * v_216 ∧ 16 * v_216 ≤ 2147483647) ∧ (-2147483648 ≤ (16 * v_216) - x2_203 ∧ (16 * v_216) - x2_203 ≤ 2147483647) then (some ((((16 * v_216) - x2_203) : Int), I2_203, L2_203)) else none) else (some ((v_216 : Int), I2_203, L2_203))))) else none))) else none)))))) else none) else none) else (if 1 ≤ dp then (if (-2147483648 ≤ (I0_102 107 0) - 0 ∧ (I0_102 107 0) - 0 ≤ 2147483647) ∧ (-2147483648 ≤ (I0_102 107 1) - 1 ∧ (I0_102 107 1) - 1 ≤ 2147483647) ∧ (-2147483648 ≤ (I0_102 107 2) - 0 ∧ (I0_102 107 2) - 0 ≤ 2147483647) then ((kf_262 n (dp - 1) e 0 I0_102 L0_102 ((I0_102 107 0) - 0) ((I0_102 107 1) - 1) ((I0_102 107 2) - 0) 0 0 0).bind (fun ⟨x1_188, I1_188, L1_188⟩ => (if x1_188 = 0 then (some (((-1) : Int), I1_188, L1_188)) else (stI (w2 I1_188 105 48 16) (fun I_199 => (if 1 ≤ dp then ((kf_263 n (dp - 1) e 0 I_199 L1_188 0 0 0).bind (fun ⟨x2_203, I2_203, L2_203⟩ => (if (-2147483648 ≤ x2_203 + 15 ∧ x2_203 + 15 ≤ 2147483647) ∧ (-2147483647 ≤ (x2_203 + 15)) then (stI (Int.tdiv (x2_203 + 15) 16) (fun v_216 => (if i2 = 0 then (if (-2147483648 ≤ 16 * v_216 ∧ 16 * v_216 ≤ 2147483647) ∧ (-2147483648 ≤ (16 * v_216) - x2_203 ∧ (16 * v_216) - x2_203 ≤ 2147483647) then (some ((((16 * v_216) - x2_203) : Int), I2_203, L2_203)) else none) else (some ((v_216 : Int), I2_203, L2_203))))) else none))) else none)))))) else none) else none)) else (if i1 = 2 then (if 1 ≤ dp then (if (-2147483648 ≤ (I0_102 107 0) - 0 ∧ (I0_102 107 0) - 0 ≤ 2147483647) ∧ (-2147483648 ≤ (I0_102 107 1) - 0 ∧ (I0_102 107 1) - 0 ≤ 2147483647) ∧ (-2147483648 ≤ (I0_102 107 2) - 1 ∧ (I0_102 107 2) - 1 ≤ 2147483647) then ((kf_262 n (dp - 1) e 0 I0_102 L0_102 ((I0_102 107 0) - 0) ((I0_102 107 1) - 0) ((I0_102 107 2) - 1) 0 0 0).bind (fun ⟨x1_188, I1_188, L1_188⟩ => (if x1_188 = 0 then (some (((-1) : Int), I1_188, L1_188)) else (stI (w2 I1_188 105 48 16) (fun I_199 => (if 1 ≤ dp then ((kf_263 n (dp - 1) e 0 I_199 L1_188 0 0 0).bind (fun ⟨x2_203, I2_203, L2_203⟩ => (if (-2147483648 ≤ x2_203 + 15 ∧ x2_203 + 15 ≤ 2147483647) ∧ (-2147483647 ≤ (x2_203 + 15)) then (stI (Int.tdiv (x2_203 + 15) 16) (fun v_216 => (if i2 = 0 then (if (-2147483648 ≤ 16 * v_216 ∧ 16 * v_216 ≤ 2147483647) ∧ (-2147483648 ≤ (16 * v_216) - x2_203 ∧ (16 * v_216) - x2_203 ≤ 2147483647) then (some ((((16 * v_216) - x2_203) : Int), I2_203, L2_203)) else none) else (some ((v_216 : Int), I2_203, L2_203))))) else none))) else none)))))) else none) else none) else (if 1 ≤ dp then (if (-2147483648 ≤ (I0_102 107 0) - 0 ∧ (I0_102 107 0) - 0 ≤ 2147483647) ∧ (-2147483648 ≤ (I0_102 107 1) - 0 ∧ (I0_102 107 1) - 0 ≤ 2147483647) ∧ (-2147483648 ≤ (I0_102 107 2) - 0 ∧ (I0_102 107 2) - 0 ≤ 2147483647) then ((kf_262 n (dp - 1) e 0 I0_102 L0_102 ((I0_102 107 0) - 0) ((I0_102 107 1) - 0) ((I0_102 107 2) - 0) 0 0 0).bind (fun ⟨x1_188, I1_188, L1_188⟩ => (if x1_188 = 0 then (some (((-1) : Int), I1_188, L1_188)) else (stI (w2 I1_188 105 48 16) (fun I_199 => (if 1 ≤ dp then ((kf_263 n (dp - 1) e 0 I_199 L1_188 0 0 0).bind (fun ⟨x2_203, I2_203, L2_203⟩ => (if (-2147483648 ≤ x2_203 + 15 ∧ x2_203 + 15 ≤ 2147483647) ∧ (-2147483647 ≤ (x2_203 + 15)) then (stI (Int.tdiv (x2_203 + 15) 16) (fun v_216 => (if i2 = 0 then (if (-2147483648 ≤ 16 * v_216 ∧ 16 * v_216 ≤ 2147483647) ∧ (-2147483648 ≤ (16 * v_216) - x2_203 ∧ (16 * v_216) - x2_203 ≤ 2147483647) then (some ((((16 * v_216) - x2_203) : Int), I2_203, L2_203)) else none) else (some ((v_216 : Int), I2_203, L2_203))))) else none))) else none)))))) else none) else none)))) else (if i5 = i3 then (kf_277 n dp e 2 I0_102 L0_102 i1 i2 i3 i4 i5) else (if 0 ≤ i5 ∧ i5 < 8 then (if 0 ≤ i4 ∧ i4 < 8 then (stI (w2 I0_102 132 i4 (I0_102 134 i5)) (fun I_127 => (if -2147483648 ≤ i4 + 1 ∧ i4 + 1 ≤ 2147483647 then (kf_277 n dp e 2 I_127 L0_102 i1 i2 i3 (i4 + 1) i5) else none))) else none) else none))))) else none)
    else if lab = 2 then (if -2147483648 ≤ i5 + 1 ∧ i5 + 1 ≤ 2147483647 then (kf_277 n dp e 1 I L i1 i2 i3 i4 (i5 + 1)) else none)
    else none
set_option maxRecDepth 100000 in
theorem ke_277_0 (n : Nat) (dp : Nat) (e : EN) (I : JI) (L : JI) (i1 : Int) (i2 : Int) (i3 : Int) (i4 : Int) (i5 : Int) : kf_277 (n + 1) dp e 0 I L i1 i2 i3 i4 i5 = (stI (w2 I 105 0 0) (fun I_2 => (if 1 ≤ dp then ((kf_197 n (dp - 1) e 0 I_2 L i1).bind (fun ⟨x0_6, I0_6, L0_6⟩ => (if x0_6 = 0 then (some (((-1) : Int), I0_6, L0_6)) else (if 1 ≤ dp then ((kf_193 n (dp - 1) e 0 I0_6 L0_6 i2 0 1).bind (fun ⟨x1_16, I1_16, L1_16⟩ => (if x1_16 = 0 then (some (((-1) : Int), I1_16, L1_16)) else (if 1 ≤ dp then ((kf_261 n (dp - 1) e 0 I1_16 L1_16 0 0 0 0).bind (fun ⟨x2_23, I2_23, L2_23⟩ => (if x2_23 = 0 then (some (((-1) : Int), I2_23, L2_23)) else (if 1 ≤ dp then ((kf_197 n (dp - 1) e 0 I2_23 L2_23 i1).bind (fun ⟨x3_35, I3_35, L3_35⟩ => (if x3_35 = 0 then (if (0 : Int) ≤ 0 ∧ (0 : Int) < 1570 then (if (I3_35 107 0) = 0 then (some (((-1) : Int), I3_35, L3_35)) else (if i1 ≤ 0 then (if i1 ≤ 1 then (if (-2147483648 ≤ (I3_35 107 0) + 0 ∧ (I3_35 107 0) + 0 ≤ 2147483647) ∧ (-2147483648 ≤ ((I3_35 107 0) + 0) + 0 ∧ ((I3_35 107 0) + 0) + 0 ≤ 2147483647) ∧ (-2147483648 ≤ (((I3_35 107 0) + 0) + 0) - 1 ∧ (((I3_35 107 0) + 0) + 0) - 1 ≤ 2147483647) then (stI ((((I3_35 107 0) + 0) + 0) - 1) (fun v_92 => (kf_277 n dp e 1 I3_35 L3_35 i1 i2 v_92 0 0))) else none) else (if (-2147483648 ≤ (I3_35 107 0) + 0 ∧ (I3_35 107 0) + 0 ≤ 2147483647) ∧ (-2147483648 ≤ ((I3_35 107 0) + 0) + (I3_35 107 2) ∧ ((I3_35 107 0) + 0) + (I3_35 107 2) ≤ 2147483647) ∧ (-2147483648 ≤ (((I3_35 107 0) + 0) + (I3_35 107 2)) - 1 ∧ (((I3_35 107 0) + 0) + (I3_35 107 2)) - 1 ≤ 2147483647) then (stI ((((I3_35 107 0) + 0) + (I3_35 107 2)) - 1) (fun v_92 => (kf_277 n dp e 1 I3_35 L3_35 i1 i2 v_92 0 0))) else none)) else (if i1 ≤ 1 then (if (-2147483648 ≤ (I3_35 107 0) + (I3_35 107 1) ∧ (I3_35 107 0) + (I3_35 107 1) ≤ 2147483647) ∧ (-2147483648 ≤ ((I3_35 107 0) + (I3_35 107 1)) + 0 ∧ ((I3_35 107 0) + (I3_35 107 1)) + 0 ≤ 2147483647) ∧ (-2147483648 ≤ (((I3_35 107 0) + (I3_35 107 1)) + 0) - 1 ∧ (((I3_35 107 0) + (I3_35 107 1)) + 0) - 1 ≤ 2147483647) then (stI ((((I3_35 107 0) + (I3_35 107 1)) + 0) - 1) (fun v_92 => (kf_277 n dp e 1 I3_35 L3_35 i1 i2 v_92 0 0))) else none) else (if (-2147483648 ≤ (I3_35 107 0) + (I3_35 107 1) ∧ (I3_35 107 0) + (I3_35 107 1) ≤ 2147483647) ∧ (-2147483648 ≤ ((I3_35 107 0) + (I3_35 107 1)) + (I3_35 107 2) ∧ ((I3_35 107 0) + (I3_35 107 1)) + (I3_35 107 2) ≤ 2147483647) ∧ (-2147483648 ≤ (((I3_35 107 0) + (I3_35 107 1)) + (I3_35 107 2)) - 1 ∧ (((I3_35 107 0) + (I3_35 107 1)) + (I3_35 107 2)) - 1 ≤ 2147483647) then (stI ((((I3_35 107 0) + (I3_35 107 1)) + (I3_35 107 2)) - 1) (fun v_92 => (kf_277 n dp e 1 I3_35 L3_35 i1 i2 v_92 0 0))) else none)))) else none) else (if -2147483648 ≤ 0 + i1 ∧ 0 + i1 ≤ 2147483647 then (if 0 ≤ (0 + i1) ∧ (0 + i1) < 1570 then (if (I3_35 107 (0 + i1)) = 0 then (some (((-1) : Int), I3_35, L3_35)) else (if i1 ≤ 0 then (if i1 ≤ 1 then (if (-2147483648 ≤ (I3_35 107 0) + 0 ∧ (I3_35 107 0) + 0 ≤ 2147483647) ∧ (-2147483648 ≤ ((I3_35 107 0) + 0) + 0 ∧ ((I3_35 107 0) + 0) + 0 ≤ 2147483647) ∧ (-2147483648 ≤ (((I3_35 107 0) + 0) + 0) - 1 ∧ (((I3_35 107 0) + 0) + 0) - 1 ≤ 2147483647) then (stI ((((I3_35 107 0) + 0) + 0) - 1) (fun v_92 => (kf_277 n dp e 1 I3_35 L3_35 i1 i2 v_92 0 0))) else none) else (if (-2147483648 ≤ (I3_35 107 0) + 0 ∧ (I3_35 107 0) + 0 ≤ 2147483647) ∧ (-2147483648 ≤ ((I3_35 107 0) + 0) + (I3_35 107 2) ∧ ((I3_35 107 0) + 0) + (I3_35 107 2) ≤ 2147483647) ∧ (-2147483648 ≤ (((I3_35 107 0) + 0) + (I3_35 107 2)) - 1 ∧ (((I3_35 107 0) + 0) + (I3_35 107 2)) - 1 ≤ 2147483647) then (stI ((((I3_35 107 0) + 0) + (I3_35 107 2)) - 1) (fun v_92 => (kf_277 n dp e 1 I3_35 L3_35 i1 i2 v_92 0 0))) else none)) else (if i1 ≤ 1 then (if (-2147483648 ≤ (I3_35 107 0) + (I3_35 107 1) ∧ (I3_35 107 0) + (I3_35 107 1) ≤ 2147483647) ∧ (-2147483648 ≤ ((I3_35 107 0) + (I3_35 107 1)) + 0 ∧ ((I3_35 107 0) + (I3_35 107 1)) + 0 ≤ 2147483647) ∧ (-2147483648 ≤ (((I3_35 107 0) + (I3_35 107 1)) + 0) - 1 ∧ (((I3_35 107 0) + (I3_35 107 1)) + 0) - 1 ≤ 2147483647) then (stI ((((I3_35 107 0) + (I3_35 107 1)) + 0) - 1) (fun v_92 => (kf_277 n dp e 1 I3_35 L3_35 i1 i2 v_92 0 0))) else none) else (if (-2147483648 ≤ (I3_35 107 0) + (I3_35 107 1) ∧ (I3_35 107 0) + (I3_35 107 1) ≤ 2147483647) ∧ (-2147483648 ≤ ((I3_35 107 0) + (I3_35 107 1)) + (I3_35 107 2) ∧ ((I3_35 107 0) + (I3_35 107 1)) + (I3_35 107 2) ≤ 2147483647) ∧ (-2147483648 ≤ (((I3_35 107 0) + (I3_35 107 1)) + (I3_35 107 2)) - 1 ∧ (((I3_35 107 0) + (I3_35 107 1)) + (I3_35 107 2)) - 1 ≤ 2147483647) then (stI ((((I3_35 107 0) + (I3_35 107 1)) + (I3_35 107 2)) - 1) (fun v_92 => (kf_277 n dp e 1 I3_35 L3_35 i1 i2 v_92 0 0))) else none)))) else none) else none)))) else none)))) else none)))) else none)))) else none))) := by rw [kf_277.eq_2, if_pos (show (0 : Nat) = 0 from rfl)]
set_option maxRecDepth 100000 in
theorem ke_277_1 (n : Nat) (dp : Nat) (e : EN) (I : JI) (L : JI) (i1 : Int) (i2 : Int) (i3 : Int) (i4 : Int) (i5 : Int) : kf_277 (n + 1) dp e 1 I L i1 i2 i3 i4 i5 = (if 1 ≤ dp then ((kf_198 n (dp - 1) e 0 I L).bind (fun ⟨x0_102, I0_102, L0_102⟩ => (if x0_102 ≤ i5 then (if i1 = 0 then (if i1 = 1 then (if i1 = 2 then (if 1 ≤ dp then (if (-2147483648 ≤ (I0_102 107 0) - 1 ∧ (I0_102 107 0) - 1 ≤ 2147483647) ∧ (-2147483648 ≤ (I0_102 107 1) - 1 ∧ (I0_102 107 1) - 1 ≤ 2147483647) ∧ (-2147483648 ≤ (I0_102 107 2) - 1 ∧ (I0_102 107 2) - 1 ≤ 2147483647) then ((kf_262 n (dp - 1) e 0 I0_102 L0_102 ((I0_102 107 0) - 1) ((I0_102 107 1) - 1) ((I0_102 107 2) - 1) 0 0 0).bind (fun ⟨x1_188, I1_188, L1_188⟩ => (if x1_188 = 0 then (some (((-1) : Int), I1_188, L1_188)) else (stI (w2 I1_188 105 48 16) (fun I_199 => (if 1 ≤ dp then ((kf_263 n (dp - 1) e 0 I_199 L1_188 0 0 0).bind (fun ⟨x2_203, I2_203, L2_203⟩ => (if (-2147483648 ≤ x2_203 + 15 ∧ x2_203 + 15 ≤ 2147483647) ∧ (-2147483647 ≤ (x2_203 + 15)) then (stI (Int.tdiv (x2_203 + 15) 16) (fun v_216 => (if i2 = 0 then (if (-2147483648 ≤ 16 * v_216 ∧ 16 * v_216 ≤ 2147483647) ∧ (-2147483648 ≤ (16 * v_216) - x2_203 ∧ (16 * v_216) - x2_203 ≤ 2147483647) then (some ((((16 * v_216) - x2_203) : Int), I2_203, L2_203)) else none) else (some ((v_216 : Int), I2_203, L2_203))))) else none))) else none)))))) else none) else none) else (if 1 ≤ dp then (if (-2147483648 ≤ (I0_102 107 0) - 1 ∧ (I0_102 107 0) - 1 ≤ 2147483647) ∧ (-2147483648 ≤ (I0_102 107 1) - 1 ∧ (I0_102 107 1) - 1 ≤ 2147483647) ∧ (-2147483648 ≤ (I0_102 107 2) - 0 ∧ (I0_102 107 2) - 0 ≤ 2147483647) then ((kf_262 n (dp - 1) e 0 I0_102 L0_102 ((I0_102 107 0) - 1) ((I0_102 107 1) - 1) ((I0_102 107 2) - 0) 0 0 0).bind (fun ⟨x1_188, I1_188, L1_188⟩ => (if x1_188 = 0 then (some (((-1) : Int), I1_188, L1_188)) else (stI (w2 I1_188 105 48 16) (fun I_199 => (if 1 ≤ dp then ((kf_263 n (dp - 1) e 0 I_199 L1_188 0 0 0).bind (fun ⟨x2_203, I2_203, L2_203⟩ => (if (-2147483648 ≤ x2_203 + 15 ∧ x2_203 + 15 ≤ 2147483647) ∧ (-2147483647 ≤ (x2_203 + 15)) then (stI (Int.tdiv (x2_203 + 15) 16) (fun v_216 => (if i2 = 0 then (if (-2147483648 ≤ 16 * v_216 ∧ 16 * v_216 ≤ 2147483647) ∧ (-2147483648 ≤ (16 * v_216) - x2_203 ∧ (16 * v_216) - x2_203 ≤ 2147483647) then (some ((((16 * v_216) - x2_203) : Int), I2_203, L2_203)) else none) else (some ((v_216 : Int), I2_203, L2_203))))) else none))) else none)))))) else none) else none)) else (if i1 = 2 then (if 1 ≤ dp then (if (-2147483648 ≤ (I0_102 107 0) - 1 ∧ (I0_102 107 0) - 1 ≤ 2147483647) ∧ (-2147483648 ≤ (I0_102 107 1) - 0 ∧ (I0_102 107 1) - 0 ≤ 2147483647) ∧ (-2147483648 ≤ (I0_102 107 2) - 1 ∧ (I0_102 107 2) - 1 ≤ 2147483647) then ((kf_262 n (dp - 1) e 0 I0_102 L0_102 ((I0_102 107 0) - 1) ((I0_102 107 1) - 0) ((I0_102 107 2) - 1) 0 0 0).bind (fun ⟨x1_188, I1_188, L1_188⟩ => (if x1_188 = 0 then (some (((-1) : Int), I1_188, L1_188)) else (stI (w2 I1_188 105 48 16) (fun I_199 => (if 1 ≤ dp then ((kf_263 n (dp - 1) e 0 I_199 L1_188 0 0 0).bind (fun ⟨x2_203, I2_203, L2_203⟩ => (if (-2147483648 ≤ x2_203 + 15 ∧ x2_203 + 15 ≤ 2147483647) ∧ (-2147483647 ≤ (x2_203 + 15)) then (stI (Int.tdiv (x2_203 + 15) 16) (fun v_216 => (if i2 = 0 then (if (-2147483648 ≤ 16 * v_216 ∧ 16 * v_216 ≤ 2147483647) ∧ (-2147483648 ≤ (16 * v_216) - x2_203 ∧ (16 * v_216) - x2_203 ≤ 2147483647) then (some ((((16 * v_216) - x2_203) : Int), I2_203, L2_203)) else none) else (some ((v_216 : Int), I2_203, L2_203))))) else none))) else none)))))) else none) else none) else (if 1 ≤ dp then (if (-2147483648 ≤ (I0_102 107 0) - 1 ∧ (I0_102 107 0) - 1 ≤ 2147483647) ∧ (-2147483648 ≤ (I0_102 107 1) - 0 ∧ (I0_102 107 1) - 0 ≤ 2147483647) ∧ (-2147483648 ≤ (I0_102 107 2) - 0 ∧ (I0_102 107 2) - 0 ≤ 2147483647) then ((kf_262 n (dp - 1) e 0 I0_102 L0_102 ((I0_102 107 0) - 1) ((I0_102 107 1) - 0) ((I0_102 107 2) - 0) 0 0 0).bind (fun ⟨x1_188, I1_188, L1_188⟩ => (if x1_188 = 0 then (some (((-1) : Int), I1_188, L1_188)) else (stI (w2 I1_188 105 48 16) (fun I_199 => (if 1 ≤ dp then ((kf_263 n (dp - 1) e 0 I_199 L1_188 0 0 0).bind (fun ⟨x2_203, I2_203, L2_203⟩ => (if (-2147483648 ≤ x2_203 + 15 ∧ x2_203 + 15 ≤ 2147483647) ∧ (-2147483647 ≤ (x2_203 + 15)) then (stI (Int.tdiv (x2_203 + 15) 16) (fun v_216 => (if i2 = 0 then (if (-2147483648 ≤ 16 * v_216 ∧ 16 * v_216 ≤ 2147483647) ∧ (-2147483648 ≤ (16 * v_216) - x2_203 ∧ (16 * v_216) - x2_203 ≤ 2147483647) then (some ((((16 * v_216) - x2_203) : Int), I2_203, L2_203)) else none) else (some ((v_216 : Int), I2_203, L2_203))))) else none))) else none)))))) else none) else none))) else (if i1 = 1 then (if i1 = 2 then (if 1 ≤ dp then (if (-2147483648 ≤ (I0_102 107 0) - 0 ∧ (I0_102 107 0) - 0 ≤ 2147483647) ∧ (-2147483648 ≤ (I0_102 107 1) - 1 ∧ (I0_102 107 1) - 1 ≤ 2147483647) ∧ (-2147483648 ≤ (I0_102 107 2) - 1 ∧ (I0_102 107 2) - 1 ≤ 2147483647) then ((kf_262 n (dp - 1) e 0 I0_102 L0_102 ((I0_102 107 0) - 0) ((I0_102 107 1) - 1) ((I0_102 107 2) - 1) 0 0 0).bind (fun ⟨x1_188, I1_188, L1_188⟩ => (if x1_188 = 0 then (some (((-1) : Int), I1_188, L1_188)) else (stI (w2 I1_188 105 48 16) (fun I_199 => (if 1 ≤ dp then ((kf_263 n (dp - 1) e 0 I_199 L1_188 0 0 0).bind (fun ⟨x2_203, I2_203, L2_203⟩ => (if (-2147483648 ≤ x2_203 + 15 ∧ x2_203 + 15 ≤ 2147483647) ∧ (-2147483647 ≤ (x2_203 + 15)) then (stI (Int.tdiv (x2_203 + 15) 16) (fun v_216 => (if i2 = 0 then (if (-2147483648 ≤ 16 * v_216 ∧ 16 * v_216 ≤ 2147483647) ∧ (-2147483648 ≤ (16 * v_216) - x2_203 ∧ (16 * v_216) - x2_203 ≤ 2147483647) then (some ((((16 * v_216) - x2_203) : Int), I2_203, L2_203)) else none) else (some ((v_216 : Int), I2_203, L2_203))))) else none))) else none)))))) else none) else none) else (if 1 ≤ dp then (if (-2147483648 ≤ (I0_102 107 0) - 0 ∧ (I0_102 107 0) - 0 ≤ 2147483647) ∧ (-2147483648 ≤ (I0_102 107 1) - 1 ∧ (I0_102 107 1) - 1 ≤ 2147483647) ∧ (-2147483648 ≤ (I0_102 107 2) - 0 ∧ (I0_102 107 2) - 0 ≤ 2147483647) then ((kf_262 n (dp - 1) e 0 I0_102 L0_102 ((I0_102 107 0) - 0) ((I0_102 107 1) - 1) ((I0_102 107 2) - 0) 0 0 0).bind (fun ⟨x1_188, I1_188, L1_188⟩ => (if x1_188 = 0 then (some (((-1) : Int), I1_188, L1_188)) else (stI (w2 I1_188 105 48 16) (fun I_199 => (if 1 ≤ dp then ((kf_263 n (dp - 1) e 0 I_199 L1_188 0 0 0).bind (fun ⟨x2_203, I2_203, L2_203⟩ => (if (-2147483648 ≤ x2_203 + 15 ∧ x2_203 + 15 ≤ 2147483647) ∧ (-2147483647 ≤ (x2_203 + 15)) then (stI (Int.tdiv (x2_203 + 15) 16) (fun v_216 => (if i2 = 0 then (if (-2147483648 ≤ 16 * v_216 ∧ 16 * v_216 ≤ 2147483647) ∧ (-2147483648 ≤ (16 * v_216) - x2_203 ∧ (16 * v_216) - x2_203 ≤ 2147483647) then (some ((((16 * v_216) - x2_203) : Int), I2_203, L2_203)) else none) else (some ((v_216 : Int), I2_203, L2_203))))) else none))) else none)))))) else none) else none)) else (if i1 = 2 then (if 1 ≤ dp then (if (-2147483648 ≤ (I0_102 107 0) - 0 ∧ (I0_102 107 0) - 0 ≤ 2147483647) ∧ (-2147483648 ≤ (I0_102 107 1) - 0 ∧ (I0_102 107 1) - 0 ≤ 2147483647) ∧ (-2147483648 ≤ (I0_102 107 2) - 1 ∧ (I0_102 107 2) - 1 ≤ 2147483647) then ((kf_262 n (dp - 1) e 0 I0_102 L0_102 ((I0_102 107 0) - 0) ((I0_102 107 1) - 0) ((I0_102 107 2) - 1) 0 0 0).bind (fun ⟨x1_188, I1_188, L1_188⟩ => (if x1_188 = 0 then (some (((-1) : Int), I1_188, L1_188)) else (stI (w2 I1_188 105 48 16) (fun I_199 => (if 1 ≤ dp then ((kf_263 n (dp - 1) e 0 I_199 L1_188 0 0 0).bind (fun ⟨x2_203, I2_203, L2_203⟩ => (if (-2147483648 ≤ x2_203 + 15 ∧ x2_203 + 15 ≤ 2147483647) ∧ (-2147483647 ≤ (x2_203 + 15)) then (stI (Int.tdiv (x2_203 + 15) 16) (fun v_216 => (if i2 = 0 then (if (-2147483648 ≤ 16 * v_216 ∧ 16 * v_216 ≤ 2147483647) ∧ (-2147483648 ≤ (16 * v_216) - x2_203 ∧ (16 * v_216) - x2_203 ≤ 2147483647) then (some ((((16 * v_216) - x2_203) : Int), I2_203, L2_203)) else none) else (some ((v_216 : Int), I2_203, L2_203))))) else none))) else none)))))) else none) else none) else (if 1 ≤ dp then (if (-2147483648 ≤ (I0_102 107 0) - 0 ∧ (I0_102 107 0) - 0 ≤ 2147483647) ∧ (-2147483648 ≤ (I0_102 107 1) - 0 ∧ (I0_102 107 1) - 0 ≤ 2147483647) ∧ (-2147483648 ≤ (I0_102 107 2) - 0 ∧ (I0_102 107 2) - 0 ≤ 2147483647) then ((kf_262 n (dp - 1) e 0 I0_102 L0_102 ((I0_102 107 0) - 0) ((I0_102 107 1) - 0) ((I0_102 107 2) - 0) 0 0 0).bind (fun ⟨x1_188, I1_188, L1_188⟩ => (if x1_188 = 0 then (some (((-1) : Int), I1_188, L1_188)) else (stI (w2 I1_188 105 48 16) (fun I_199 => (if 1 ≤ dp then ((kf_263 n (dp - 1) e 0 I_199 L1_188 0 0 0).bind (fun ⟨x2_203, I2_203, L2_203⟩ => (if (-2147483648 ≤ x2_203 + 15 ∧ x2_203 + 15 ≤ 2147483647) ∧ (-2147483647 ≤ (x2_203 + 15)) then (stI (Int.tdiv (x2_203 + 15) 16) (fun v_216 => (if i2 = 0 then (if (-2147483648 ≤ 16 * v_216 ∧ 16 * v_216 ≤ 2147483647) ∧ (-2147483648 ≤ (16 * v_216) - x2_203 ∧ (16 * v_216) - x2_203 ≤ 2147483647) then (some ((((16 * v_216) - x2_203) : Int), I2_203, L2_203)) else none) else (some ((v_216 : Int), I2_203, L2_203))))) else none))) else none)))))) else none) else none)))) else (if i5 = i3 then (kf_277 n dp e 2 I0_102 L0_102 i1 i2 i3 i4 i5) else (if 0 ≤ i5 ∧ i5 < 8 then (if 0 ≤ i4 ∧ i4 < 8 then (stI (w2 I0_102 132 i4 (I0_102 134 i5)) (fun I_127 => (if -2147483648 ≤ i4 + 1 ∧ i4 + 1 ≤ 2147483647 then (kf_277 n dp e 2 I_127 L0_102 i1 i2 i3 (i4 + 1) i5) else none))) else none) else none))))) else none) := by rw [kf_277.eq_2, if_neg (show ¬ ((1 : Nat) = 0) by decide), if_pos (show (1 : Nat) = 1 from rfl)]
set_option maxRecDepth 100000 in
theorem ke_277_2 (n : Nat) (dp : Nat) (e : EN) (I : JI) (L : JI) (i1 : Int) (i2 : Int) (i3 : Int) (i4 : Int) (i5 : Int) : kf_277 (n + 1) dp e 2 I L i1 i2 i3 i4 i5 = (if -2147483648 ≤ i5 + 1 ∧ i5 + 1 ≤ 2147483647 then (kf_277 n dp e 1 I L i1 i2 i3 i4 (i5 + 1)) else none) := by rw [kf_277.eq_2, if_neg (show ¬ ((2 : Nat) = 0) by decide), if_neg (show ¬ ((2 : Nat) = 1) by decide), if_pos (show (2 : Nat) = 2 from rfl)]
set_option maxHeartbeats 8000000 in
set_option maxRecDepth 100000 in
theorem ks_277 : ∀ (n : Nat) (dp : Nat) (e : EN) (lab : Nat) (I : Nat → Nat → Int32) (I' : JI) (L : Nat → Nat → Int64) (L' : JI) (i1 : Int32) (i1' : Int) (i2 : Int32) (i2' : Int) (i3 : Int32) (i3' : Int) (i4 : Int32) (i4' : Int) (i5 : Int32) (i5' : Int), Rli I I' → Rll L L' → Ui i1 i1' → Ui i2 i2' → Ui i3 i3' → Ui i4 i4' → Ui i5 i5' → Sim R3 (g_277 n dp e lab I L i1 i2 i3 i4 i5) (kf_277 n dp e lab I' L' i1' i2' i3' i4' i5') := by
  intro n
  induction n with
  | zero => intros; rw [kf_277.eq_1]; exact Sn
  | succ n ih =>
    intro dp e lab I I' L L' i1 i1' i2 i2' i3 i3' i4 i4' i5 i5' u_I u_L u_i1 u_i2 u_i3 u_i4 u_i5
    rw [g_277.eq_2, kf_277.eq_2]
    refine Sc Iff.rfl (fun _ => ?_) (fun _ => ?_)
    · refine SsJ (ri_up u_I (rfl : ((0 : Nat) : Int) = 0) (rfl : Ui (0) (0))) (fun I_2 I_2' u_I_2 => ?_)
      refine Sc Iff.rfl (fun c1 => ?_) (fun _ => Sn)
      refine Sb3 (ks_197 n (dp - 1) e 0 _ _ _ _ _ _ u_I_2 u_L u_i1) (fun x0_6 x0_6' I0_6 I0_6' L0_6 L0_6' u_x0_6 u_I0_6 u_L0_6 => ?_)
      refine Sc (eq_up u_x0_6 (rfl : Ui 0 0)) (fun c2 => ?_) (fun c2 => ?_)
      · exact Sr ⟨(rfl : Ui (-1) (-1)), u_I0_6, u_L0_6⟩
      · refine Sc Iff.rfl (fun c3 => ?_) (fun _ => Sn)
        refine Sb3 (ks_193 n (dp - 1) e 0 _ _ _ _ _ _ _ _ _ _ u_I0_6 u_L0_6 (ul_i2l u_i2) (rfl : Ul (0) (0)) (rfl : Ul (1) (1))) (fun x1_16 x1_16' I1_16 I1_16' L1_16 L1_16' u_x1_16 u_I1_16 u_L1_16 => ?_)
        refine Sc (eq_up u_x1_16 (rfl : Ui 0 0)) (fun c4 => ?_) (fun c4 => ?_)
        · exact Sr ⟨(rfl : Ui (-1) (-1)), u_I1_16, u_L1_16⟩
        · refine Sc Iff.rfl (fun c5 => ?_) (fun _ => Sn)
          refine Sb3 (ks_261 n (dp - 1) e 0 _ _ _ _ _ _ _ _ _ _ _ _ u_I1_16 u_L1_16 (rfl : Ui 0 0) (rfl : Ui 0 0) (rfl : Ui 0 0) (rfl : Ui 0 0)) (fun x2_23 x2_23' I2_23 I2_23' L2_23 L2_23' u_x2_23 u_I2_23 u_L2_23 => ?_)
          refine Sc (eq_up u_x2_23 (rfl : Ui 0 0)) (fun c6 => ?_) (fun c6 => ?_)
          · exact Sr ⟨(rfl : Ui (-1) (-1)), u_I2_23, u_L2_23⟩
          · refine Sc Iff.rfl (fun c7 => ?_) (fun _ => Sn)
            refine Sb3 (ks_197 n (dp - 1) e 0 _ _ _ _ _ _ u_I2_23 u_L2_23 u_i1) (fun x3_35 x3_35' I3_35 I3_35' L3_35 L3_35' u_x3_35 u_I3_35 u_L3_35 => ?_)
            refine Sc (eq_up u_x3_35 (rfl : Ui 0 0)) (fun c8 => ?_) (fun c8 => ?_)
            · refine Sc (ix_up (rfl : Ui ((0 : Int32) + 0) (0))) (fun c9 => ?_) (fun _ => Sn)
              refine Sc (eq_up (ui_rd (a := 107) u_I3_35 (rfl : Ui ((0 : Int32) + 0) (0)) (by decide)) (rfl : Ui 0 0)) (fun c10 => ?_) (fun c10 => ?_)
              · exact Sr ⟨(rfl : Ui (-1) (-1)), u_I3_35, u_L3_35⟩
              · refine Sc (le_up u_i1 (rfl : Ui 0 0)) (fun c11 => ?_) (fun c11 => ?_)
                · refine Sc (le_up u_i1 (rfl : Ui (1) (1))) (fun c12 => ?_) (fun c12 => ?_)
                  · refine Sg (fun g13 => ?_)
                    refine SsI (ui_sub (ui_add (ui_add (u_I3_35 107 0) (rfl : Ui (0) (0)) g13.1) (rfl : Ui (0) (0)) g13.2.1) (rfl : Ui (1) (1)) g13.2.2) (fun v_92 v_92' u_v_92 => ?_)
                    exact (ih dp e 1 _ _ _ _ _ _ _ _ _ _ _ _ _ _ u_I3_35 u_L3_35 u_i1 u_i2 u_v_92 (rfl : Ui (0) (0)) (rfl : Ui (0) (0)))
                  · refine Sg (fun g14 => ?_)
                    refine SsI (ui_sub (ui_add (ui_add (u_I3_35 107 0) (rfl : Ui (0) (0)) g14.1) (u_I3_35 107 2) g14.2.1) (rfl : Ui (1) (1)) g14.2.2) (fun v_92 v_92' u_v_92 => ?_)
                    exact (ih dp e 1 _ _ _ _ _ _ _ _ _ _ _ _ _ _ u_I3_35 u_L3_35 u_i1 u_i2 u_v_92 (rfl : Ui (0) (0)) (rfl : Ui (0) (0)))
                · refine Sc (le_up u_i1 (rfl : Ui (1) (1))) (fun c15 => ?_) (fun c15 => ?_)
                  · refine Sg (fun g16 => ?_)
                    refine SsI (ui_sub (ui_add (ui_add (u_I3_35 107 0) (u_I3_35 107 1) g16.1) (rfl : Ui (0) (0)) g16.2.1) (rfl : Ui (1) (1)) g16.2.2) (fun v_92 v_92' u_v_92 => ?_)
                    exact (ih dp e 1 _ _ _ _ _ _ _ _ _ _ _ _ _ _ u_I3_35 u_L3_35 u_i1 u_i2 u_v_92 (rfl : Ui (0) (0)) (rfl : Ui (0) (0)))
                  · refine Sg (fun g17 => ?_)
                    refine SsI (ui_sub (ui_add (ui_add (u_I3_35 107 0) (u_I3_35 107 1) g17.1) (u_I3_35 107 2) g17.2.1) (rfl : Ui (1) (1)) g17.2.2) (fun v_92 v_92' u_v_92 => ?_)
                    exact (ih dp e 1 _ _ _ _ _ _ _ _ _ _ _ _ _ _ u_I3_35 u_L3_35 u_i1 u_i2 u_v_92 (rfl : Ui (0) (0)) (rfl : Ui (0) (0)))
            · refine Sg (fun g18 => ?_)
              refine Sc (ix_up (ui_add (rfl : Ui (0) (0)) u_i1 g18)) (fun c19 => ?_) (fun _ => Sn)
              refine Sc (eq_up (ui_rd (a := 107) u_I3_35 (ui_add (rfl : Ui (0) (0)) u_i1 g18) c19.1) (rfl : Ui 0 0)) (fun c20 => ?_) (fun c20 => ?_)
              · exact Sr ⟨(rfl : Ui (-1) (-1)), u_I3_35, u_L3_35⟩
              · refine Sc (le_up u_i1 (rfl : Ui 0 0)) (fun c21 => ?_) (fun c21 => ?_)
                · refine Sc (le_up u_i1 (rfl : Ui (1) (1))) (fun c22 => ?_) (fun c22 => ?_)
                  · refine Sg (fun g23 => ?_)
                    refine SsI (ui_sub (ui_add (ui_add (u_I3_35 107 0) (rfl : Ui (0) (0)) g23.1) (rfl : Ui (0) (0)) g23.2.1) (rfl : Ui (1) (1)) g23.2.2) (fun v_92 v_92' u_v_92 => ?_)
                    exact (ih dp e 1 _ _ _ _ _ _ _ _ _ _ _ _ _ _ u_I3_35 u_L3_35 u_i1 u_i2 u_v_92 (rfl : Ui (0) (0)) (rfl : Ui (0) (0)))
                  · refine Sg (fun g24 => ?_)
                    refine SsI (ui_sub (ui_add (ui_add (u_I3_35 107 0) (rfl : Ui (0) (0)) g24.1) (u_I3_35 107 2) g24.2.1) (rfl : Ui (1) (1)) g24.2.2) (fun v_92 v_92' u_v_92 => ?_)
                    exact (ih dp e 1 _ _ _ _ _ _ _ _ _ _ _ _ _ _ u_I3_35 u_L3_35 u_i1 u_i2 u_v_92 (rfl : Ui (0) (0)) (rfl : Ui (0) (0)))
                · refine Sc (le_up u_i1 (rfl : Ui (1) (1))) (fun c25 => ?_) (fun c25 => ?_)
                  · refine Sg (fun g26 => ?_)
                    refine SsI (ui_sub (ui_add (ui_add (u_I3_35 107 0) (u_I3_35 107 1) g26.1) (rfl : Ui (0) (0)) g26.2.1) (rfl : Ui (1) (1)) g26.2.2) (fun v_92 v_92' u_v_92 => ?_)
                    exact (ih dp e 1 _ _ _ _ _ _ _ _ _ _ _ _ _ _ u_I3_35 u_L3_35 u_i1 u_i2 u_v_92 (rfl : Ui (0) (0)) (rfl : Ui (0) (0)))
                  · refine Sg (fun g27 => ?_)
                    refine SsI (ui_sub (ui_add (ui_add (u_I3_35 107 0) (u_I3_35 107 1) g27.1) (u_I3_35 107 2) g27.2.1) (rfl : Ui (1) (1)) g27.2.2) (fun v_92 v_92' u_v_92 => ?_)
                    exact (ih dp e 1 _ _ _ _ _ _ _ _ _ _ _ _ _ _ u_I3_35 u_L3_35 u_i1 u_i2 u_v_92 (rfl : Ui (0) (0)) (rfl : Ui (0) (0)))
    refine Sc Iff.rfl (fun _ => ?_) (fun _ => ?_)
    · refine Sc Iff.rfl (fun c1 => ?_) (fun _ => Sn)
      refine Sb3 (ks_198 n (dp - 1) e 0 _ _ _ _ u_I u_L) (fun x0_102 x0_102' I0_102 I0_102' L0_102 L0_102' u_x0_102 u_I0_102 u_L0_102 => ?_)
      refine Sc (le_up u_x0_102 u_i5) (fun c2 => ?_) (fun c2 => ?_)
      · refine Sc (eq_up u_i1 (rfl : Ui 0 0)) (fun c3 => ?_) (fun c3 => ?_)
        · refine Sc (eq_up u_i1 (rfl : Ui (1) (1))) (fun c4 => ?_) (fun c4 => ?_)
          · refine Sc (eq_up u_i1 (rfl : Ui (2) (2))) (fun c5 => ?_) (fun c5 => ?_)
            · refine Sc Iff.rfl (fun c6 => ?_) (fun _ => Sn)
              refine Sg (fun g7 => ?_)
              refine Sb3 (ks_262 n (dp - 1) e 0 _ _ _ _ _ _ _ _ _ _ _ _ _ _ _ _ u_I0_102 u_L0_102 (ui_sub (u_I0_102 107 0) (rfl : Ui (1) (1)) g7.1) (ui_sub (u_I0_102 107 1) (rfl : Ui (1) (1)) g7.2.1) (ui_sub (u_I0_102 107 2) (rfl : Ui (1) (1)) g7.2.2) (rfl : Ui 0 0) (rfl : Ui 0 0) (rfl : Ui 0 0)) (fun x1_188 x1_188' I1_188 I1_188' L1_188 L1_188' u_x1_188 u_I1_188 u_L1_188 => ?_)
              refine Sc (eq_up u_x1_188 (rfl : Ui 0 0)) (fun c8 => ?_) (fun c8 => ?_)
              · exact Sr ⟨(rfl : Ui (-1) (-1)), u_I1_188, u_L1_188⟩
              · refine SsJ (ri_up u_I1_188 (rfl : ((48 : Nat) : Int) = 48) (rfl : Ui (16) (16))) (fun I_199 I_199' u_I_199 => ?_)
                refine Sc Iff.rfl (fun c9 => ?_) (fun _ => Sn)
                refine Sb3 (ks_263 n (dp - 1) e 0 _ _ _ _ _ _ _ _ _ _ u_I_199 u_L1_188 (rfl : Ui 0 0) (rfl : Ui 0 0) (rfl : Ui 0 0)) (fun x2_203 x2_203' I2_203 I2_203' L2_203 L2_203' u_x2_203 u_I2_203 u_L2_203 => ?_)
                refine Sg (fun g10 => ?_)
                refine SsI (ui_div (ui_add u_x2_203 (rfl : Ui (15) (15)) g10.1) (rfl : Ui (16) (16)) g10.2) (fun v_216 v_216' u_v_216 => ?_)
                refine Sc (eq_up u_i2 (rfl : Ui 0 0)) (fun c11 => ?_) (fun c11 => ?_)
                · refine Sg (fun g12 => ?_)
                  exact Sr ⟨(ui_sub (ui_mul (rfl : Ui (16) (16)) u_v_216 g12.1) u_x2_203 g12.2), u_I2_203, u_L2_203⟩
                · exact Sr ⟨u_v_216, u_I2_203, u_L2_203⟩
            · refine Sc Iff.rfl (fun c13 => ?_) (fun _ => Sn)
              refine Sg (fun g14 => ?_)
              refine Sb3 (ks_262 n (dp - 1) e 0 _ _ _ _ _ _ _ _ _ _ _ _ _ _ _ _ u_I0_102 u_L0_102 (ui_sub (u_I0_102 107 0) (rfl : Ui (1) (1)) g14.1) (ui_sub (u_I0_102 107 1) (rfl : Ui (1) (1)) g14.2.1) (ui_sub (u_I0_102 107 2) (rfl : Ui (0) (0)) g14.2.2) (rfl : Ui 0 0) (rfl : Ui 0 0) (rfl : Ui 0 0)) (fun x1_188 x1_188' I1_188 I1_188' L1_188 L1_188' u_x1_188 u_I1_188 u_L1_188 => ?_)
              refine Sc (eq_up u_x1_188 (rfl : Ui 0 0)) (fun c15 => ?_) (fun c15 => ?_)
              · exact Sr ⟨(rfl : Ui (-1) (-1)), u_I1_188, u_L1_188⟩
              · refine SsJ (ri_up u_I1_188 (rfl : ((48 : Nat) : Int) = 48) (rfl : Ui (16) (16))) (fun I_199 I_199' u_I_199 => ?_)
                refine Sc Iff.rfl (fun c16 => ?_) (fun _ => Sn)
                refine Sb3 (ks_263 n (dp - 1) e 0 _ _ _ _ _ _ _ _ _ _ u_I_199 u_L1_188 (rfl : Ui 0 0) (rfl : Ui 0 0) (rfl : Ui 0 0)) (fun x2_203 x2_203' I2_203 I2_203' L2_203 L2_203' u_x2_203 u_I2_203 u_L2_203 => ?_)
                refine Sg (fun g17 => ?_)
                refine SsI (ui_div (ui_add u_x2_203 (rfl : Ui (15) (15)) g17.1) (rfl : Ui (16) (16)) g17.2) (fun v_216 v_216' u_v_216 => ?_)
                refine Sc (eq_up u_i2 (rfl : Ui 0 0)) (fun c18 => ?_) (fun c18 => ?_)
                · refine Sg (fun g19 => ?_)
                  exact Sr ⟨(ui_sub (ui_mul (rfl : Ui (16) (16)) u_v_216 g19.1) u_x2_203 g19.2), u_I2_203, u_L2_203⟩
                · exact Sr ⟨u_v_216, u_I2_203, u_L2_203⟩
          · refine Sc (eq_up u_i1 (rfl : Ui (2) (2))) (fun c20 => ?_) (fun c20 => ?_)
            · refine Sc Iff.rfl (fun c21 => ?_) (fun _ => Sn)
              refine Sg (fun g22 => ?_)
              refine Sb3 (ks_262 n (dp - 1) e 0 _ _ _ _ _ _ _ _ _ _ _ _ _ _ _ _ u_I0_102 u_L0_102 (ui_sub (u_I0_102 107 0) (rfl : Ui (1) (1)) g22.1) (ui_sub (u_I0_102 107 1) (rfl : Ui (0) (0)) g22.2.1) (ui_sub (u_I0_102 107 2) (rfl : Ui (1) (1)) g22.2.2) (rfl : Ui 0 0) (rfl : Ui 0 0) (rfl : Ui 0 0)) (fun x1_188 x1_188' I1_188 I1_188' L1_188 L1_188' u_x1_188 u_I1_188 u_L1_188 => ?_)
              refine Sc (eq_up u_x1_188 (rfl : Ui 0 0)) (fun c23 => ?_) (fun c23 => ?_)
              · exact Sr ⟨(rfl : Ui (-1) (-1)), u_I1_188, u_L1_188⟩
              · refine SsJ (ri_up u_I1_188 (rfl : ((48 : Nat) : Int) = 48) (rfl : Ui (16) (16))) (fun I_199 I_199' u_I_199 => ?_)
                refine Sc Iff.rfl (fun c24 => ?_) (fun _ => Sn)
                refine Sb3 (ks_263 n (dp - 1) e 0 _ _ _ _ _ _ _ _ _ _ u_I_199 u_L1_188 (rfl : Ui 0 0) (rfl : Ui 0 0) (rfl : Ui 0 0)) (fun x2_203 x2_203' I2_203 I2_203' L2_203 L2_203' u_x2_203 u_I2_203 u_L2_203 => ?_)
                refine Sg (fun g25 => ?_)
                refine SsI (ui_div (ui_add u_x2_203 (rfl : Ui (15) (15)) g25.1) (rfl : Ui (16) (16)) g25.2) (fun v_216 v_216' u_v_216 => ?_)
                refine Sc (eq_up u_i2 (rfl : Ui 0 0)) (fun c26 => ?_) (fun c26 => ?_)
                · refine Sg (fun g27 => ?_)
                  exact Sr ⟨(ui_sub (ui_mul (rfl : Ui (16) (16)) u_v_216 g27.1) u_x2_203 g27.2), u_I2_203, u_L2_203⟩
                · exact Sr ⟨u_v_216, u_I2_203, u_L2_203⟩
            · refine Sc Iff.rfl (fun c28 => ?_) (fun _ => Sn)
              refine Sg (fun g29 => ?_)
              refine Sb3 (ks_262 n (dp - 1) e 0 _ _ _ _ _ _ _ _ _ _ _ _ _ _ _ _ u_I0_102 u_L0_102 (ui_sub (u_I0_102 107 0) (rfl : Ui (1) (1)) g29.1) (ui_sub (u_I0_102 107 1) (rfl : Ui (0) (0)) g29.2.1) (ui_sub (u_I0_102 107 2) (rfl : Ui (0) (0)) g29.2.2) (rfl : Ui 0 0) (rfl : Ui 0 0) (rfl : Ui 0 0)) (fun x1_188 x1_188' I1_188 I1_188' L1_188 L1_188' u_x1_188 u_I1_188 u_L1_188 => ?_)
              refine Sc (eq_up u_x1_188 (rfl : Ui 0 0)) (fun c30 => ?_) (fun c30 => ?_)
              · exact Sr ⟨(rfl : Ui (-1) (-1)), u_I1_188, u_L1_188⟩
              · refine SsJ (ri_up u_I1_188 (rfl : ((48 : Nat) : Int) = 48) (rfl : Ui (16) (16))) (fun I_199 I_199' u_I_199 => ?_)
                refine Sc Iff.rfl (fun c31 => ?_) (fun _ => Sn)
                refine Sb3 (ks_263 n (dp - 1) e 0 _ _ _ _ _ _ _ _ _ _ u_I_199 u_L1_188 (rfl : Ui 0 0) (rfl : Ui 0 0) (rfl : Ui 0 0)) (fun x2_203 x2_203' I2_203 I2_203' L2_203 L2_203' u_x2_203 u_I2_203 u_L2_203 => ?_)
                refine Sg (fun g32 => ?_)
                refine SsI (ui_div (ui_add u_x2_203 (rfl : Ui (15) (15)) g32.1) (rfl : Ui (16) (16)) g32.2) (fun v_216 v_216' u_v_216 => ?_)
                refine Sc (eq_up u_i2 (rfl : Ui 0 0)) (fun c33 => ?_) (fun c33 => ?_)
                · refine Sg (fun g34 => ?_)
                  exact Sr ⟨(ui_sub (ui_mul (rfl : Ui (16) (16)) u_v_216 g34.1) u_x2_203 g34.2), u_I2_203, u_L2_203⟩
                · exact Sr ⟨u_v_216, u_I2_203, u_L2_203⟩
        · refine Sc (eq_up u_i1 (rfl : Ui (1) (1))) (fun c35 => ?_) (fun c35 => ?_)
          · refine Sc (eq_up u_i1 (rfl : Ui (2) (2))) (fun c36 => ?_) (fun c36 => ?_)
            · refine Sc Iff.rfl (fun c37 => ?_) (fun _ => Sn)
              refine Sg (fun g38 => ?_)
              refine Sb3 (ks_262 n (dp - 1) e 0 _ _ _ _ _ _ _ _ _ _ _ _ _ _ _ _ u_I0_102 u_L0_102 (ui_sub (u_I0_102 107 0) (rfl : Ui (0) (0)) g38.1) (ui_sub (u_I0_102 107 1) (rfl : Ui (1) (1)) g38.2.1) (ui_sub (u_I0_102 107 2) (rfl : Ui (1) (1)) g38.2.2) (rfl : Ui 0 0) (rfl : Ui 0 0) (rfl : Ui 0 0)) (fun x1_188 x1_188' I1_188 I1_188' L1_188 L1_188' u_x1_188 u_I1_188 u_L1_188 => ?_)
              refine Sc (eq_up u_x1_188 (rfl : Ui 0 0)) (fun c39 => ?_) (fun c39 => ?_)
              · exact Sr ⟨(rfl : Ui (-1) (-1)), u_I1_188, u_L1_188⟩
              · refine SsJ (ri_up u_I1_188 (rfl : ((48 : Nat) : Int) = 48) (rfl : Ui (16) (16))) (fun I_199 I_199' u_I_199 => ?_)
                refine Sc Iff.rfl (fun c40 => ?_) (fun _ => Sn)
                refine Sb3 (ks_263 n (dp - 1) e 0 _ _ _ _ _ _ _ _ _ _ u_I_199 u_L1_188 (rfl : Ui 0 0) (rfl : Ui 0 0) (rfl : Ui 0 0)) (fun x2_203 x2_203' I2_203 I2_203' L2_203 L2_203' u_x2_203 u_I2_203 u_L2_203 => ?_)
                refine Sg (fun g41 => ?_)
                refine SsI (ui_div (ui_add u_x2_203 (rfl : Ui (15) (15)) g41.1) (rfl : Ui (16) (16)) g41.2) (fun v_216 v_216' u_v_216 => ?_)
                refine Sc (eq_up u_i2 (rfl : Ui 0 0)) (fun c42 => ?_) (fun c42 => ?_)
                · refine Sg (fun g43 => ?_)
                  exact Sr ⟨(ui_sub (ui_mul (rfl : Ui (16) (16)) u_v_216 g43.1) u_x2_203 g43.2), u_I2_203, u_L2_203⟩
                · exact Sr ⟨u_v_216, u_I2_203, u_L2_203⟩
            · refine Sc Iff.rfl (fun c44 => ?_) (fun _ => Sn)
              refine Sg (fun g45 => ?_)
              refine Sb3 (ks_262 n (dp - 1) e 0 _ _ _ _ _ _ _ _ _ _ _ _ _ _ _ _ u_I0_102 u_L0_102 (ui_sub (u_I0_102 107 0) (rfl : Ui (0) (0)) g45.1) (ui_sub (u_I0_102 107 1) (rfl : Ui (1) (1)) g45.2.1) (ui_sub (u_I0_102 107 2) (rfl : Ui (0) (0)) g45.2.2) (rfl : Ui 0 0) (rfl : Ui 0 0) (rfl : Ui 0 0)) (fun x1_188 x1_188' I1_188 I1_188' L1_188 L1_188' u_x1_188 u_I1_188 u_L1_188 => ?_)
              refine Sc (eq_up u_x1_188 (rfl : Ui 0 0)) (fun c46 => ?_) (fun c46 => ?_)
              · exact Sr ⟨(rfl : Ui (-1) (-1)), u_I1_188, u_L1_188⟩
              · refine SsJ (ri_up u_I1_188 (rfl : ((48 : Nat) : Int) = 48) (rfl : Ui (16) (16))) (fun I_199 I_199' u_I_199 => ?_)
                refine Sc Iff.rfl (fun c47 => ?_) (fun _ => Sn)
                refine Sb3 (ks_263 n (dp - 1) e 0 _ _ _ _ _ _ _ _ _ _ u_I_199 u_L1_188 (rfl : Ui 0 0) (rfl : Ui 0 0) (rfl : Ui 0 0)) (fun x2_203 x2_203' I2_203 I2_203' L2_203 L2_203' u_x2_203 u_I2_203 u_L2_203 => ?_)
                refine Sg (fun g48 => ?_)
                refine SsI (ui_div (ui_add u_x2_203 (rfl : Ui (15) (15)) g48.1) (rfl : Ui (16) (16)) g48.2) (fun v_216 v_216' u_v_216 => ?_)
                refine Sc (eq_up u_i2 (rfl : Ui 0 0)) (fun c49 => ?_) (fun c49 => ?_)
                · refine Sg (fun g50 => ?_)
                  exact Sr ⟨(ui_sub (ui_mul (rfl : Ui (16) (16)) u_v_216 g50.1) u_x2_203 g50.2), u_I2_203, u_L2_203⟩
                · exact Sr ⟨u_v_216, u_I2_203, u_L2_203⟩
          · refine Sc (eq_up u_i1 (rfl : Ui (2) (2))) (fun c51 => ?_) (fun c51 => ?_)
            · refine Sc Iff.rfl (fun c52 => ?_) (fun _ => Sn)
              refine Sg (fun g53 => ?_)
              refine Sb3 (ks_262 n (dp - 1) e 0 _ _ _ _ _ _ _ _ _ _ _ _ _ _ _ _ u_I0_102 u_L0_102 (ui_sub (u_I0_102 107 0) (rfl : Ui (0) (0)) g53.1) (ui_sub (u_I0_102 107 1) (rfl : Ui (0) (0)) g53.2.1) (ui_sub (u_I0_102 107 2) (rfl : Ui (1) (1)) g53.2.2) (rfl : Ui 0 0) (rfl : Ui 0 0) (rfl : Ui 0 0)) (fun x1_188 x1_188' I1_188 I1_188' L1_188 L1_188' u_x1_188 u_I1_188 u_L1_188 => ?_)
              refine Sc (eq_up u_x1_188 (rfl : Ui 0 0)) (fun c54 => ?_) (fun c54 => ?_)
              · exact Sr ⟨(rfl : Ui (-1) (-1)), u_I1_188, u_L1_188⟩
              · refine SsJ (ri_up u_I1_188 (rfl : ((48 : Nat) : Int) = 48) (rfl : Ui (16) (16))) (fun I_199 I_199' u_I_199 => ?_)
                refine Sc Iff.rfl (fun c55 => ?_) (fun _ => Sn)
                refine Sb3 (ks_263 n (dp - 1) e 0 _ _ _ _ _ _ _ _ _ _ u_I_199 u_L1_188 (rfl : Ui 0 0) (rfl : Ui 0 0) (rfl : Ui 0 0)) (fun x2_203 x2_203' I2_203 I2_203' L2_203 L2_203' u_x2_203 u_I2_203 u_L2_203 => ?_)
                refine Sg (fun g56 => ?_)
                refine SsI (ui_div (ui_add u_x2_203 (rfl : Ui (15) (15)) g56.1) (rfl : Ui (16) (16)) g56.2) (fun v_216 v_216' u_v_216 => ?_)
                refine Sc (eq_up u_i2 (rfl : Ui 0 0)) (fun c57 => ?_) (fun c57 => ?_)
                · refine Sg (fun g58 => ?_)
                  exact Sr ⟨(ui_sub (ui_mul (rfl : Ui (16) (16)) u_v_216 g58.1) u_x2_203 g58.2), u_I2_203, u_L2_203⟩
                · exact Sr ⟨u_v_216, u_I2_203, u_L2_203⟩
            · refine Sc Iff.rfl (fun c59 => ?_) (fun _ => Sn)
              refine Sg (fun g60 => ?_)
              refine Sb3 (ks_262 n (dp - 1) e 0 _ _ _ _ _ _ _ _ _ _ _ _ _ _ _ _ u_I0_102 u_L0_102 (ui_sub (u_I0_102 107 0) (rfl : Ui (0) (0)) g60.1) (ui_sub (u_I0_102 107 1) (rfl : Ui (0) (0)) g60.2.1) (ui_sub (u_I0_102 107 2) (rfl : Ui (0) (0)) g60.2.2) (rfl : Ui 0 0) (rfl : Ui 0 0) (rfl : Ui 0 0)) (fun x1_188 x1_188' I1_188 I1_188' L1_188 L1_188' u_x1_188 u_I1_188 u_L1_188 => ?_)
              refine Sc (eq_up u_x1_188 (rfl : Ui 0 0)) (fun c61 => ?_) (fun c61 => ?_)
              · exact Sr ⟨(rfl : Ui (-1) (-1)), u_I1_188, u_L1_188⟩
              · refine SsJ (ri_up u_I1_188 (rfl : ((48 : Nat) : Int) = 48) (rfl : Ui (16) (16))) (fun I_199 I_199' u_I_199 => ?_)
                refine Sc Iff.rfl (fun c62 => ?_) (fun _ => Sn)
                refine Sb3 (ks_263 n (dp - 1) e 0 _ _ _ _ _ _ _ _ _ _ u_I_199 u_L1_188 (rfl : Ui 0 0) (rfl : Ui 0 0) (rfl : Ui 0 0)) (fun x2_203 x2_203' I2_203 I2_203' L2_203 L2_203' u_x2_203 u_I2_203 u_L2_203 => ?_)
                refine Sg (fun g63 => ?_)
                refine SsI (ui_div (ui_add u_x2_203 (rfl : Ui (15) (15)) g63.1) (rfl : Ui (16) (16)) g63.2) (fun v_216 v_216' u_v_216 => ?_)
                refine Sc (eq_up u_i2 (rfl : Ui 0 0)) (fun c64 => ?_) (fun c64 => ?_)
                · refine Sg (fun g65 => ?_)
                  exact Sr ⟨(ui_sub (ui_mul (rfl : Ui (16) (16)) u_v_216 g65.1) u_x2_203 g65.2), u_I2_203, u_L2_203⟩
                · exact Sr ⟨u_v_216, u_I2_203, u_L2_203⟩
      · refine Sc (eq_up u_i5 u_i3) (fun c66 => ?_) (fun c66 => ?_)
        · exact (ih dp e 2 _ _ _ _ _ _ _ _ _ _ _ _ _ _ u_I0_102 u_L0_102 u_i1 u_i2 u_i3 u_i4 u_i5)
        · refine Sc (ix_up u_i5) (fun c67 => ?_) (fun _ => Sn)
          refine Sc (ix_up u_i4) (fun c68 => ?_) (fun _ => Sn)
          refine SsJ (ri_up u_I0_102 (kc_up u_i4 c68.1) (ui_rd (a := 134) u_I0_102 u_i5 c67.1)) (fun I_127 I_127' u_I_127 => ?_)
          refine Sg (fun g69 => ?_)
          exact (ih dp e 2 _ _ _ _ _ _ _ _ _ _ _ _ _ _ u_I_127 u_L0_102 u_i1 u_i2 u_i3 (ui_add u_i4 (rfl : Ui (Int32.ofInt (1)) (1)) g69) u_i5)
    refine Sc Iff.rfl (fun _ => ?_) (fun _ => ?_)
    · refine Sg (fun g1 => ?_)
      exact (ih dp e 1 _ _ _ _ _ _ _ _ _ _ _ _ _ _ u_I u_L u_i1 u_i2 u_i3 u_i4 (ui_add u_i5 (rfl : Ui (Int32.ofInt (1)) (1)) g1))
    exact Sn
set_option maxHeartbeats 4000000 in
set_option maxRecDepth 100000 in
def kf_278 : Nat → Nat → EN → Nat → JI → JI → Int → Int → Option (Int × JI × JI)
  | 0, _, _, _, _, _, _, _ => none
  | n + 1, dp, e, lab, I, L, i1, i2 =>
    if lab = 0 then (stI (w2 I 105 0 0) (fun I_2 => (if 1 ≤ dp then ((kf_193 n (dp - 1) e 0 I_2 L i1 0 7).bind (fun ⟨x0_11, I0_11, L0_11⟩ => (if x0_11 = 0 then (if 1 ≤ dp then ((kf_194 n (dp - 1) e 0 I0_11 L0_11 (-1)).bind (fun ⟨x1_43, I1_43, L1_43⟩ => (some ((x1_43 : Int), I1_43, L1_43)))) else none) else (if 1 ≤ dp then ((kf_193 n (dp - 1) e 0 I0_11 L0_11 i2 0 63).bind (fun ⟨x1_23, I1_23, L1_23⟩ => (if x1_23 = 0 then (if 1 ≤ dp then ((kf_194 n (dp - 1) e 0 I1_23 L1_23 (-1)).bind (fun ⟨x2_43, I2_43, L2_43⟩ => (some ((x2_43 : Int), I2_43, L2_43)))) else none) else (if 1 ≤ dp then (if -2147483648 ≤ 74 + i1 ∧ 74 + i1 ≤ 2147483647 then ((kf_199 n (dp - 1) e 0 I1_23 L1_23 (74 + i1) i2).bind (fun ⟨x2_35, I2_35, L2_35⟩ => (some ((x2_35 : Int), I2_35, L2_35)))) else none) else none)))) else none)))) else none)))
    else none
set_option maxRecDepth 100000 in
theorem ke_278_0 (n : Nat) (dp : Nat) (e : EN) (I : JI) (L : JI) (i1 : Int) (i2 : Int) : kf_278 (n + 1) dp e 0 I L i1 i2 = (stI (w2 I 105 0 0) (fun I_2 => (if 1 ≤ dp then ((kf_193 n (dp - 1) e 0 I_2 L i1 0 7).bind (fun ⟨x0_11, I0_11, L0_11⟩ => (if x0_11 = 0 then (if 1 ≤ dp then ((kf_194 n (dp - 1) e 0 I0_11 L0_11 (-1)).bind (fun ⟨x1_43, I1_43, L1_43⟩ => (some ((x1_43 : Int), I1_43, L1_43)))) else none) else (if 1 ≤ dp then ((kf_193 n (dp - 1) e 0 I0_11 L0_11 i2 0 63).bind (fun ⟨x1_23, I1_23, L1_23⟩ => (if x1_23 = 0 then (if 1 ≤ dp then ((kf_194 n (dp - 1) e 0 I1_23 L1_23 (-1)).bind (fun ⟨x2_43, I2_43, L2_43⟩ => (some ((x2_43 : Int), I2_43, L2_43)))) else none) else (if 1 ≤ dp then (if -2147483648 ≤ 74 + i1 ∧ 74 + i1 ≤ 2147483647 then ((kf_199 n (dp - 1) e 0 I1_23 L1_23 (74 + i1) i2).bind (fun ⟨x2_35, I2_35, L2_35⟩ => (some ((x2_35 : Int), I2_35, L2_35)))) else none) else none)))) else none)))) else none))) := by rw [kf_278.eq_2, if_pos (show (0 : Nat) = 0 from rfl)]
set_option maxHeartbeats 8000000 in
set_option maxRecDepth 100000 in
theorem ks_278 : ∀ (n : Nat) (dp : Nat) (e : EN) (lab : Nat) (I : Nat → Nat → Int32) (I' : JI) (L : Nat → Nat → Int64) (L' : JI) (i1 : Int32) (i1' : Int) (i2 : Int32) (i2' : Int), Rli I I' → Rll L L' → Ui i1 i1' → Ui i2 i2' → Sim R3 (g_278 n dp e lab I L i1 i2) (kf_278 n dp e lab I' L' i1' i2') := by
  intro n
  induction n with
  | zero => intros; rw [kf_278.eq_1]; exact Sn
  | succ n ih =>
    intro dp e lab I I' L L' i1 i1' i2 i2' u_I u_L u_i1 u_i2
    rw [g_278.eq_2, kf_278.eq_2]
    refine Sc Iff.rfl (fun _ => ?_) (fun _ => ?_)
    · refine SsJ (ri_up u_I (rfl : ((0 : Nat) : Int) = 0) (rfl : Ui (0) (0))) (fun I_2 I_2' u_I_2 => ?_)
      refine Sc Iff.rfl (fun c1 => ?_) (fun _ => Sn)
      refine Sb3 (ks_193 n (dp - 1) e 0 _ _ _ _ _ _ _ _ _ _ u_I_2 u_L (ul_i2l u_i1) (rfl : Ul (0) (0)) (rfl : Ul (7) (7))) (fun x0_11 x0_11' I0_11 I0_11' L0_11 L0_11' u_x0_11 u_I0_11 u_L0_11 => ?_)
      refine Sc (eq_up u_x0_11 (rfl : Ui 0 0)) (fun c2 => ?_) (fun c2 => ?_)
      · refine Sc Iff.rfl (fun c3 => ?_) (fun _ => Sn)
        refine Sb3 (ks_194 n (dp - 1) e 0 _ _ _ _ _ _ u_I0_11 u_L0_11 (rfl : Ui (-1) (-1))) (fun x1_43 x1_43' I1_43 I1_43' L1_43 L1_43' u_x1_43 u_I1_43 u_L1_43 => ?_)
        exact Sr ⟨u_x1_43, u_I1_43, u_L1_43⟩
      · refine Sc Iff.rfl (fun c4 => ?_) (fun _ => Sn)
        refine Sb3 (ks_193 n (dp - 1) e 0 _ _ _ _ _ _ _ _ _ _ u_I0_11 u_L0_11 (ul_i2l u_i2) (rfl : Ul (0) (0)) (rfl : Ul (63) (63))) (fun x1_23 x1_23' I1_23 I1_23' L1_23 L1_23' u_x1_23 u_I1_23 u_L1_23 => ?_)
        refine Sc (eq_up u_x1_23 (rfl : Ui 0 0)) (fun c5 => ?_) (fun c5 => ?_)
        · refine Sc Iff.rfl (fun c6 => ?_) (fun _ => Sn)
          refine Sb3 (ks_194 n (dp - 1) e 0 _ _ _ _ _ _ u_I1_23 u_L1_23 (rfl : Ui (-1) (-1))) (fun x2_43 x2_43' I2_43 I2_43' L2_43 L2_43' u_x2_43 u_I2_43 u_L2_43 => ?_)
          exact Sr ⟨u_x2_43, u_I2_43, u_L2_43⟩
        · refine Sc Iff.rfl (fun c7 => ?_) (fun _ => Sn)
          refine Sg (fun g8 => ?_)
          refine Sb3 (ks_199 n (dp - 1) e 0 _ _ _ _ _ _ _ _ u_I1_23 u_L1_23 (ui_add (rfl : Ui (74) (74)) u_i1 g8) u_i2) (fun x2_35 x2_35' I2_35 I2_35' L2_35 L2_35' u_x2_35 u_I2_35 u_L2_35 => ?_)
          exact Sr ⟨u_x2_35, u_I2_35, u_L2_35⟩
    exact Sn
set_option maxHeartbeats 4000000 in
set_option maxRecDepth 100000 in
def kf_280 : Nat → Nat → EN → Nat → JI → JI → Int → Option (Int × JI × JI)
  | 0, _, _, _, _, _, _ => none
  | n + 1, dp, e, lab, I, L, i1 =>
    if lab = 0 then (if (I 107 0) ≤ i1 then (if -2147483648 ≤ (I 107 0) + (I 107 1) ∧ (I 107 0) + (I 107 1) ≤ 2147483647 then (if ((I 107 0) + (I 107 1)) ≤ i1 then (some ((2 : Int), I, L)) else (some ((1 : Int), I, L))) else none) else (some ((0 : Int), I, L)))
    else none
set_option maxRecDepth 100000 in
theorem ke_280_0 (n : Nat) (dp : Nat) (e : EN) (I : JI) (L : JI) (i1 : Int) : kf_280 (n + 1) dp e 0 I L i1 = (if (I 107 0) ≤ i1 then (if -2147483648 ≤ (I 107 0) + (I 107 1) ∧ (I 107 0) + (I 107 1) ≤ 2147483647 then (if ((I 107 0) + (I 107 1)) ≤ i1 then (some ((2 : Int), I, L)) else (some ((1 : Int), I, L))) else none) else (some ((0 : Int), I, L))) := by rw [kf_280.eq_2, if_pos (show (0 : Nat) = 0 from rfl)]
set_option maxHeartbeats 8000000 in
set_option maxRecDepth 100000 in
theorem ks_280 : ∀ (n : Nat) (dp : Nat) (e : EN) (lab : Nat) (I : Nat → Nat → Int32) (I' : JI) (L : Nat → Nat → Int64) (L' : JI) (i1 : Int32) (i1' : Int), Rli I I' → Rll L L' → Ui i1 i1' → Sim R3 (g_280 n dp e lab I L i1) (kf_280 n dp e lab I' L' i1') := by
  intro n
  induction n with
  | zero => intros; rw [kf_280.eq_1]; exact Sn
  | succ n ih =>
    intro dp e lab I I' L L' i1 i1' u_I u_L u_i1
    rw [g_280.eq_2, kf_280.eq_2]
    refine Sc Iff.rfl (fun _ => ?_) (fun _ => ?_)
    · refine Sc (le_up (u_I 107 0) u_i1) (fun c1 => ?_) (fun c1 => ?_)
      · refine Sg (fun g2 => ?_)
        refine Sc (le_up (ui_add (u_I 107 0) (u_I 107 1) g2) u_i1) (fun c3 => ?_) (fun c3 => ?_)
        · exact Sr ⟨(rfl : Ui (2) (2)), u_I, u_L⟩
        · exact Sr ⟨(rfl : Ui (1) (1)), u_I, u_L⟩
      · exact Sr ⟨(rfl : Ui (0) (0)), u_I, u_L⟩
    exact Sn
set_option maxHeartbeats 4000000 in
set_option maxRecDepth 100000 in
def kf_281 : Nat → Nat → EN → Nat → JI → JI → Int → Option (Int × JI × JI)
  | 0, _, _, _, _, _, _ => none
  | n + 1, dp, e, lab, I, L, i1 =>
    if lab = 0 then (if -2147483648 ≤ 74 + i1 ∧ 74 + i1 ≤ 2147483647 then (if 0 ≤ (74 + i1) ∧ (74 + i1) < 1570 then (if 1 ≤ dp then ((kf_280 n (dp - 1) e 0 I L i1).bind (fun ⟨x0_15, I0_15, L0_15⟩ => (if 0 ≤ x0_15 ∧ x0_15 < 3 then (if (I0_15 120 x0_15) ≤ (I 107 (74 + i1)) then (some ((0 : Int), I0_15, L0_15)) else (if 0 ≤ (74 + i1) ∧ (74 + i1) < 1570 then (some (((I0_15 107 (74 + i1)) : Int), I0_15, L0_15)) else none)) else none))) else none) else none) else none)
    else none
set_option maxRecDepth 100000 in
theorem ke_281_0 (n : Nat) (dp : Nat) (e : EN) (I : JI) (L : JI) (i1 : Int) : kf_281 (n + 1) dp e 0 I L i1 = (if -2147483648 ≤ 74 + i1 ∧ 74 + i1 ≤ 2147483647 then (if 0 ≤ (74 + i1) ∧ (74 + i1) < 1570 then (if 1 ≤ dp then ((kf_280 n (dp - 1) e 0 I L i1).bind (fun ⟨x0_15, I0_15, L0_15⟩ => (if 0 ≤ x0_15 ∧ x0_15 < 3 then (if (I0_15 120 x0_15) ≤ (I 107 (74 + i1)) then (some ((0 : Int), I0_15, L0_15)) else (if 0 ≤ (74 + i1) ∧ (74 + i1) < 1570 then (some (((I0_15 107 (74 + i1)) : Int), I0_15, L0_15)) else none)) else none))) else none) else none) else none) := by rw [kf_281.eq_2, if_pos (show (0 : Nat) = 0 from rfl)]
set_option maxHeartbeats 8000000 in
set_option maxRecDepth 100000 in
theorem ks_281 : ∀ (n : Nat) (dp : Nat) (e : EN) (lab : Nat) (I : Nat → Nat → Int32) (I' : JI) (L : Nat → Nat → Int64) (L' : JI) (i1 : Int32) (i1' : Int), Rli I I' → Rll L L' → Ui i1 i1' → Sim R3 (g_281 n dp e lab I L i1) (kf_281 n dp e lab I' L' i1') := by
  intro n
  induction n with
  | zero => intros; rw [kf_281.eq_1]; exact Sn
  | succ n ih =>
    intro dp e lab I I' L L' i1 i1' u_I u_L u_i1
    rw [g_281.eq_2, kf_281.eq_2]
    refine Sc Iff.rfl (fun _ => ?_) (fun _ => ?_)
    · refine Sg (fun g1 => ?_)
      refine Sc (ix_up (ui_add (rfl : Ui (74) (74)) u_i1 g1)) (fun c2 => ?_) (fun _ => Sn)
      refine Sc Iff.rfl (fun c3 => ?_) (fun _ => Sn)
      refine Sb3 (ks_280 n (dp - 1) e 0 _ _ _ _ _ _ u_I u_L u_i1) (fun x0_15 x0_15' I0_15 I0_15' L0_15 L0_15' u_x0_15 u_I0_15 u_L0_15 => ?_)
      refine Sc (ix_up u_x0_15) (fun c4 => ?_) (fun _ => Sn)
      refine Sc (le_up (ui_rd (a := 120) u_I0_15 u_x0_15 c4.1) (ui_rd (a := 107) u_I (ui_add (rfl : Ui (74) (74)) u_i1 g1) c2.1)) (fun c5 => ?_) (fun c5 => ?_)
      · exact Sr ⟨(rfl : Ui (0) (0)), u_I0_15, u_L0_15⟩
      · refine Sc (ix_up (ui_add (rfl : Ui (74) (74)) u_i1 g1)) (fun c6 => ?_) (fun _ => Sn)
        exact Sr ⟨(ui_rd (a := 107) u_I0_15 (ui_add (rfl : Ui (74) (74)) u_i1 g1) c6.1), u_I0_15, u_L0_15⟩
    exact Sn
set_option maxHeartbeats 4000000 in
set_option maxRecDepth 100000 in
def kf_279 : Nat → Nat → EN → Nat → JI → JI → Int → Int → Int → Int → Int → Int → Int → Option (Int × JI × JI)
  | 0, _, _, _, _, _, _, _, _, _, _, _, _ => none
  | n + 1, dp, e, lab, I, L, i1, i2, i3, i4, i5, i6, i7 =>
    if lab = 0 then (stI (w2 I 105 0 0) (fun I_2 => (if 1 ≤ dp then ((kf_193 n (dp - 1) e 0 I_2 L i1 0 3).bind (fun ⟨x0_11, I0_11, L0_11⟩ => (if x0_11 = 0 then (some (((-1) : Int), I0_11, L0_11)) else (if 1 ≤ dp then ((kf_261 n (dp - 1) e 0 I0_11 L0_11 0 0 0 0).bind (fun ⟨x1_18, I1_18, L1_18⟩ => (if x1_18 = 0 then (some (((-1) : Int), I1_18, L1_18)) else (kf_279 n dp e 1 I1_18 L1_18 i1 0 0 0 0 0 0)))) else none)))) else none)))
    else if lab = 1 then (if 10 ≤ i5 then (kf_279 n dp e 3 I L i1 i2 i3 i4 0 0 0) else (kf_279 n dp e 2 I L i1 i2 i3 i4 i5 0 0))
    else if lab = 2 then (if 1 ≤ dp then ((kf_198 n (dp - 1) e 0 I L).bind (fun ⟨x0_52, I0_52, L0_52⟩ => (if x0_52 ≤ i7 then (if -2147483648 ≤ 60 + i5 ∧ 60 + i5 ≤ 2147483647 then (if 0 ≤ (60 + i5) ∧ (60 + i5) < 1570 then (stI (I0_52 107 (60 + i5)) (fun v_107 => (if v_107 ≤ i6 then (if -2147483648 ≤ 40 + i5 ∧ 40 + i5 ≤ 2147483647 then (if 0 ≤ (40 + i5) ∧ (40 + i5) < 1570 then (if i6 ≤ v_107 then (if -2147483648 ≤ 50 + i5 ∧ 50 + i5 ≤ 2147483647 then (if 0 ≤ (50 + i5) ∧ (50 + i5) < 1570 then (if (-2147483648 ≤ v_107 * (I0_52 107 (40 + i5)) ∧ v_107 * (I0_52 107 (40 + i5)) ≤ 2147483647) ∧ (-2147483648 ≤ 0 * (I0_52 107 (50 + i5)) ∧ 0 * (I0_52 107 (50 + i5)) ≤ 2147483647) ∧ (-2147483648 ≤ (v_107 * (I0_52 107 (40 + i5))) + (0 * (I0_52 107 (50 + i5))) ∧ (v_107 * (I0_52 107 (40 + i5))) + (0 * (I0_52 107 (50 + i5))) ≤ 2147483647) ∧ (-2147483648 ≤ i2 + ((v_107 * (I0_52 107 (40 + i5))) + (0 * (I0_52 107 (50 + i5)))) ∧ i2 + ((v_107 * (I0_52 107 (40 + i5))) + (0 * (I0_52 107 (50 + i5)))) ≤ 2147483647) then (stI (i2 + ((v_107 * (I0_52 107 (40 + i5))) + (0 * (I0_52 107 (50 + i5))))) (fun v_164 => (if 1 ≤ dp then ((kf_272 n (dp - 1) e 0 I0_52 L0_52 v_107 i6).bind (fun ⟨x1_171, I1_171, L1_171⟩ => (if (-2147483648 ≤ i4 + x1_171 ∧ i4 + x1_171 ≤ 2147483647) ∧ (-2147483648 ≤ i5 + 1 ∧ i5 + 1 ≤ 2147483647) then (kf_279 n dp e 1 I1_171 L1_171 i1 v_164 i3 (i4 + x1_171) (i5 + 1) 0 0) else none))) else none))) else none) else none) else none) else (if -2147483648 ≤ 50 + i5 ∧ 50 + i5 ≤ 2147483647 then (if 0 ≤ (50 + i5) ∧ (50 + i5) < 1570 then (if (-2147483648 ≤ v_107 * (I0_52 107 (40 + i5)) ∧ v_107 * (I0_52 107 (40 + i5)) ≤ 2147483647) ∧ (-2147483648 ≤ i6 - v_107 ∧ i6 - v_107 ≤ 2147483647) ∧ (-2147483648 ≤ (i6 - v_107) * (I0_52 107 (50 + i5)) ∧ (i6 - v_107) * (I0_52 107 (50 + i5)) ≤ 2147483647) ∧ (-2147483648 ≤ (v_107 * (I0_52 107 (40 + i5))) + ((i6 - v_107) * (I0_52 107 (50 + i5))) ∧ (v_107 * (I0_52 107 (40 + i5))) + ((i6 - v_107) * (I0_52 107 (50 + i5))) ≤ 2147483647) ∧ (-2147483648 ≤ i2 + ((v_107 * (I0_52 107 (40 + i5))) + ((i6 - v_107) * (I0_52 107 (50 + i5)))) ∧ i2 + ((v_107 * (I0_52 107 (40 + i5))) + ((i6 - v_107) * (I0_52 107 (50 + i5)))) ≤ 2147483647) then (stI (i2 + ((v_107 * (I0_52 107 (40 + i5))) + ((i6 - v_107) * (I0_52 107 (50 + i5))))) (fun v_164 => (if 1 ≤ dp then ((kf_272 n (dp - 1) e 0 I0_52 L0_52 v_107 i6).bind (fun ⟨x1_171, I1_171, L1_171⟩ => (if (-2147483648 ≤ i4 + x1_171 ∧ i4 + x1_171 ≤ 2147483647) ∧ (-2147483648 ≤ i5 + 1 ∧ i5 + 1 ≤ 2147483647) then (kf_279 n dp e 1 I1_171 L1_171 i1 v_164 i3 (i4 + x1_171) (i5 + 1) 0 0) else none))) else none))) else none) else none) else none)) else none) else none) else (if -2147483648 ≤ 40 + i5 ∧ 40 + i5 ≤ 2147483647 then (if 0 ≤ (40 + i5) ∧ (40 + i5) < 1570 then (if i6 ≤ v_107 then (if -2147483648 ≤ 50 + i5 ∧ 50 + i5 ≤ 2147483647 then (if 0 ≤ (50 + i5) ∧ (50 + i5) < 1570 then (if (-2147483648 ≤ i6 * (I0_52 107 (40 + i5)) ∧ i6 * (I0_52 107 (40 + i5)) ≤ 2147483647) ∧ (-2147483648 ≤ 0 * (I0_52 107 (50 + i5)) ∧ 0 * (I0_52 107 (50 + i5)) ≤ 2147483647) ∧ (-2147483648 ≤ (i6 * (I0_52 107 (40 + i5))) + (0 * (I0_52 107 (50 + i5))) ∧ (i6 * (I0_52 107 (40 + i5))) + (0 * (I0_52 107 (50 + i5))) ≤ 2147483647) ∧ (-2147483648 ≤ i2 + ((i6 * (I0_52 107 (40 + i5))) + (0 * (I0_52 107 (50 + i5)))) ∧ i2 + ((i6 * (I0_52 107 (40 + i5))) + (0 * (I0_52 107 (50 + i5)))) ≤ 2147483647) then (stI (i2 + ((i6 * (I0_52 107 (40 + i5))) + (0 * (I0_52 107 (50 + i5))))) (fun v_164 => (if 1 ≤ dp then ((kf_272 n (dp - 1) e 0 I0_52 L0_52 v_107 i6).bind (fun ⟨x1_171, I1_171, L1_171⟩ => (if (-2147483648 ≤ i4 + x1_171 ∧ i4 + x1_171 ≤ 2147483647) ∧ (-2147483648 ≤ i5 + 1 ∧ i5 + 1 ≤ 2147483647) then (kf_279 n dp e 1 I1_171 L1_171 i1 v_164 i3 (i4 + x1_171) (i5 + 1) 0 0) else none))) else none))) else none) else none) else none) else (if -2147483648 ≤ 50 + i5 ∧ 50 + i5 ≤ 2147483647 then (if 0 ≤ (50 + i5) ∧ (50 + i5) < 1570 then (if (-2147483648 ≤ i6 * (I0_52 107 (40 + i5)) ∧ i6 * (I0_52 107 (40 + i5)) ≤ 2147483647) ∧ (-2147483648 ≤ i6 - v_107 ∧ i6 - v_107 ≤ 2147483647) ∧ (-2147483648 ≤ (i6 - v_107) * (I0_52 107 (50 + i5)) ∧ (i6 - v_107) * (I0_52 107 (50 + i5)) ≤ 2147483647) ∧ (-2147483648 ≤ (i6 * (I0_52 107 (40 + i5))) + ((i6 - v_107) * (I0_52 107 (50 + i5))) ∧ (i6 * (I0_52 107 (40 + i5))) + ((i6 - v_107) * (I0_52 107 (50 + i5))) ≤ 2147483647) ∧ (-2147483648 ≤ i2 + ((i6 * (I0_52 107 (40 + i5))) + ((i6 - v_107) * (I0_52 107 (50 + i5)))) ∧ i2 + ((i6 * (I0_52 107 (40 + i5))) + ((i6 - v_107) * (I0_52 107 (50 + i5)))) ≤ 2147483647) then (stI (i2 + ((i6 * (I0_52 107 (40 + i5))) + ((i6 - v_107) * (I0_52 107 (50 + i5))))) (fun v_164 => (if 1 ≤ dp then ((kf_272 n (dp - 1) e 0 I0_52 L0_52 v_107 i6).bind (fun ⟨x1_171, I1_171, L1_171⟩ => (if (-2147483648 ≤ i4 + x1_171 ∧ i4 + x1_171 ≤ 2147483647) ∧ (-2147483648 ≤ i5 + 1 ∧ i5 + 1 ≤ 2147483647) then (kf_279 n dp e 1 I1_171 L1_171 i1 v_164 i3 (i4 + x1_171) (i5 + 1) 0 0) else none))) else none))) else none) else none) else none)) else none) else none)))) else none) else none) else (if 1 ≤ dp then ((kf_280 n (dp - 1) e 0 I0_52 L0_52 i7).bind (fun ⟨x1_70, I1_70, L1_70⟩ => (if 1 ≤ dp then ((kf_281 n (dp - 1) e 0 I1_70 L1_70 i7).bind (fun ⟨x2_79, I2_79, L2_79⟩ => (if (-2147483648 ≤ 640 * x1_70 ∧ 640 * x1_70 ≤ 2147483647) ∧ (-2147483648 ≤ 10 * x2_79 ∧ 10 * x2_79 ≤ 2147483647) ∧ (-2147483648 ≤ (640 * x1_70) + (10 * x2_79) ∧ (640 * x1_70) + (10 * x2_79) ≤ 2147483647) ∧ (-2147483648 ≤ ((640 * x1_70) + (10 * x2_79)) + i5 ∧ ((640 * x1_70) + (10 * x2_79)) + i5 ≤ 2147483647) then (if 0 ≤ (((640 * x1_70) + (10 * x2_79)) + i5) ∧ (((640 * x1_70) + (10 * x2_79)) + i5) < 1920 then (if -2147483648 ≤ i6 + (I2_79 122 (((640 * x1_70) + (10 * x2_79)) + i5)) ∧ i6 + (I2_79 122 (((640 * x1_70) + (10 * x2_79)) + i5)) ≤ 2147483647 then (stI (i6 + (I2_79 122 (((640 * x1_70) + (10 * x2_79)) + i5))) (fun v_89 => (if -2147483648 ≤ i7 + 1 ∧ i7 + 1 ≤ 2147483647 then (kf_279 n dp e 2 I2_79 L2_79 i1 i2 i3 i4 i5 v_89 (i7 + 1)) else none))) else none) else none) else none))) else none))) else none)))) else none)
    else if lab = 3 then (if 1 ≤ dp then ((kf_198 n (dp - 1) e 0 I L).bind (fun ⟨x0_189, I0_189, L0_189⟩ => (if x0_189 ≤ i5 then (if i1 = 0 then (some ((i2 : Int), I0_189, L0_189)) else (if i1 = 1 then (if -2147483648 ≤ (I0_189 105 53) - i2 ∧ (I0_189 105 53) - i2 ≤ 2147483647 then (some ((((I0_189 105 53) - i2) : Int), I0_189, L0_189)) else none) else (if i1 = 2 then (some ((i3 : Int), I0_189, L0_189)) else (some ((i4 : Int), I0_189, L0_189))))) else (if 1 ≤ dp then ((kf_281 n (dp - 1) e 0 I0_189 L0_189 i5).bind (fun ⟨x1_199, I1_199, L1_199⟩ => (if 0 ≤ i5 ∧ i5 < 8 then (if x1_199 = (I1_199 134 i5) then (if (-2147483648 ≤ i3 + 0 ∧ i3 + 0 ≤ 2147483647) ∧ (-2147483648 ≤ i5 + 1 ∧ i5 + 1 ≤ 2147483647) then (kf_279 n dp e 3 I1_199 L1_199 i1 i2 (i3 + 0) i4 (i5 + 1) 0 0) else none) else (if (-2147483648 ≤ i3 + 1 ∧ i3 + 1 ≤ 2147483647) ∧ (-2147483648 ≤ i5 + 1 ∧ i5 + 1 ≤ 2147483647) then (kf_279 n dp e 3 I1_199 L1_199 i1 i2 (i3 + 1) i4 (i5 + 1) 0 0) else none)) else none))) else none)))) else none)
    else none
set_option maxRecDepth 100000 in
theorem ke_279_0 (n : Nat) (dp : Nat) (e : EN) (I : JI) (L : JI) (i1 : Int) (i2 : Int) (i3 : Int) (i4 : Int) (i5 : Int) (i6 : Int) (i7 : Int) : kf_279 (n + 1) dp e 0 I L i1 i2 i3 i4 i5 i6 i7 = (stI (w2 I 105 0 0) (fun I_2 => (if 1 ≤ dp then ((kf_193 n (dp - 1) e 0 I_2 L i1 0 3).bind (fun ⟨x0_11, I0_11, L0_11⟩ => (if x0_11 = 0 then (some (((-1) : Int), I0_11, L0_11)) else (if 1 ≤ dp then ((kf_261 n (dp - 1) e 0 I0_11 L0_11 0 0 0 0).bind (fun ⟨x1_18, I1_18, L1_18⟩ => (if x1_18 = 0 then (some (((-1) : Int), I1_18, L1_18)) else (kf_279 n dp e 1 I1_18 L1_18 i1 0 0 0 0 0 0)))) else none)))) else none))) := by rw [kf_279.eq_2, if_pos (show (0 : Nat) = 0 from rfl)]
set_option maxRecDepth 100000 in
theorem ke_279_1 (n : Nat) (dp : Nat) (e : EN) (I : JI) (L : JI) (i1 : Int) (i2 : Int) (i3 : Int) (i4 : Int) (i5 : Int) (i6 : Int) (i7 : Int) : kf_279 (n + 1) dp e 1 I L i1 i2 i3 i4 i5 i6 i7 = (if 10 ≤ i5 then (kf_279 n dp e 3 I L i1 i2 i3 i4 0 0 0) else (kf_279 n dp e 2 I L i1 i2 i3 i4 i5 0 0)) := by rw [kf_279.eq_2, if_neg (show ¬ ((1 : Nat) = 0) by decide), if_pos (show (1 : Nat) = 1 from rfl)]
set_option maxRecDepth 100000 in
theorem ke_279_2 (n : Nat) (dp : Nat) (e : EN) (I : JI) (L : JI) (i1 : Int) (i2 : Int) (i3 : Int) (i4 : Int) (i5 : Int) (i6 : Int) (i7 : Int) : kf_279 (n + 1) dp e 2 I L i1 i2 i3 i4 i5 i6 i7 = (if 1 ≤ dp then ((kf_198 n (dp - 1) e 0 I L).bind (fun ⟨x0_52, I0_52, L0_52⟩ => (if x0_52 ≤ i7 then (if -2147483648 ≤ 60 + i5 ∧ 60 + i5 ≤ 2147483647 then (if 0 ≤ (60 + i5) ∧ (60 + i5) < 1570 then (stI (I0_52 107 (60 + i5)) (fun v_107 => (if v_107 ≤ i6 then (if -2147483648 ≤ 40 + i5 ∧ 40 + i5 ≤ 2147483647 then (if 0 ≤ (40 + i5) ∧ (40 + i5) < 1570 then (if i6 ≤ v_107 then (if -2147483648 ≤ 50 + i5 ∧ 50 + i5 ≤ 2147483647 then (if 0 ≤ (50 + i5) ∧ (50 + i5) < 1570 then (if (-2147483648 ≤ v_107 * (I0_52 107 (40 + i5)) ∧ v_107 * (I0_52 107 (40 + i5)) ≤ 2147483647) ∧ (-2147483648 ≤ 0 * (I0_52 107 (50 + i5)) ∧ 0 * (I0_52 107 (50 + i5)) ≤ 2147483647) ∧ (-2147483648 ≤ (v_107 * (I0_52 107 (40 + i5))) + (0 * (I0_52 107 (50 + i5))) ∧ (v_107 * (I0_52 107 (40 + i5))) + (0 * (I0_52 107 (50 + i5))) ≤ 2147483647) ∧ (-2147483648 ≤ i2 + ((v_107 * (I0_52 107 (40 + i5))) + (0 * (I0_52 107 (50 + i5)))) ∧ i2 + ((v_107 * (I0_52 107 (40 + i5))) + (0 * (I0_52 107 (50 + i5)))) ≤ 2147483647) then (stI (i2 + ((v_107 * (I0_52 107 (40 + i5))) + (0 * (I0_52 107 (50 + i5))))) (fun v_164 => (if 1 ≤ dp then ((kf_272 n (dp - 1) e 0 I0_52 L0_52 v_107 i6).bind (fun ⟨x1_171, I1_171, L1_171⟩ => (if (-2147483648 ≤ i4 + x1_171 ∧ i4 + x1_171 ≤ 2147483647) ∧ (-2147483648 ≤ i5 + 1 ∧ i5 + 1 ≤ 2147483647) then (kf_279 n dp e 1 I1_171 L1_171 i1 v_164 i3 (i4 + x1_171) (i5 + 1) 0 0) else none))) else none))) else none) else none) else none) else (if -2147483648 ≤ 50 + i5 ∧ 50 + i5 ≤ 2147483647 then (if 0 ≤ (50 + i5) ∧ (50 + i5) < 1570 then (if (-2147483648 ≤ v_107 * (I0_52 107 (40 + i5)) ∧ v_107 * (I0_52 107 (40 + i5)) ≤ 2147483647) ∧ (-2147483648 ≤ i6 - v_107 ∧ i6 - v_107 ≤ 2147483647) ∧ (-2147483648 ≤ (i6 - v_107) * (I0_52 107 (50 + i5)) ∧ (i6 - v_107) * (I0_52 107 (50 + i5)) ≤ 2147483647) ∧ (-2147483648 ≤ (v_107 * (I0_52 107 (40 + i5))) + ((i6 - v_107) * (I0_52 107 (50 + i5))) ∧ (v_107 * (I0_52 107 (40 + i5))) + ((i6 - v_107) * (I0_52 107 (50 + i5))) ≤ 2147483647) ∧ (-2147483648 ≤ i2 + ((v_107 * (I0_52 107 (40 + i5))) + ((i6 - v_107) * (I0_52 107 (50 + i5)))) ∧ i2 + ((v_107 * (I0_52 107 (40 + i5))) + ((i6 - v_107) * (I0_52 107 (50 + i5)))) ≤ 2147483647) then (stI (i2 + ((v_107 * (I0_52 107 (40 + i5))) + ((i6 - v_107) * (I0_52 107 (50 + i5))))) (fun v_164 => (if 1 ≤ dp then ((kf_272 n (dp - 1) e 0 I0_52 L0_52 v_107 i6).bind (fun ⟨x1_171, I1_171, L1_171⟩ => (if (-2147483648 ≤ i4 + x1_171 ∧ i4 + x1_171 ≤ 2147483647) ∧ (-2147483648 ≤ i5 + 1 ∧ i5 + 1 ≤ 2147483647) then (kf_279 n dp e 1 I1_171 L1_171 i1 v_164 i3 (i4 + x1_171) (i5 + 1) 0 0) else none))) else none))) else none) else none) else none)) else none) else none) else (if -2147483648 ≤ 40 + i5 ∧ 40 + i5 ≤ 2147483647 then (if 0 ≤ (40 + i5) ∧ (40 + i5) < 1570 then (if i6 ≤ v_107 then (if -2147483648 ≤ 50 + i5 ∧ 50 + i5 ≤ 2147483647 then (if 0 ≤ (50 + i5) ∧ (50 + i5) < 1570 then (if (-2147483648 ≤ i6 * (I0_52 107 (40 + i5)) ∧ i6 * (I0_52 107 (40 + i5)) ≤ 2147483647) ∧ (-2147483648 ≤ 0 * (I0_52 107 (50 + i5)) ∧ 0 * (I0_52 107 (50 + i5)) ≤ 2147483647) ∧ (-2147483648 ≤ (i6 * (I0_52 107 (40 + i5))) + (0 * (I0_52 107 (50 + i5))) ∧ (i6 * (I0_52 107 (40 + i5))) + (0 * (I0_52 107 (50 + i5))) ≤ 2147483647) ∧ (-2147483648 ≤ i2 + ((i6 * (I0_52 107 (40 + i5))) + (0 * (I0_52 107 (50 + i5)))) ∧ i2 + ((i6 * (I0_52 107 (40 + i5))) + (0 * (I0_52 107 (50 + i5)))) ≤ 2147483647) then (stI (i2 + ((i6 * (I0_52 107 (40 + i5))) + (0 * (I0_52 107 (50 + i5))))) (fun v_164 => (if 1 ≤ dp then ((kf_272 n (dp - 1) e 0 I0_52 L0_52 v_107 i6).bind (fun ⟨x1_171, I1_171, L1_171⟩ => (if (-2147483648 ≤ i4 + x1_171 ∧ i4 + x1_171 ≤ 2147483647) ∧ (-2147483648 ≤ i5 + 1 ∧ i5 + 1 ≤ 2147483647) then (kf_279 n dp e 1 I1_171 L1_171 i1 v_164 i3 (i4 + x1_171) (i5 + 1) 0 0) else none))) else none))) else none) else none) else none) else (if -2147483648 ≤ 50 + i5 ∧ 50 + i5 ≤ 2147483647 then (if 0 ≤ (50 + i5) ∧ (50 + i5) < 1570 then (if (-2147483648 ≤ i6 * (I0_52 107 (40 + i5)) ∧ i6 * (I0_52 107 (40 + i5)) ≤ 2147483647) ∧ (-2147483648 ≤ i6 - v_107 ∧ i6 - v_107 ≤ 2147483647) ∧ (-2147483648 ≤ (i6 - v_107) * (I0_52 107 (50 + i5)) ∧ (i6 - v_107) * (I0_52 107 (50 + i5)) ≤ 2147483647) ∧ (-2147483648 ≤ (i6 * (I0_52 107 (40 + i5))) + ((i6 - v_107) * (I0_52 107 (50 + i5))) ∧ (i6 * (I0_52 107 (40 + i5))) + ((i6 - v_107) * (I0_52 107 (50 + i5))) ≤ 2147483647) ∧ (-2147483648 ≤ i2 + ((i6 * (I0_52 107 (40 + i5))) + ((i6 - v_107) * (I0_52 107 (50 + i5)))) ∧ i2 + ((i6 * (I0_52 107 (40 + i5))) + ((i6 - v_107) * (I0_52 107 (50 + i5)))) ≤ 2147483647) then (stI (i2 + ((i6 * (I0_52 107 (40 + i5))) + ((i6 - v_107) * (I0_52 107 (50 + i5))))) (fun v_164 => (if 1 ≤ dp then ((kf_272 n (dp - 1) e 0 I0_52 L0_52 v_107 i6).bind (fun ⟨x1_171, I1_171, L1_171⟩ => (if (-2147483648 ≤ i4 + x1_171 ∧ i4 + x1_171 ≤ 2147483647) ∧ (-2147483648 ≤ i5 + 1 ∧ i5 + 1 ≤ 2147483647) then (kf_279 n dp e 1 I1_171 L1_171 i1 v_164 i3 (i4 + x1_171) (i5 + 1) 0 0) else none))) else none))) else none) else none) else none)) else none) else none)))) else none) else none) else (if 1 ≤ dp then ((kf_280 n (dp - 1) e 0 I0_52 L0_52 i7).bind (fun ⟨x1_70, I1_70, L1_70⟩ => (if 1 ≤ dp then ((kf_281 n (dp - 1) e 0 I1_70 L1_70 i7).bind (fun ⟨x2_79, I2_79, L2_79⟩ => (if (-2147483648 ≤ 640 * x1_70 ∧ 640 * x1_70 ≤ 2147483647) ∧ (-2147483648 ≤ 10 * x2_79 ∧ 10 * x2_79 ≤ 2147483647) ∧ (-2147483648 ≤ (640 * x1_70) + (10 * x2_79) ∧ (640 * x1_70) + (10 * x2_79) ≤ 2147483647) ∧ (-2147483648 ≤ ((640 * x1_70) + (10 * x2_79)) + i5 ∧ ((640 * x1_70) + (10 * x2_79)) + i5 ≤ 2147483647) then (if 0 ≤ (((640 * x1_70) + (10 * x2_79)) + i5) ∧ (((640 * x1_70) + (10 * x2_79)) + i5) < 1920 then (if -2147483648 ≤ i6 + (I2_79 122 (((640 * x1_70) + (10 * x2_79)) + i5)) ∧ i6 + (I2_79 122 (((640 * x1_70) + (10 * x2_79)) + i5)) ≤ 2147483647 then (stI (i6 + (I2_79 122 (((640 * x1_70) + (10 * x2_79)) + i5))) (fun v_89 => (if -2147483648 ≤ i7 + 1 ∧ i7 + 1 ≤ 2147483647 then (kf_279 n dp e 2 I2_79 L2_79 i1 i2 i3 i4 i5 v_89 (i7 + 1)) else none))) else none) else none) else none))) else none))) else none)))) else none) := by rw [kf_279.eq_2, if_neg (show ¬ ((2 : Nat) = 0) by decide), if_neg (show ¬ ((2 : Nat) = 1) by decide), if_pos (show (2 : Nat) = 2 from rfl)]
set_option maxRecDepth 100000 in
theorem ke_279_3 (n : Nat) (dp : Nat) (e : EN) (I : JI) (L : JI) (i1 : Int) (i2 : Int) (i3 : Int) (i4 : Int) (i5 : Int) (i6 : Int) (i7 : Int) : kf_279 (n + 1) dp e 3 I L i1 i2 i3 i4 i5 i6 i7 = (if 1 ≤ dp then ((kf_198 n (dp - 1) e 0 I L).bind (fun ⟨x0_189, I0_189, L0_189⟩ => (if x0_189 ≤ i5 then (if i1 = 0 then (some ((i2 : Int), I0_189, L0_189)) else (if i1 = 1 then (if -2147483648 ≤ (I0_189 105 53) - i2 ∧ (I0_189 105 53) - i2 ≤ 2147483647 then (some ((((I0_189 105 53) - i2) : Int), I0_189, L0_189)) else none) else (if i1 = 2 then (some ((i3 : Int), I0_189, L0_189)) else (some ((i4 : Int), I0_189, L0_189))))) else (if 1 ≤ dp then ((kf_281 n (dp - 1) e 0 I0_189 L0_189 i5).bind (fun ⟨x1_199, I1_199, L1_199⟩ => (if 0 ≤ i5 ∧ i5 < 8 then (if x1_199 = (I1_199 134 i5) then (if (-2147483648 ≤ i3 + 0 ∧ i3 + 0 ≤ 2147483647) ∧ (-2147483648 ≤ i5 + 1 ∧ i5 + 1 ≤ 2147483647) then (kf_279 n dp e 3 I1_199 L1_199 i1 i2 (i3 + 0) i4 (i5 + 1) 0 0) else none) else (if (-2147483648 ≤ i3 + 1 ∧ i3 + 1 ≤ 2147483647) ∧ (-2147483648 ≤ i5 + 1 ∧ i5 + 1 ≤ 2147483647) then (kf_279 n dp e 3 I1_199 L1_199 i1 i2 (i3 + 1) i4 (i5 + 1) 0 0) else none)) else none))) else none)))) else none) := by rw [kf_279.eq_2, if_neg (show ¬ ((3 : Nat) = 0) by decide), if_neg (show ¬ ((3 : Nat) = 1) by decide), if_neg (show ¬ ((3 : Nat) = 2) by decide), if_pos (show (3 : Nat) = 3 from rfl)]
set_option maxHeartbeats 8000000 in
set_option maxRecDepth 100000 in
theorem ks_279 : ∀ (n : Nat) (dp : Nat) (e : EN) (lab : Nat) (I : Nat → Nat → Int32) (I' : JI) (L : Nat → Nat → Int64) (L' : JI) (i1 : Int32) (i1' : Int) (i2 : Int32) (i2' : Int) (i3 : Int32) (i3' : Int) (i4 : Int32) (i4' : Int) (i5 : Int32) (i5' : Int) (i6 : Int32) (i6' : Int) (i7 : Int32) (i7' : Int), Rli I I' → Rll L L' → Ui i1 i1' → Ui i2 i2' → Ui i3 i3' → Ui i4 i4' → Ui i5 i5' → Ui i6 i6' → Ui i7 i7' → Sim R3 (g_279 n dp e lab I L i1 i2 i3 i4 i5 i6 i7) (kf_279 n dp e lab I' L' i1' i2' i3' i4' i5' i6' i7') := by
  intro n
  induction n with
  | zero => intros; rw [kf_279.eq_1]; exact Sn
  | succ n ih =>
    intro dp e lab I I' L L' i1 i1' i2 i2' i3 i3' i4 i4' i5 i5' i6 i6' i7 i7' u_I u_L u_i1 u_i2 u_i3 u_i4 u_i5 u_i6 u_i7
    rw [g_279.eq_2, kf_279.eq_2]
    refine Sc Iff.rfl (fun _ => ?_) (fun _ => ?_)
    · refine SsJ (ri_up u_I (rfl : ((0 : Nat) : Int) = 0) (rfl : Ui (0) (0))) (fun I_2 I_2' u_I_2 => ?_)
      refine Sc Iff.rfl (fun c1 => ?_) (fun _ => Sn)
      refine Sb3 (ks_193 n (dp - 1) e 0 _ _ _ _ _ _ _ _ _ _ u_I_2 u_L (ul_i2l u_i1) (rfl : Ul (0) (0)) (rfl : Ul (3) (3))) (fun x0_11 x0_11' I0_11 I0_11' L0_11 L0_11' u_x0_11 u_I0_11 u_L0_11 => ?_)
      refine Sc (eq_up u_x0_11 (rfl : Ui 0 0)) (fun c2 => ?_) (fun c2 => ?_)
      · exact Sr ⟨(rfl : Ui (-1) (-1)), u_I0_11, u_L0_11⟩
      · refine Sc Iff.rfl (fun c3 => ?_) (fun _ => Sn)
        refine Sb3 (ks_261 n (dp - 1) e 0 _ _ _ _ _ _ _ _ _ _ _ _ u_I0_11 u_L0_11 (rfl : Ui 0 0) (rfl : Ui 0 0) (rfl : Ui 0 0) (rfl : Ui 0 0)) (fun x1_18 x1_18' I1_18 I1_18' L1_18 L1_18' u_x1_18 u_I1_18 u_L1_18 => ?_)
        refine Sc (eq_up u_x1_18 (rfl : Ui 0 0)) (fun c4 => ?_) (fun c4 => ?_)
        · exact Sr ⟨(rfl : Ui (-1) (-1)), u_I1_18, u_L1_18⟩
        · exact (ih dp e 1 _ _ _ _ _ _ _ _ _ _ _ _ _ _ _ _ _ _ u_I1_18 u_L1_18 u_i1 (rfl : Ui (0) (0)) (rfl : Ui (0) (0)) (rfl : Ui (0) (0)) (rfl : Ui (0) (0)) (rfl : Ui 0 0) (rfl : Ui 0 0))
    refine Sc Iff.rfl (fun _ => ?_) (fun _ => ?_)
    · refine Sc (le_up (rfl : Ui (10) (10)) u_i5) (fun c1 => ?_) (fun c1 => ?_)
      · exact (ih dp e 3 _ _ _ _ _ _ _ _ _ _ _ _ _ _ _ _ _ _ u_I u_L u_i1 u_i2 u_i3 u_i4 (rfl : Ui (0) (0)) (rfl : Ui 0 0) (rfl : Ui 0 0))
      · exact (ih dp e 2 _ _ _ _ _ _ _ _ _ _ _ _ _ _ _ _ _ _ u_I u_L u_i1 u_i2 u_i3 u_i4 u_i5 (rfl : Ui (0) (0)) (rfl : Ui (0) (0)))
    refine Sc Iff.rfl (fun _ => ?_) (fun _ => ?_)
    · refine Sc Iff.rfl (fun c1 => ?_) (fun _ => Sn)
      refine Sb3 (ks_198 n (dp - 1) e 0 _ _ _ _ u_I u_L) (fun x0_52 x0_52' I0_52 I0_52' L0_52 L0_52' u_x0_52 u_I0_52 u_L0_52 => ?_)
      refine Sc (le_up u_x0_52 u_i7) (fun c2 => ?_) (fun c2 => ?_)
      · refine Sg (fun g3 => ?_)
        refine Sc (ix_up (ui_add (rfl : Ui (60) (60)) u_i5 g3)) (fun c4 => ?_) (fun _ => Sn)
        refine SsI (ui_rd (a := 107) u_I0_52 (ui_add (rfl : Ui (60) (60)) u_i5 g3) c4.1) (fun v_107 v_107' u_v_107 => ?_)
        refine Sc (le_up u_v_107 u_i6) (fun c5 => ?_) (fun c5 => ?_)
        · refine Sg (fun g6 => ?_)
          refine Sc (ix_up (ui_add (rfl : Ui (40) (40)) u_i5 g6)) (fun c7 => ?_) (fun _ => Sn)
          refine Sc (le_up u_i6 u_v_107) (fun c8 => ?_) (fun c8 => ?_)
          · refine Sg (fun g9 => ?_)
            refine Sc (ix_up (ui_add (rfl : Ui (50) (50)) u_i5 g9)) (fun c10 => ?_) (fun _ => Sn)
            refine Sg (fun g11 => ?_)
            refine SsI (ui_add u_i2 (ui_add (ui_mul u_v_107 (ui_rd (a := 107) u_I0_52 (ui_add (rfl : Ui (40) (40)) u_i5 g6) c7.1) g11.1) (ui_mul (rfl : Ui (0) (0)) (ui_rd (a := 107) u_I0_52 (ui_add (rfl : Ui (50) (50)) u_i5 g9) c10.1) g11.2.1) g11.2.2.1) g11.2.2.2) (fun v_164 v_164' u_v_164 => ?_)
            refine Sc Iff.rfl (fun c12 => ?_) (fun _ => Sn)
            refine Sb3 (ks_272 n (dp - 1) e 0 _ _ _ _ _ _ _ _ u_I0_52 u_L0_52 u_v_107 u_i6) (fun x1_171 x1_171' I1_171 I1_171' L1_171 L1_171' u_x1_171 u_I1_171 u_L1_171 => ?_)
            refine Sg (fun g13 => ?_)
            exact (ih dp e 1 _ _ _ _ _ _ _ _ _ _ _ _ _ _ _ _ _ _ u_I1_171 u_L1_171 u_i1 u_v_164 u_i3 (ui_add u_i4 u_x1_171 g13.1) (ui_add u_i5 (rfl : Ui (Int32.ofInt (1)) (1)) g13.2) (rfl : Ui 0 0) (rfl : Ui 0 0))
          · refine Sg (fun g14 => ?_)
            refine Sc (ix_up (ui_add (rfl : Ui (50) (50)) u_i5 g14)) (fun c15 => ?_) (fun _ => Sn)
            refine Sg (fun g16 => ?_)
            refine SsI (ui_add u_i2 (ui_add (ui_mul u_v_107 (ui_rd (a := 107) u_I0_52 (ui_add (rfl : Ui (40) (40)) u_i5 g6) c7.1) g16.1) (ui_mul (ui_sub u_i6 u_v_107 g16.2.1) (ui_rd (a := 107) u_I0_52 (ui_add (rfl : Ui (50) (50)) u_i5 g14) c15.1) g16.2.2.1) g16.2.2.2.1) g16.2.2.2.2) (fun v_164 v_164' u_v_164 => ?_)
            refine Sc Iff.rfl (fun c17 => ?_) (fun _ => Sn)
            refine Sb3 (ks_272 n (dp - 1) e 0 _ _ _ _ _ _ _ _ u_I0_52 u_L0_52 u_v_107 u_i6) (fun x1_171 x1_171' I1_171 I1_171' L1_171 L1_171' u_x1_171 u_I1_171 u_L1_171 => ?_)
            refine Sg (fun g18 => ?_)
            exact (ih dp e 1 _ _ _ _ _ _ _ _ _ _ _ _ _ _ _ _ _ _ u_I1_171 u_L1_171 u_i1 u_v_164 u_i3 (ui_add u_i4 u_x1_171 g18.1) (ui_add u_i5 (rfl : Ui (Int32.ofInt (1)) (1)) g18.2) (rfl : Ui 0 0) (rfl : Ui 0 0))
        · refine Sg (fun g19 => ?_)
          refine Sc (ix_up (ui_add (rfl : Ui (40) (40)) u_i5 g19)) (fun c20 => ?_) (fun _ => Sn)
          refine Sc (le_up u_i6 u_v_107) (fun c21 => ?_) (fun c21 => ?_)
          · refine Sg (fun g22 => ?_)
            refine Sc (ix_up (ui_add (rfl : Ui (50) (50)) u_i5 g22)) (fun c23 => ?_) (fun _ => Sn)
            refine Sg (fun g24 => ?_)
            refine SsI (ui_add u_i2 (ui_add (ui_mul u_i6 (ui_rd (a := 107) u_I0_52 (ui_add (rfl : Ui (40) (40)) u_i5 g19) c20.1) g24.1) (ui_mul (rfl : Ui (0) (0)) (ui_rd (a := 107) u_I0_52 (ui_add (rfl : Ui (50) (50)) u_i5 g22) c23.1) g24.2.1) g24.2.2.1) g24.2.2.2) (fun v_164 v_164' u_v_164 => ?_)
            refine Sc Iff.rfl (fun c25 => ?_) (fun _ => Sn)
            refine Sb3 (ks_272 n (dp - 1) e 0 _ _ _ _ _ _ _ _ u_I0_52 u_L0_52 u_v_107 u_i6) (fun x1_171 x1_171' I1_171 I1_171' L1_171 L1_171' u_x1_171 u_I1_171 u_L1_171 => ?_)
            refine Sg (fun g26 => ?_)
            exact (ih dp e 1 _ _ _ _ _ _ _ _ _ _ _ _ _ _ _ _ _ _ u_I1_171 u_L1_171 u_i1 u_v_164 u_i3 (ui_add u_i4 u_x1_171 g26.1) (ui_add u_i5 (rfl : Ui (Int32.ofInt (1)) (1)) g26.2) (rfl : Ui 0 0) (rfl : Ui 0 0))
          · refine Sg (fun g27 => ?_)
            refine Sc (ix_up (ui_add (rfl : Ui (50) (50)) u_i5 g27)) (fun c28 => ?_) (fun _ => Sn)
            refine Sg (fun g29 => ?_)
            refine SsI (ui_add u_i2 (ui_add (ui_mul u_i6 (ui_rd (a := 107) u_I0_52 (ui_add (rfl : Ui (40) (40)) u_i5 g19) c20.1) g29.1) (ui_mul (ui_sub u_i6 u_v_107 g29.2.1) (ui_rd (a := 107) u_I0_52 (ui_add (rfl : Ui (50) (50)) u_i5 g27) c28.1) g29.2.2.1) g29.2.2.2.1) g29.2.2.2.2) (fun v_164 v_164' u_v_164 => ?_)
            refine Sc Iff.rfl (fun c30 => ?_) (fun _ => Sn)
            refine Sb3 (ks_272 n (dp - 1) e 0 _ _ _ _ _ _ _ _ u_I0_52 u_L0_52 u_v_107 u_i6) (fun x1_171 x1_171' I1_171 I1_171' L1_171 L1_171' u_x1_171 u_I1_171 u_L1_171 => ?_)
            refine Sg (fun g31 => ?_)
            exact (ih dp e 1 _ _ _ _ _ _ _ _ _ _ _ _ _ _ _ _ _ _ u_I1_171 u_L1_171 u_i1 u_v_164 u_i3 (ui_add u_i4 u_x1_171 g31.1) (ui_add u_i5 (rfl : Ui (Int32.ofInt (1)) (1)) g31.2) (rfl : Ui 0 0) (rfl : Ui 0 0))
      · refine Sc Iff.rfl (fun c32 => ?_) (fun _ => Sn)
        refine Sb3 (ks_280 n (dp - 1) e 0 _ _ _ _ _ _ u_I0_52 u_L0_52 u_i7) (fun x1_70 x1_70' I1_70 I1_70' L1_70 L1_70' u_x1_70 u_I1_70 u_L1_70 => ?_)
        refine Sc Iff.rfl (fun c33 => ?_) (fun _ => Sn)
        refine Sb3 (ks_281 n (dp - 1) e 0 _ _ _ _ _ _ u_I1_70 u_L1_70 u_i7) (fun x2_79 x2_79' I2_79 I2_79' L2_79 L2_79' u_x2_79 u_I2_79 u_L2_79 => ?_)
        refine Sg (fun g34 => ?_)
        refine Sc (ix_up (ui_add (ui_add (ui_mul (rfl : Ui (640) (640)) u_x1_70 g34.1) (ui_mul (rfl : Ui (10) (10)) u_x2_79 g34.2.1) g34.2.2.1) u_i5 g34.2.2.2)) (fun c35 => ?_) (fun _ => Sn)
        refine Sg (fun g36 => ?_)
        refine SsI (ui_add u_i6 (ui_rd (a := 122) u_I2_79 (ui_add (ui_add (ui_mul (rfl : Ui (640) (640)) u_x1_70 g34.1) (ui_mul (rfl : Ui (10) (10)) u_x2_79 g34.2.1) g34.2.2.1) u_i5 g34.2.2.2) c35.1) g36) (fun v_89 v_89' u_v_89 => ?_)
        refine Sg (fun g37 => ?_)
        exact (ih dp e 2 _ _ _ _ _ _ _ _ _ _ _ _ _ _ _ _ _ _ u_I2_79 u_L2_79 u_i1 u_i2 u_i3 u_i4 u_i5 u_v_89 (ui_add u_i7 (rfl : Ui (Int32.ofInt (1)) (1)) g37))
    refine Sc Iff.rfl (fun _ => ?_) (fun _ => ?_)
    · refine Sc Iff.rfl (fun c1 => ?_) (fun _ => Sn)
      refine Sb3 (ks_198 n (dp - 1) e 0 _ _ _ _ u_I u_L) (fun x0_189 x0_189' I0_189 I0_189' L0_189 L0_189' u_x0_189 u_I0_189 u_L0_189 => ?_)
      refine Sc (le_up u_x0_189 u_i5) (fun c2 => ?_) (fun c2 => ?_)
      · refine Sc (eq_up u_i1 (rfl : Ui 0 0)) (fun c3 => ?_) (fun c3 => ?_)
        · exact Sr ⟨u_i2, u_I0_189, u_L0_189⟩
        · refine Sc (eq_up u_i1 (rfl : Ui (1) (1))) (fun c4 => ?_) (fun c4 => ?_)
          · refine Sg (fun g5 => ?_)
            exact Sr ⟨(ui_sub (u_I0_189 105 53) u_i2 g5), u_I0_189, u_L0_189⟩
          · refine Sc (eq_up u_i1 (rfl : Ui (2) (2))) (fun c6 => ?_) (fun c6 => ?_)
            · exact Sr ⟨u_i3, u_I0_189, u_L0_189⟩
            · exact Sr ⟨u_i4, u_I0_189, u_L0_189⟩
      · refine Sc Iff.rfl (fun c7 => ?_) (fun _ => Sn)
        refine Sb3 (ks_281 n (dp - 1) e 0 _ _ _ _ _ _ u_I0_189 u_L0_189 u_i5) (fun x1_199 x1_199' I1_199 I1_199' L1_199 L1_199' u_x1_199 u_I1_199 u_L1_199 => ?_)
        refine Sc (ix_up u_i5) (fun c8 => ?_) (fun _ => Sn)
        refine Sc (eq_up u_x1_199 (ui_rd (a := 134) u_I1_199 u_i5 c8.1)) (fun c9 => ?_) (fun c9 => ?_)
        · refine Sg (fun g10 => ?_)
          exact (ih dp e 3 _ _ _ _ _ _ _ _ _ _ _ _ _ _ _ _ _ _ u_I1_199 u_L1_199 u_i1 u_i2 (ui_add u_i3 (rfl : Ui (0) (0)) g10.1) u_i4 (ui_add u_i5 (rfl : Ui (Int32.ofInt (1)) (1)) g10.2) (rfl : Ui 0 0) (rfl : Ui 0 0))
        · refine Sg (fun g11 => ?_)
          exact (ih dp e 3 _ _ _ _ _ _ _ _ _ _ _ _ _ _ _ _ _ _ u_I1_199 u_L1_199 u_i1 u_i2 (ui_add u_i3 (rfl : Ui (1) (1)) g11.1) u_i4 (ui_add u_i5 (rfl : Ui (Int32.ofInt (1)) (1)) g11.2) (rfl : Ui 0 0) (rfl : Ui 0 0))
    exact Sn
set_option maxHeartbeats 4000000 in
set_option maxRecDepth 100000 in
def kf_284 : Nat → Nat → EN → Nat → JI → JI → Int → Int → Int → Int → Int → Int → Option (Int × JI × JI)
  | 0, _, _, _, _, _, _, _, _, _, _, _ => none
  | n + 1, dp, e, lab, I, L, i1, i2, i3, i4, i5, i6 =>
    if lab = 0 then (kf_284 n dp e 1 I L i1 i2 i3 0 0 0)
    else if lab = 1 then (if 10 ≤ i4 then (kf_284 n dp e 2 I L i1 i2 i3 0 0 0) else (if i4 = 0 then (if 0 ≤ i4 ∧ i4 < 110 then (stI (w2 I 124 i4 1) (fun I_26 => (if -2147483648 ≤ i4 + 1 ∧ i4 + 1 ≤ 2147483647 then (kf_284 n dp e 1 I_26 L i1 i2 i3 (i4 + 1) 0 0) else none))) else none) else (if 0 ≤ i4 ∧ i4 < 110 then (stI (w2 I 124 i4 0) (fun I_26 => (if -2147483648 ≤ i4 + 1 ∧ i4 + 1 ≤ 2147483647 then (kf_284 n dp e 1 I_26 L i1 i2 i3 (i4 + 1) 0 0) else none))) else none)))
    else if lab = 2 then (if i3 ≤ i4 then (if 0 ≤ i3 ∧ i3 < 110 then (some (((I 124 i3) : Int), I, L)) else none) else (if (-2147483648 ≤ 640 * i1 ∧ 640 * i1 ≤ 2147483647) ∧ (-2147483648 ≤ 10 * i2 ∧ 10 * i2 ≤ 2147483647) ∧ (-2147483648 ≤ (640 * i1) + (10 * i2) ∧ (640 * i1) + (10 * i2) ≤ 2147483647) ∧ (-2147483648 ≤ ((640 * i1) + (10 * i2)) + i4 ∧ ((640 * i1) + (10 * i2)) + i4 ≤ 2147483647) then (if 0 ≤ (((640 * i1) + (10 * i2)) + i4) ∧ (((640 * i1) + (10 * i2)) + i4) < 1920 then (stI (I 121 (((640 * i1) + (10 * i2)) + i4)) (fun v_60 => (if -2147483648 ≤ i4 + 1 ∧ i4 + 1 ≤ 2147483647 then (kf_284 n dp e 3 I L i1 i2 i3 i4 v_60 (i4 + 1)) else none))) else none) else none))
    else if lab = 3 then (if 10 ≤ i6 then (kf_284 n dp e 4 I L i1 i2 i3 i4 i5 i6) else (if i5 = (-1) then (kf_284 n dp e 4 I L i1 i2 i3 i4 i5 i6) else (if 0 ≤ i6 ∧ i6 < 110 then (if 0 ≤ i4 ∧ i4 < 110 then (if 1 ≤ dp then ((kf_241 n (dp - 1) e 0 I L i5 i6).bind (fun ⟨x0_101, I0_101, L0_101⟩ => (if 0 ≤ i6 ∧ i6 < 110 then (if (-2147483648 ≤ (I 124 i4) * x0_101 ∧ (I 124 i4) * x0_101 ≤ 2147483647) ∧ (-2147483648 ≤ (I 124 i6) + ((I 124 i4) * x0_101) ∧ (I 124 i6) + ((I 124 i4) * x0_101) ≤ 2147483647) then (stI (w2 I0_101 124 i6 ((I 124 i6) + ((I 124 i4) * x0_101))) (fun I_106 => (if -2147483648 ≤ i6 + 1 ∧ i6 + 1 ≤ 2147483647 then (kf_284 n dp e 3 I_106 L0_101 i1 i2 i3 i4 i5 (i6 + 1)) else none))) else none) else none))) else none) else none) else none)))
    else if lab = 4 then (if -2147483648 ≤ i4 + 1 ∧ i4 + 1 ≤ 2147483647 then (kf_284 n dp e 2 I L i1 i2 i3 (i4 + 1) 0 0) else none)
    else none
set_option maxRecDepth 100000 in
theorem ke_284_0 (n : Nat) (dp : Nat) (e : EN) (I : JI) (L : JI) (i1 : Int) (i2 : Int) (i3 : Int) (i4 : Int) (i5 : Int) (i6 : Int) : kf_284 (n + 1) dp e 0 I L i1 i2 i3 i4 i5 i6 = (kf_284 n dp e 1 I L i1 i2 i3 0 0 0) := by rw [kf_284.eq_2, if_pos (show (0 : Nat) = 0 from rfl)]
set_option maxRecDepth 100000 in
theorem ke_284_1 (n : Nat) (dp : Nat) (e : EN) (I : JI) (L : JI) (i1 : Int) (i2 : Int) (i3 : Int) (i4 : Int) (i5 : Int) (i6 : Int) : kf_284 (n + 1) dp e 1 I L i1 i2 i3 i4 i5 i6 = (if 10 ≤ i4 then (kf_284 n dp e 2 I L i1 i2 i3 0 0 0) else (if i4 = 0 then (if 0 ≤ i4 ∧ i4 < 110 then (stI (w2 I 124 i4 1) (fun I_26 => (if -2147483648 ≤ i4 + 1 ∧ i4 + 1 ≤ 2147483647 then (kf_284 n dp e 1 I_26 L i1 i2 i3 (i4 + 1) 0 0) else none))) else none) else (if 0 ≤ i4 ∧ i4 < 110 then (stI (w2 I 124 i4 0) (fun I_26 => (if -2147483648 ≤ i4 + 1 ∧ i4 + 1 ≤ 2147483647 then (kf_284 n dp e 1 I_26 L i1 i2 i3 (i4 + 1) 0 0) else none))) else none))) := by rw [kf_284.eq_2, if_neg (show ¬ ((1 : Nat) = 0) by decide), if_pos (show (1 : Nat) = 1 from rfl)]
set_option maxRecDepth 100000 in
theorem ke_284_2 (n : Nat) (dp : Nat) (e : EN) (I : JI) (L : JI) (i1 : Int) (i2 : Int) (i3 : Int) (i4 : Int) (i5 : Int) (i6 : Int) : kf_284 (n + 1) dp e 2 I L i1 i2 i3 i4 i5 i6 = (if i3 ≤ i4 then (if 0 ≤ i3 ∧ i3 < 110 then (some (((I 124 i3) : Int), I, L)) else none) else (if (-2147483648 ≤ 640 * i1 ∧ 640 * i1 ≤ 2147483647) ∧ (-2147483648 ≤ 10 * i2 ∧ 10 * i2 ≤ 2147483647) ∧ (-2147483648 ≤ (640 * i1) + (10 * i2) ∧ (640 * i1) + (10 * i2) ≤ 2147483647) ∧ (-2147483648 ≤ ((640 * i1) + (10 * i2)) + i4 ∧ ((640 * i1) + (10 * i2)) + i4 ≤ 2147483647) then (if 0 ≤ (((640 * i1) + (10 * i2)) + i4) ∧ (((640 * i1) + (10 * i2)) + i4) < 1920 then (stI (I 121 (((640 * i1) + (10 * i2)) + i4)) (fun v_60 => (if -2147483648 ≤ i4 + 1 ∧ i4 + 1 ≤ 2147483647 then (kf_284 n dp e 3 I L i1 i2 i3 i4 v_60 (i4 + 1)) else none))) else none) else none)) := by rw [kf_284.eq_2, if_neg (show ¬ ((2 : Nat) = 0) by decide), if_neg (show ¬ ((2 : Nat) = 1) by decide), if_pos (show (2 : Nat) = 2 from rfl)]
set_option maxRecDepth 100000 in
theorem ke_284_3 (n : Nat) (dp : Nat) (e : EN) (I : JI) (L : JI) (i1 : Int) (i2 : Int) (i3 : Int) (i4 : Int) (i5 : Int) (i6 : Int) : kf_284 (n + 1) dp e 3 I L i1 i2 i3 i4 i5 i6 = (if 10 ≤ i6 then (kf_284 n dp e 4 I L i1 i2 i3 i4 i5 i6) else (if i5 = (-1) then (kf_284 n dp e 4 I L i1 i2 i3 i4 i5 i6) else (if 0 ≤ i6 ∧ i6 < 110 then (if 0 ≤ i4 ∧ i4 < 110 then (if 1 ≤ dp then ((kf_241 n (dp - 1) e 0 I L i5 i6).bind (fun ⟨x0_101, I0_101, L0_101⟩ => (if 0 ≤ i6 ∧ i6 < 110 then (if (-2147483648 ≤ (I 124 i4) * x0_101 ∧ (I 124 i4) * x0_101 ≤ 2147483647) ∧ (-2147483648 ≤ (I 124 i6) + ((I 124 i4) * x0_101) ∧ (I 124 i6) + ((I 124 i4) * x0_101) ≤ 2147483647) then (stI (w2 I0_101 124 i6 ((I 124 i6) + ((I 124 i4) * x0_101))) (fun I_106 => (if -2147483648 ≤ i6 + 1 ∧ i6 + 1 ≤ 2147483647 then (kf_284 n dp e 3 I_106 L0_101 i1 i2 i3 i4 i5 (i6 + 1)) else none))) else none) else none))) else none) else none) else none))) := by rw [kf_284.eq_2, if_neg (show ¬ ((3 : Nat) = 0) by decide), if_neg (show ¬ ((3 : Nat) = 1) by decide), if_neg (show ¬ ((3 : Nat) = 2) by decide), if_pos (show (3 : Nat) = 3 from rfl)]
set_option maxRecDepth 100000 in
theorem ke_284_4 (n : Nat) (dp : Nat) (e : EN) (I : JI) (L : JI) (i1 : Int) (i2 : Int) (i3 : Int) (i4 : Int) (i5 : Int) (i6 : Int) : kf_284 (n + 1) dp e 4 I L i1 i2 i3 i4 i5 i6 = (if -2147483648 ≤ i4 + 1 ∧ i4 + 1 ≤ 2147483647 then (kf_284 n dp e 2 I L i1 i2 i3 (i4 + 1) 0 0) else none) := by rw [kf_284.eq_2, if_neg (show ¬ ((4 : Nat) = 0) by decide), if_neg (show ¬ ((4 : Nat) = 1) by decide), if_neg (show ¬ ((4 : Nat) = 2) by decide), if_neg (show ¬ ((4 : Nat) = 3) by decide), if_pos (show (4 : Nat) = 4 from rfl)]
set_option maxHeartbeats 8000000 in
set_option maxRecDepth 100000 in
theorem ks_284 : ∀ (n : Nat) (dp : Nat) (e : EN) (lab : Nat) (I : Nat → Nat → Int32) (I' : JI) (L : Nat → Nat → Int64) (L' : JI) (i1 : Int32) (i1' : Int) (i2 : Int32) (i2' : Int) (i3 : Int32) (i3' : Int) (i4 : Int32) (i4' : Int) (i5 : Int32) (i5' : Int) (i6 : Int32) (i6' : Int), Rli I I' → Rll L L' → Ui i1 i1' → Ui i2 i2' → Ui i3 i3' → Ui i4 i4' → Ui i5 i5' → Ui i6 i6' → Sim R3 (g_284 n dp e lab I L i1 i2 i3 i4 i5 i6) (kf_284 n dp e lab I' L' i1' i2' i3' i4' i5' i6') := by
  intro n
  induction n with
  | zero => intros; rw [kf_284.eq_1]; exact Sn
  | succ n ih =>
    intro dp e lab I I' L L' i1 i1' i2 i2' i3 i3' i4 i4' i5 i5' i6 i6' u_I u_L u_i1 u_i2 u_i3 u_i4 u_i5 u_i6
    rw [g_284.eq_2, kf_284.eq_2]
    refine Sc Iff.rfl (fun _ => ?_) (fun _ => ?_)
    · exact (ih dp e 1 _ _ _ _ _ _ _ _ _ _ _ _ _ _ _ _ u_I u_L u_i1 u_i2 u_i3 (rfl : Ui (0) (0)) (rfl : Ui 0 0) (rfl : Ui 0 0))
    refine Sc Iff.rfl (fun _ => ?_) (fun _ => ?_)
    · refine Sc (le_up (rfl : Ui (10) (10)) u_i4) (fun c1 => ?_) (fun c1 => ?_)
      · exact (ih dp e 2 _ _ _ _ _ _ _ _ _ _ _ _ _ _ _ _ u_I u_L u_i1 u_i2 u_i3 (rfl : Ui (0) (0)) (rfl : Ui 0 0) (rfl : Ui 0 0))
      · refine Sc (eq_up u_i4 (rfl : Ui 0 0)) (fun c2 => ?_) (fun c2 => ?_)
        · refine Sc (ix_up u_i4) (fun c3 => ?_) (fun _ => Sn)
          refine SsJ (ri_up u_I (kc_up u_i4 c3.1) (rfl : Ui (1) (1))) (fun I_26 I_26' u_I_26 => ?_)
          refine Sg (fun g4 => ?_)
          exact (ih dp e 1 _ _ _ _ _ _ _ _ _ _ _ _ _ _ _ _ u_I_26 u_L u_i1 u_i2 u_i3 (ui_add u_i4 (rfl : Ui (Int32.ofInt (1)) (1)) g4) (rfl : Ui 0 0) (rfl : Ui 0 0))
        · refine Sc (ix_up u_i4) (fun c5 => ?_) (fun _ => Sn)
          refine SsJ (ri_up u_I (kc_up u_i4 c5.1) (rfl : Ui (0) (0))) (fun I_26 I_26' u_I_26 => ?_)
          refine Sg (fun g6 => ?_)
          exact (ih dp e 1 _ _ _ _ _ _ _ _ _ _ _ _ _ _ _ _ u_I_26 u_L u_i1 u_i2 u_i3 (ui_add u_i4 (rfl : Ui (Int32.ofInt (1)) (1)) g6) (rfl : Ui 0 0) (rfl : Ui 0 0))
    refine Sc Iff.rfl (fun _ => ?_) (fun _ => ?_)
    · refine Sc (le_up u_i3 u_i4) (fun c1 => ?_) (fun c1 => ?_)
      · refine Sc (ix_up u_i3) (fun c2 => ?_) (fun _ => Sn)
        exact Sr ⟨(ui_rd (a := 124) u_I u_i3 c2.1), u_I, u_L⟩
      · refine Sg (fun g3 => ?_)
        refine Sc (ix_up (ui_add (ui_add (ui_mul (rfl : Ui (640) (640)) u_i1 g3.1) (ui_mul (rfl : Ui (10) (10)) u_i2 g3.2.1) g3.2.2.1) u_i4 g3.2.2.2)) (fun c4 => ?_) (fun _ => Sn)
        refine SsI (ui_rd (a := 121) u_I (ui_add (ui_add (ui_mul (rfl : Ui (640) (640)) u_i1 g3.1) (ui_mul (rfl : Ui (10) (10)) u_i2 g3.2.1) g3.2.2.1) u_i4 g3.2.2.2) c4.1) (fun v_60 v_60' u_v_60 => ?_)
        refine Sg (fun g5 => ?_)
        exact (ih dp e 3 _ _ _ _ _ _ _ _ _ _ _ _ _ _ _ _ u_I u_L u_i1 u_i2 u_i3 u_i4 u_v_60 (ui_add u_i4 (rfl : Ui (1) (1)) g5))
    refine Sc Iff.rfl (fun _ => ?_) (fun _ => ?_)
    · refine Sc (le_up (rfl : Ui (10) (10)) u_i6) (fun c1 => ?_) (fun c1 => ?_)
      · exact (ih dp e 4 _ _ _ _ _ _ _ _ _ _ _ _ _ _ _ _ u_I u_L u_i1 u_i2 u_i3 u_i4 u_i5 u_i6)
      · refine Sc (eq_up u_i5 (rfl : Ui (-1) (-1))) (fun c2 => ?_) (fun c2 => ?_)
        · exact (ih dp e 4 _ _ _ _ _ _ _ _ _ _ _ _ _ _ _ _ u_I u_L u_i1 u_i2 u_i3 u_i4 u_i5 u_i6)
        · refine Sc (ix_up u_i6) (fun c3 => ?_) (fun _ => Sn)
          refine Sc (ix_up u_i4) (fun c4 => ?_) (fun _ => Sn)
          refine Sc Iff.rfl (fun c5 => ?_) (fun _ => Sn)
          refine Sb3 (ks_241 n (dp - 1) e 0 _ _ _ _ _ _ _ _ u_I u_L u_i5 u_i6) (fun x0_101 x0_101' I0_101 I0_101' L0_101 L0_101' u_x0_101 u_I0_101 u_L0_101 => ?_)
          refine Sc (ix_up u_i6) (fun c6 => ?_) (fun _ => Sn)
          refine Sg (fun g7 => ?_)
          refine SsJ (ri_up u_I0_101 (kc_up u_i6 c6.1) (ui_add (ui_rd (a := 124) u_I u_i6 c6.1) (ui_mul (ui_rd (a := 124) u_I u_i4 c4.1) u_x0_101 g7.1) g7.2)) (fun I_106 I_106' u_I_106 => ?_)
          refine Sg (fun g8 => ?_)
          exact (ih dp e 3 _ _ _ _ _ _ _ _ _ _ _ _ _ _ _ _ u_I_106 u_L0_101 u_i1 u_i2 u_i3 u_i4 u_i5 (ui_add u_i6 (rfl : Ui (Int32.ofInt (1)) (1)) g8))
    refine Sc Iff.rfl (fun _ => ?_) (fun _ => ?_)
    · refine Sg (fun g1 => ?_)
      exact (ih dp e 2 _ _ _ _ _ _ _ _ _ _ _ _ _ _ _ _ u_I u_L u_i1 u_i2 u_i3 (ui_add u_i4 (rfl : Ui (Int32.ofInt (1)) (1)) g1) (rfl : Ui 0 0) (rfl : Ui 0 0))
    exact Sn
