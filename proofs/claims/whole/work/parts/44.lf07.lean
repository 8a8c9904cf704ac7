/-! lifted functions 07, printed by lift.py -/
set_option maxHeartbeats 4000000 in
set_option maxRecDepth 100000 in
def kf_228 : Nat → Nat → EN → Nat → JI → JI → Int → Option (Int × JI × JI)
  | 0, _, _, _, _, _, _ => none
  | n + 1, dp, e, lab, I, L, i1 =>
    if lab = 0 then (if 1 ≤ dp then ((kf_226 n (dp - 1) e 0 I L 91).bind (fun ⟨x0_3, I0_3, L0_3⟩ => (if x0_3 = 0 then (if 1 ≤ dp then ((kf_229 n (dp - 1) e 0 I0_3 L0_3 0 0).bind (fun ⟨x1_18, I1_18, L1_18⟩ => (if (I1_18 105 10) = 2 then (if 1000 < (L1_18 105 11) then (kf_228 n dp e 1 I1_18 L1_18 x1_18) else (if x1_18 = (-1) then (if (1 : Int) = 0 then (if x1_18 = (-1) then (if (1 : Int) = 0 then (if 1 ≤ dp then ((kf_230 n (dp - 1) e 0 I1_18 L1_18 0 0 0).bind (fun ⟨I2_85, L2_85⟩ => (some ((3 : Int), I2_85, L2_85)))) else none) else (if 1 ≤ dp then (if -2147483648 ≤ (L1_18 105 11) ∧ (L1_18 105 11) ≤ 2147483647 then ((kf_230 n (dp - 1) e 0 I1_18 L1_18 0 0 (L1_18 105 11)).bind (fun ⟨I2_85, L2_85⟩ => (some ((3 : Int), I2_85, L2_85)))) else none) else none)) else (if (1 : Int) = 0 then (if 1 ≤ dp then ((kf_230 n (dp - 1) e 0 I1_18 L1_18 0 x1_18 0).bind (fun ⟨I2_85, L2_85⟩ => (some ((3 : Int), I2_85, L2_85)))) else none) else (if 1 ≤ dp then (if -2147483648 ≤ (L1_18 105 11) ∧ (L1_18 105 11) ≤ 2147483647 then ((kf_230 n (dp - 1) e 0 I1_18 L1_18 0 x1_18 (L1_18 105 11)).bind (fun ⟨I2_85, L2_85⟩ => (some ((3 : Int), I2_85, L2_85)))) else none) else none))) else (if x1_18 = (-1) then (if (1 : Int) = 0 then (if 1 ≤ dp then ((kf_230 n (dp - 1) e 0 I1_18 L1_18 1 0 0).bind (fun ⟨I2_85, L2_85⟩ => (some ((3 : Int), I2_85, L2_85)))) else none) else (if 1 ≤ dp then (if -2147483648 ≤ (L1_18 105 11) ∧ (L1_18 105 11) ≤ 2147483647 then ((kf_230 n (dp - 1) e 0 I1_18 L1_18 1 0 (L1_18 105 11)).bind (fun ⟨I2_85, L2_85⟩ => (some ((3 : Int), I2_85, L2_85)))) else none) else none)) else (if (1 : Int) = 0 then (if 1 ≤ dp then ((kf_230 n (dp - 1) e 0 I1_18 L1_18 1 x1_18 0).bind (fun ⟨I2_85, L2_85⟩ => (some ((3 : Int), I2_85, L2_85)))) else none) else (if 1 ≤ dp then (if -2147483648 ≤ (L1_18 105 11) ∧ (L1_18 105 11) ≤ 2147483647 then ((kf_230 n (dp - 1) e 0 I1_18 L1_18 1 x1_18 (L1_18 105 11)).bind (fun ⟨I2_85, L2_85⟩ => (some ((3 : Int), I2_85, L2_85)))) else none) else none)))) else (if x1_18 = (-1) then (if (1 : Int) = 0 then (if 1 ≤ dp then ((kf_230 n (dp - 1) e 0 I1_18 L1_18 1 0 0).bind (fun ⟨I2_85, L2_85⟩ => (some ((3 : Int), I2_85, L2_85)))) else none) else (if 1 ≤ dp then (if -2147483648 ≤ (L1_18 105 11) ∧ (L1_18 105 11) ≤ 2147483647 then ((kf_230 n (dp - 1) e 0 I1_18 L1_18 1 0 (L1_18 105 11)).bind (fun ⟨I2_85, L2_85⟩ => (some ((3 : Int), I2_85, L2_85)))) else none) else none)) else (if (1 : Int) = 0 then (if 1 ≤ dp then ((kf_230 n (dp - 1) e 0 I1_18 L1_18 1 x1_18 0).bind (fun ⟨I2_85, L2_85⟩ => (some ((3 : Int), I2_85, L2_85)))) else none) else (if 1 ≤ dp then (if -2147483648 ≤ (L1_18 105 11) ∧ (L1_18 105 11) ≤ 2147483647 then ((kf_230 n (dp - 1) e 0 I1_18 L1_18 1 x1_18 (L1_18 105 11)).bind (fun ⟨I2_85, L2_85⟩ => (some ((3 : Int), I2_85, L2_85)))) else none) else none))))) else (kf_228 n dp e 1 I1_18 L1_18 x1_18)))) else none) else (if 1 ≤ dp then ((kf_227 n (dp - 1) e 0 I0_3 L0_3 31).bind (fun ⟨I1_12, L1_12⟩ => (some ((1 : Int), I1_12, L1_12)))) else none)))) else none)
    else if lab = 1 then (if i1 = (-1) then (if (0 : Int) = 0 then (if i1 = (-1) then (if (0 : Int) = 0 then (if 1 ≤ dp then ((kf_230 n (dp - 1) e 0 I L 0 0 0).bind (fun ⟨I0_85, L0_85⟩ => (some ((3 : Int), I0_85, L0_85)))) else none) else (if 1 ≤ dp then (if -2147483648 ≤ (L 105 11) ∧ (L 105 11) ≤ 2147483647 then ((kf_230 n (dp - 1) e 0 I L 0 0 (L 105 11)).bind (fun ⟨I0_85, L0_85⟩ => (some ((3 : Int), I0_85, L0_85)))) else none) else none)) else (if (0 : Int) = 0 then (if 1 ≤ dp then ((kf_230 n (dp - 1) e 0 I L 0 i1 0).bind (fun ⟨I0_85, L0_85⟩ => (some ((3 : Int), I0_85, L0_85)))) else none) else (if 1 ≤ dp then (if -2147483648 ≤ (L 105 11) ∧ (L 105 11) ≤ 2147483647 then ((kf_230 n (dp - 1) e 0 I L 0 i1 (L 105 11)).bind (fun ⟨I0_85, L0_85⟩ => (some ((3 : Int), I0_85, L0_85)))) else none) else none))) else (if i1 = (-1) then (if (0 : Int) = 0 then (if 1 ≤ dp then ((kf_230 n (dp - 1) e 0 I L 1 0 0).bind (fun ⟨I0_85, L0_85⟩ => (some ((3 : Int), I0_85, L0_85)))) else none) else (if 1 ≤ dp then (if -2147483648 ≤ (L 105 11) ∧ (L 105 11) ≤ 2147483647 then ((kf_230 n (dp - 1) e 0 I L 1 0 (L 105 11)).bind (fun ⟨I0_85, L0_85⟩ => (some ((3 : Int), I0_85, L0_85)))) else none) else none)) else (if (0 : Int) = 0 then (if 1 ≤ dp then ((kf_230 n (dp - 1) e 0 I L 1 i1 0).bind (fun ⟨I0_85, L0_85⟩ => (some ((3 : Int), I0_85, L0_85)))) else none) else (if 1 ≤ dp then (if -2147483648 ≤ (L 105 11) ∧ (L 105 11) ≤ 2147483647 then ((kf_230 n (dp - 1) e 0 I L 1 i1 (L 105 11)).bind (fun ⟨I0_85, L0_85⟩ => (some ((3 : Int), I0_85, L0_85)))) else none) else none)))) else (if i1 = (-1) then (if (0 : Int) = 0 then (if 1 ≤ dp then ((kf_230 n (dp - 1) e 0 I L 1 0 0).bind (fun ⟨I0_85, L0_85⟩ => (some ((3 : Int), I0_85, L0_85)))) else none) else (if 1 ≤ dp then (if -2147483648 ≤ (L 105 11) ∧ (L 105 11) ≤ 2147483647 then ((kf_230 n (dp - 1) e 0 I L 1 0 (L 105 11)).bind (fun ⟨I0_85, L0_85⟩ => (some ((3 : Int), I0_85, L0_85)))) else none) else none)) else (if (0 : Int) = 0 then (if 1 ≤ dp then ((kf_230 n (dp - 1) e 0 I L 1 i1 0).bind (fun ⟨I0_85, L0_85⟩ => (some ((3 : Int), I0_85, L0_85)))) else none) else (if 1 ≤ dp then (if -2147483648 ≤ (L 105 11) ∧ (L 105 11) ≤ 2147483647 then ((kf_230 n (dp - 1) e 0 I L 1 i1 (L 105 11)).bind (fun ⟨I0_85, L0_85⟩ => (some ((3 : Int), I0_85, L0_85)))) else none) else none))))
    else none
set_option maxRecDepth 100000 in
theorem ke_228_0 (n : Nat) (dp : Nat) (e : EN) (I : JI) (L : JI) (i1 : Int) : kf_228 (n + 1) dp e 0 I L i1 = (if 1 ≤ dp then ((kf_226 n (dp - 1) e 0 I L 91).bind (fun ⟨x0_3, I0_3, L0_3⟩ => (if x0_3 = 0 then (if 1 ≤ dp then ((kf_229 n (dp - 1) e 0 I0_3 L0_3 0 0).bind (fun ⟨x1_18, I1_18, L1_18⟩ => (if (I1_18 105 10) = 2 then (if 1000 < (L1_18 105 11) then (kf_228 n dp e 1 I1_18 L1_18 x1_18) else (if x1_18 = (-1) then (if (1 : Int) = 0 then (if x1_18 = (-1) then (if (1 : Int) = 0 then (if 1 ≤ dp then ((kf_230 n (dp - 1) e 0 I1_18 L1_18 0 0 0).bind (fun ⟨I2_85, L2_85⟩ => (some ((3 : Int), I2_85, L2_85)))) else none) else (if 1 ≤ dp then (if -2147483648 ≤ (L1_18 105 11) ∧ (L1_18 105 11) ≤ 2147483647 then ((kf_230 n (dp - 1) e 0 I1_18 L1_18 0 0 (L1_18 105 11)).bind (fun ⟨I2_85, L2_85⟩ => (some ((3 : Int), I2_85, L2_85)))) else none) else none)) else (if (1 : Int) = 0 then (if 1 ≤ dp then ((kf_230 n (dp - 1) e 0 I1_18 L1_18 0 x1_18 0).bind (fun ⟨I2_85, L2_85⟩ => (some ((3 : Int), I2_85, L2_85)))) else none) else (if 1 ≤ dp then (if -2147483648 ≤ (L1_18 105 11) ∧ (L1_18 105 11) ≤ 2147483647 then ((kf_230 n (dp - 1) e 0 I1_18 L1_18 0 x1_18 (L1_18 105 11)).bind (fun ⟨I2_85, L2_85⟩ => (some ((3 : Int), I2_85, L2_85)))) else none) else none))) else (if x1_18 = (-1) then (if (1 : Int) = 0 then (if 1 ≤ dp then ((kf_230 n (dp - 1) e 0 I1_18 L1_18 1 0 0).bind (fun ⟨I2_85, L2_85⟩ => (some ((3 : Int), I2_85, L2_85)))) else none) else (if 1 ≤ dp then (if -2147483648 ≤ (L1_18 105 11) ∧ (L1_18 105 11) ≤ 2147483647 then ((kf_230 n (dp - 1) e 0 I1_18 L1_18 1 0 (L1_18 105 11)).bind (fun ⟨I2_85, L2_85⟩ => (some ((3 : Int), I2_85, L2_85)))) else none) else none)) else (if (1 : Int) = 0 then (if 1 ≤ dp then ((kf_230 n (dp - 1) e 0 I1_18 L1_18 1 x1_18 0).bind (fun ⟨I2_85, L2_85⟩ => (some ((3 : Int), I2_85, L2_85)))) else none) else (if 1 ≤ dp then (if -2147483648 ≤ (L1_18 105 11) ∧ (L1_18 105 11) ≤ 2147483647 then ((kf_230 n (dp - 1) e 0 I1_18 L1_18 1 x1_18 (L1_18 105 11)).bind (fun ⟨I2_85, L2_85⟩ => (some ((3 : Int), I2_85, L2_85)))) else none) else none)))) else (if x1_18 = (-1) then (if (1 : Int) = 0 then (if 1 ≤ dp then ((kf_230 n (dp - 1) e 0 I1_18 L1_18 1 0 0).bind (fun ⟨I2_85, L2_85⟩ => (some ((3 : Int), I2_85, L2_85)))) else none) else (if 1 ≤ dp then (if -2147483648 ≤ (L1_18 105 11) ∧ (L1_18 105 11) ≤ 2147483647 then ((kf_230 n (dp - 1) e 0 I1_18 L1_18 1 0 (L1_18 105 11)).bind (fun ⟨I2_85, L2_85⟩ => (some ((3 : Int), I2_85, L2_85)))) else none) else none)) else (if (1 : Int) = 0 then (if 1 ≤ dp then ((kf_230 n (dp - 1) e 0 I1_18 L1_18 1 x1_18 0).bind (fun ⟨I2_85, L2_85⟩ => (some ((3 : Int), I2_85, L2_85)))) else none) else (if 1 ≤ dp then (if -2147483648 ≤ (L1_18 105 11) ∧ (L1_18 105 11) ≤ 2147483647 then ((kf_230 n (dp - 1) e 0 I1_18 L1_18 1 x1_18 (L1_18 105 11)).bind (fun ⟨I2_85, L2_85⟩ => (some ((3 : Int), I2_85, L2_85)))) else none) else none))))) else (kf_228 n dp e 1 I1_18 L1_18 x1_18)))) else none) else (if 1 ≤ dp then ((kf_227 n (dp - 1) e 0 I0_3 L0_3 31).bind (fun ⟨I1_12, L1_12⟩ => (some ((1 : Int), I1_12, L1_12)))) else none)))) else none) := by rw [kf_228.eq_2, if_pos (show (0 : Nat) = 0 from rfl)]
set_option maxRecDepth 100000 in
theorem ke_228_1 (n : Nat) (dp : Nat) (e : EN) (I : JI) (L : JI) (i1 : Int) : kf_228 (n + 1) dp e 1 I L i1 = (if i1 = (-1) then (if (0 : Int) = 0 then (if i1 = (-1) then (if (0 : Int) = 0 then (if 1 ≤ dp then ((kf_230 n (dp - 1) e 0 I L 0 0 0).bind (fun ⟨I0_85, L0_85⟩ => (some ((3 : Int), I0_85, L0_85)))) else none) else (if 1 ≤ dp then (if -2147483648 ≤ (L 105 11) ∧ (L 105 11) ≤ 2147483647 then ((kf_230 n (dp - 1) e 0 I L 0 0 (L 105 11)).bind (fun ⟨I0_85, L0_85⟩ => (some ((3 : Int), I0_85, L0_85)))) else none) else none)) else (if (0 : Int) = 0 then (if 1 ≤ dp then ((kf_230 n (dp - 1) e 0 I L 0 i1 0).bind (fun ⟨I0_85, L0_85⟩ => (some ((3 : Int), I0_85, L0_85)))) else none) else (if 1 ≤ dp then (if -2147483648 ≤ (L 105 11) ∧ (L 105 11) ≤ 2147483647 then ((kf_230 n (dp - 1) e 0 I L 0 i1 (L 105 11)).bind (fun ⟨I0_85, L0_85⟩ => (some ((3 : Int), I0_85, L0_85)))) else none) else none))) else (if i1 = (-1) then (if (0 : Int) = 0 then (if 1 ≤ dp then ((kf_230 n (dp - 1) e 0 I L 1 0 0).bind (fun ⟨I0_85, L0_85⟩ => (some ((3 : Int), I0_85, L0_85)))) else none) else (if 1 ≤ dp then (if -2147483648 ≤ (L 105 11) ∧ (L 105 11) ≤ 2147483647 then ((kf_230 n (dp - 1) e 0 I L 1 0 (L 105 11)).bind (fun ⟨I0_85, L0_85⟩ => (some ((3 : Int), I0_85, L0_85)))) else none) else none)) else (if (0 : Int) = 0 then (if 1 ≤ dp then ((kf_230 n (dp - 1) e 0 I L 1 i1 0).bind (fun ⟨I0_85, L0_85⟩ => (some ((3 : Int), I0_85, L0_85)))) else none) else (if 1 ≤ dp then (if -2147483648 ≤ (L 105 11) ∧ (L 105 11) ≤ 2147483647 then ((kf_230 n (dp - 1) e 0 I L 1 i1 (L 105 11)).bind (fun ⟨I0_85, L0_85⟩ => (some ((3 : Int), I0_85, L0_85)))) else none) else none)))) else (if i1 = (-1) then (if (0 : Int) = 0 then (if 1 ≤ dp then ((kf_230 n (dp - 1) e 0 I L 1 0 0).bind (fun ⟨I0_85, L0_85⟩ => (some ((3 : Int), I0_85, L0_85)))) else none) else (if 1 ≤ dp then (if -2147483648 ≤ (L 105 11) ∧ (L 105 11) ≤ 2147483647 then ((kf_230 n (dp - 1) e 0 I L 1 0 (L 105 11)).bind (fun ⟨I0_85, L0_85⟩ => (some ((3 : Int), I0_85, L0_85)))) else none) else none)) else (if (0 : Int) = 0 then (if 1 ≤ dp then ((kf_230 n (dp - 1) e 0 I L 1 i1 0).bind (fun ⟨I0_85, L0_85⟩ => (some ((3 : Int), I0_85, L0_85)))) else none) else (if 1 ≤ dp then (if -2147483648 ≤ (L 105 11) ∧ (L 105 11) ≤ 2147483647 then ((kf_230 n (dp - 1) e 0 I L 1 i1 (L 105 11)).bind (fun ⟨I0_85, L0_85⟩ => (some ((3 : Int), I0_85, L0_85)))) else none) else none)))) := by rw [kf_228.eq_2, if_neg (show ¬ ((1 : Nat) = 0) by decide), if_pos (show (1 : Nat) = 1 from rfl)]
set_option maxHeartbeats 8000000 in
set_option maxRecDepth 100000 in
theorem ks_228 : ∀ (n : Nat) (dp : Nat) (e : EN) (lab : Nat) (I : Nat → Nat → Int32) (I' : JI) (L : Nat → Nat → Int64) (L' : JI) (i1 : Int32) (i1' : Int), Rli I I' → Rll L L' → Ui i1 i1' → Sim R3 (g_228 n dp e lab I L i1) (kf_228 n dp e lab I' L' i1') := by
  intro n
  induction n with
  | zero => intros; rw [kf_228.eq_1]; exact Sn
  | succ n ih =>
    intro dp e lab I I' L L' i1 i1' u_I u_L u_i1
    rw [g_228.eq_2, kf_228.eq_2]
    refine Sc Iff.rfl (fun _ => ?_) (fun _ => ?_)
    · refine Sc Iff.rfl (fun c1 => ?_) (fun _ => Sn)
      refine Sb3 (ks_226 n (dp - 1) e 0 _ _ _ _ _ _ u_I u_L (rfl : Ui (91) (91))) (fun x0_3 x0_3' I0_3 I0_3' L0_3 L0_3' u_x0_3 u_I0_3 u_L0_3 => ?_)
      refine Sc (eq_up u_x0_3 (rfl : Ui 0 0)) (fun c2 => ?_) (fun c2 => ?_)
      · refine Sc Iff.rfl (fun c3 => ?_) (fun _ => Sn)
        refine Sb3 (ks_229 n (dp - 1) e 0 _ _ _ _ _ _ _ _ u_I0_3 u_L0_3 (rfl : Ui 0 0) (rfl : Ui 0 0)) (fun x1_18 x1_18' I1_18 I1_18' L1_18 L1_18' u_x1_18 u_I1_18 u_L1_18 => ?_)
        refine Sc (eq_up (u_I1_18 105 10) (rfl : Ui (2) (2))) (fun c4 => ?_) (fun c4 => ?_)
        · refine Sc (lcg_up (u_L1_18 105 11) (rfl : Ul (1000) (1000))) (fun c5 => ?_) (fun c5 => ?_)
          · exact (ih dp e 1 _ _ _ _ _ _ u_I1_18 u_L1_18 u_x1_18)
          · refine Sc (eq_up u_x1_18 (rfl : Ui (-1) (-1))) (fun c6 => ?_) (fun c6 => ?_)
            · refine Sc (eq_up (rfl : Ui (1) (1)) (rfl : Ui 0 0)) (fun c7 => ?_) (fun c7 => ?_)
              · refine Sc (eq_up u_x1_18 (rfl : Ui (-1) (-1))) (fun c8 => ?_) (fun c8 => ?_)
                · refine Sc (eq_up (rfl : Ui (1) (1)) (rfl : Ui 0 0)) (fun c9 => ?_) (fun c9 => ?_)
                  · refine Sc Iff.rfl (fun c10 => ?_) (fun _ => Sn)
                    refine Sb2 (ks_230 n (dp - 1) e 0 _ _ _ _ _ _ _ _ _ _ u_I1_18 u_L1_18 (rfl : Ui (0) (0)) (rfl : Ui (0) (0)) (rfl : Ui (0) (0))) (fun I2_85 I2_85' L2_85 L2_85' u_I2_85 u_L2_85 => ?_)
                    exact Sr ⟨(rfl : Ui (3) (3)), u_I2_85, u_L2_85⟩
                  · refine Sc Iff.rfl (fun c11 => ?_) (fun _ => Sn)
                    refine Sg (fun g12 => ?_)
                    refine Sb2 (ks_230 n (dp - 1) e 0 _ _ _ _ _ _ _ _ _ _ u_I1_18 u_L1_18 (rfl : Ui (0) (0)) (rfl : Ui (0) (0)) (ui_l2i (u_L1_18 105 11) g12)) (fun I2_85 I2_85' L2_85 L2_85' u_I2_85 u_L2_85 => ?_)
                    exact Sr ⟨(rfl : Ui (3) (3)), u_I2_85, u_L2_85⟩
                · refine Sc (eq_up (rfl : Ui (1) (1)) (rfl : Ui 0 0)) (fun c13 => ?_) (fun c13 => ?_)
                  · refine Sc Iff.rfl (fun c14 => ?_) (fun _ => Sn)
                    refine Sb2 (ks_230 n (dp - 1) e 0 _ _ _ _ _ _ _ _ _ _ u_I1_18 u_L1_18 (rfl : Ui (0) (0)) u_x1_18 (rfl : Ui (0) (0))) (fun I2_85 I2_85' L2_85 L2_85' u_I2_85 u_L2_85 => ?_)
                    exact Sr ⟨(rfl : Ui (3) (3)), u_I2_85, u_L2_85⟩
                  · refine Sc Iff.rfl (fun c15 => ?_) (fun _ => Sn)
                    refine Sg (fun g16 => ?_)
                    refine Sb2 (ks_230 n (dp - 1) e 0 _ _ _ _ _ _ _ _ _ _ u_I1_18 u_L1_18 (rfl : Ui (0) (0)) u_x1_18 (ui_l2i (u_L1_18 105 11) g16)) (fun I2_85 I2_85' L2_85 L2_85' u_I2_85 u_L2_85 => ?_)
                    exact Sr ⟨(rfl : Ui (3) (3)), u_I2_85, u_L2_85⟩
              · refine Sc (eq_up u_x1_18 (rfl : Ui (-1) (-1))) (fun c17 => ?_) (fun c17 => ?_)
                · refine Sc (eq_up (rfl : Ui (1) (1)) (rfl : Ui 0 0)) (fun c18 => ?_) (fun c18 => ?_)
                  · refine Sc Iff.rfl (fun c19 => ?_) (fun _ => Sn)
                    refine Sb2 (ks_230 n (dp - 1) e 0 _ _ _ _ _ _ _ _ _ _ u_I1_18 u_L1_18 (rfl : Ui (1) (1)) (rfl : Ui (0) (0)) (rfl : Ui (0) (0))) (fun I2_85 I2_85' L2_85 L2_85' u_I2_85 u_L2_85 => ?_)
                    exact Sr ⟨(rfl : Ui (3) (3)), u_I2_85, u_L2_85⟩
                  · refine Sc Iff.rfl (fun c20 => ?_) (fun _ => Sn)
                    refine Sg (fun g21 => ?_)
                    refine Sb2 (ks_230 n (dp - 1) e 0 _ _ _ _ _ _ _ _ _ _ u_I1_18 u_L1_18 (rfl : Ui (1) (1)) (rfl : Ui (0) (0)) (ui_l2i (u_L1_18 105 11) g21)) (fun I2_85 I2_85' L2_85 L2_85' u_I2_85 u_L2_85 => ?_)
                    exact Sr ⟨(rfl : Ui (3) (3)), u_I2_85, u_L2_85⟩
                · refine Sc (eq_up (rfl : Ui (1) (1)) (rfl : Ui 0 0)) (fun c22 => ?_) (fun c22 => ?_)
                  · refine Sc Iff.rfl (fun c23 => ?_) (fun _ => Sn)
                    refine Sb2 (ks_230 n (dp - 1) e 0 _ _ _ _ _ _ _ _ _ _ u_I1_18 u_L1_18 (rfl : Ui (1) (1)) u_x1_18 (rfl : Ui (0) (0))) (fun I2_85 I2_85' L2_85 L2_85' u_I2_85 u_L2_85 => ?_)
                    exact Sr ⟨(rfl : Ui (3) (3)), u_I2_85, u_L2_85⟩
                  · refine Sc Iff.rfl (fun c24 => ?_) (fun _ => Sn)
                    refine Sg (fun g25 => ?_)
                    refine Sb2 (ks_230 n (dp - 1) e 0 _ _ _ _ _ _ _ _ _ _ u_I1_18 u_L1_18 (rfl : Ui (1) (1)) u_x1_18 (ui_l2i (u_L1_18 105 11) g25)) (fun I2_85 I2_85' L2_85 L2_85' u_I2_85 u_L2_85 => ?_)
                    exact Sr ⟨(rfl : Ui (3) (3)), u_I2_85, u_L2_85⟩
            · refine Sc (eq_up u_x1_18 (rfl : Ui (-1) (-1))) (fun c26 => ?_) (fun c26 => ?_)
              · refine Sc (eq_up (rfl : Ui (1) (1)) (rfl : Ui 0 0)) (fun c27 => ?_) (fun c27 => ?_)
                · refine Sc Iff.rfl (fun c28 => ?_) (fun _ => Sn)
                  refine Sb2 (ks_230 n (dp - 1) e 0 _ _ _ _ _ _ _ _ _ _ u_I1_18 u_L1_18 (rfl : Ui (1) (1)) (rfl : Ui (0) (0)) (rfl : Ui (0) (0))) (fun I2_85 I2_85' L2_85 L2_85' u_I2_85 u_L2_85 => ?_)
                  exact Sr ⟨(rfl : Ui (3) (3)), u_I2_85, u_L2_85⟩
                · refine Sc Iff.rfl (fun c29 => ?_) (fun _ => Sn)
                  refine Sg (fun g30 => ?_)
                  refine Sb2 (ks_230 n (dp - 1) e 0 _ _ _ _ _ _ _ _ _ _ u_I1_18 u_L1_18 (rfl : Ui (1) (1)) (rfl : Ui (0) (0)) (ui_l2i (u_L1_18 105 11) g30)) (fun I2_85 I2_85' L2_85 L2_85' u_I2_85 u_L2_85 => ?_)
                  exact Sr ⟨(rfl : Ui (3) (3)), u_I2_85, u_L2_85⟩
              · refine Sc (eq_up (rfl : Ui (1) (1)) (rfl : Ui 0 0)) (fun c31 => ?_) (fun c31 => ?_)
                · refine Sc Iff.rfl (fun c32 => ?_) (fun _ => Sn)
                  refine Sb2 (ks_230 n (dp - 1) e 0 _ _ _ _ _ _ _ _ _ _ u_I1_18 u_L1_18 (rfl : Ui (1) (1)) u_x1_18 (rfl : Ui (0) (0))) (fun I2_85 I2_85' L2_85 L2_85' u_I2_85 u_L2_85 => ?_)
                  exact Sr ⟨(rfl : Ui (3) (3)), u_I2_85, u_L2_85⟩
                · refine Sc Iff.rfl (fun c33 => ?_) (fun _ => Sn)
                  refine Sg (fun g34 => ?_)
                  refine Sb2 (ks_230 n (dp - 1) e 0 _ _ _ _ _ _ _ _ _ _ u_I1_18 u_L1_18 (rfl : Ui (1) (1)) u_x1_18 (ui_l2i (u_L1_18 105 11) g34)) (fun I2_85 I2_85' L2_85 L2_85' u_I2_85 u_L2_85 => ?_)
                  exact Sr ⟨(rfl : Ui (3) (3)), u_I2_85, u_L2_85⟩
        · exact (ih dp e 1 _ _ _ _ _ _ u_I1_18 u_L1_18 u_x1_18)
      · refine Sc Iff.rfl (fun c35 => ?_) (fun _ => Sn)
        refine Sb2 (ks_227 n (dp - 1) e 0 _ _ _ _ _ _ u_I0_3 u_L0_3 (rfl : Ui (31) (31))) (fun I1_12 I1_12' L1_12 L1_12' u_I1_12 u_L1_12 => ?_)
        exact Sr ⟨(rfl : Ui (1) (1)), u_I1_12, u_L1_12⟩
    refine Sc Iff.rfl (fun _ => ?_) (fun _ => ?_)
    · refine Sc (eq_up u_i1 (rfl : Ui (-1) (-1))) (fun c1 => ?_) (fun c1 => ?_)
      · refine Sc (eq_up (rfl : Ui (0) (0)) (rfl : Ui 0 0)) (fun c2 => ?_) (fun c2 => ?_)
        · refine Sc (eq_up u_i1 (rfl : Ui (-1) (-1))) (fun c3 => ?_) (fun c3 => ?_)
          · refine Sc (eq_up (rfl : Ui (0) (0)) (rfl : Ui 0 0)) (fun c4 => ?_) (fun c4 => ?_)
            · refine Sc Iff.rfl (fun c5 => ?_) (fun _ => Sn)
              refine Sb2 (ks_230 n (dp - 1) e 0 _ _ _ _ _ _ _ _ _ _ u_I u_L (rfl : Ui (0) (0)) (rfl : Ui (0) (0)) (rfl : Ui (0) (0))) (fun I0_85 I0_85' L0_85 L0_85' u_I0_85 u_L0_85 => ?_)
              exact Sr ⟨(rfl : Ui (3) (3)), u_I0_85, u_L0_85⟩
            · refine Sc Iff.rfl (fun c6 => ?_) (fun _ => Sn)
              refine Sg (fun g7 => ?_)
              refine Sb2 (ks_230 n (dp - 1) e 0 _ _ _ _ _ _ _ _ _ _ u_I u_L (rfl : Ui (0) (0)) (rfl : Ui (0) (0)) (ui_l2i (u_L 105 11) g7)) (fun I0_85 I0_85' L0_85 L0_85' u_I0_85 u_L0_85 => ?_)
              exact Sr ⟨(rfl : Ui (3) (3)), u_I0_85, u_L0_85⟩
          · refine Sc (eq_up (rfl : Ui (0) (0)) (rfl : Ui 0 0)) (fun c8 => ?_) (fun c8 => ?_)
            · refine Sc Iff.rfl (fun c9 => ?_) (fun _ => Sn)
              refine Sb2 (ks_230 n (dp - 1) e 0 _ _ _ _ _ _ _ _ _ _ u_I u_L (rfl : Ui (0) (0)) u_i1 (rfl : Ui (0) (0))) (fun I0_85 I0_85' L0_85 L0_85' u_I0_85 u_L0_85 => ?_)
              exact Sr ⟨(rfl : Ui (3) (3)), u_I0_85, u_L0_85⟩
            · refine Sc Iff.rfl (fun c10 => ?_) (fun _ => Sn)
              refine Sg (fun g11 => ?_)
              refine Sb2 (ks_230 n (dp - 1) e 0 _ _ _ _ _ _ _ _ _ _ u_I u_L (rfl : Ui (0) (0)) u_i1 (ui_l2i (u_L 105 11) g11)) (fun I0_85 I0_85' L0_85 L0_85' u_I0_85 u_L0_85 => ?_)
              exact Sr ⟨(rfl : Ui (3) (3)), u_I0_85, u_L0_85⟩
        · refine Sc (eq_up u_i1 (rfl : Ui (-1) (-1))) (fun c12 => ?_) (fun c12 => ?_)
          · refine Sc (eq_up (rfl : Ui (0) (0)) (rfl : Ui 0 0)) (fun c13 => ?_) (fun c13 => ?_)
            · refine Sc Iff.rfl (fun c14 => ?_) (fun _ => Sn)
              refine Sb2 (ks_230 n (dp - 1) e 0 _ _ _ _ _ _ _ _ _ _ u_I u_L (rfl : Ui (1) (1)) (rfl : Ui (0) (0)) (rfl : Ui (0) (0))) (fun I0_85 I0_85' L0_85 L0_85' u_I0_85 u_L0_85 => ?_)
              exact Sr ⟨(rfl : Ui (3) (3)), u_I0_85, u_L0_85⟩
            · refine Sc Iff.rfl (fun c15 => ?_) (fun _ => Sn)
              refine Sg (fun g16 => ?_)
              refine Sb2 (ks_230 n (dp - 1) e 0 _ _ _ _ _ _ _ _ _ _ u_I u_L (rfl : Ui (1) (1)) (rfl : Ui (0) (0)) (ui_l2i (u_L 105 11) g16)) (fun I0_85 I0_85' L0_85 L0_85' u_I0_85 u_L0_85 => ?_)
              exact Sr ⟨(rfl : Ui (3) (3)), u_I0_85, u_L0_85⟩
          · refine Sc (eq_up (rfl : Ui (0) (0)) (rfl : Ui 0 0)) (fun c17 => ?_) (fun c17 => ?_)
            · refine Sc Iff.rfl (fun c18 => ?_) (fun _ => Sn)
              refine Sb2 (ks_230 n (dp - 1) e 0 _ _ _ _ _ _ _ _ _ _ u_I u_L (rfl : Ui (1) (1)) u_i1 (rfl : Ui (0) (0))) (fun I0_85 I0_85' L0_85 L0_85' u_I0_85 u_L0_85 => ?_)
              exact Sr ⟨(rfl : Ui (3) (3)), u_I0_85, u_L0_85⟩
            · refine Sc Iff.rfl (fun c19 => ?_) (fun _ => Sn)
              refine Sg (fun g20 => ?_)
              refine Sb2 (ks_230 n (dp - 1) e 0 _ _ _ _ _ _ _ _ _ _ u_I u_L (rfl : Ui (1) (1)) u_i1 (ui_l2i (u_L 105 11) g20)) (fun I0_85 I0_85' L0_85 L0_85' u_I0_85 u_L0_85 => ?_)
              exact Sr ⟨(rfl : Ui (3) (3)), u_I0_85, u_L0_85⟩
      · refine Sc (eq_up u_i1 (rfl : Ui (-1) (-1))) (fun c21 => ?_) (fun c21 => ?_)
        · refine Sc (eq_up (rfl : Ui (0) (0)) (rfl : Ui 0 0)) (fun c22 => ?_) (fun c22 => ?_)
          · refine Sc Iff.rfl (fun c23 => ?_) (fun _ => Sn)
            refine Sb2 (ks_230 n (dp - 1) e 0 _ _ _ _ _ _ _ _ _ _ u_I u_L (rfl : Ui (1) (1)) (rfl : Ui (0) (0)) (rfl : Ui (0) (0))) (fun I0_85 I0_85' L0_85 L0_85' u_I0_85 u_L0_85 => ?_)
            exact Sr ⟨(rfl : Ui (3) (3)), u_I0_85, u_L0_85⟩
          · refine Sc Iff.rfl (fun c24 => ?_) (fun _ => Sn)
            refine Sg (fun g25 => ?_)
            refine Sb2 (ks_230 n (dp - 1) e 0 _ _ _ _ _ _ _ _ _ _ u_I u_L (rfl : Ui (1) (1)) (rfl : Ui (0) (0)) (ui_l2i (u_L 105 11) g25)) (fun I0_85 I0_85' L0_85 L0_85' u_I0_85 u_L0_85 => ?_)
            exact Sr ⟨(rfl : Ui (3) (3)), u_I0_85, u_L0_85⟩
        · refine Sc (eq_up (rfl : Ui (0) (0)) (rfl : Ui 0 0)) (fun c26 => ?_) (fun c26 => ?_)
          · refine Sc Iff.rfl (fun c27 => ?_) (fun _ => Sn)
            refine Sb2 (ks_230 n (dp - 1) e 0 _ _ _ _ _ _ _ _ _ _ u_I u_L (rfl : Ui (1) (1)) u_i1 (rfl : Ui (0) (0))) (fun I0_85 I0_85' L0_85 L0_85' u_I0_85 u_L0_85 => ?_)
            exact Sr ⟨(rfl : Ui (3) (3)), u_I0_85, u_L0_85⟩
          · refine Sc Iff.rfl (fun c28 => ?_) (fun _ => Sn)
            refine Sg (fun g29 => ?_)
            refine Sb2 (ks_230 n (dp - 1) e 0 _ _ _ _ _ _ _ _ _ _ u_I u_L (rfl : Ui (1) (1)) u_i1 (ui_l2i (u_L 105 11) g29)) (fun I0_85 I0_85' L0_85 L0_85' u_I0_85 u_L0_85 => ?_)
            exact Sr ⟨(rfl : Ui (3) (3)), u_I0_85, u_L0_85⟩
    exact Sn
set_option maxHeartbeats 4000000 in
set_option maxRecDepth 100000 in
def kf_224 : Nat → Nat → EN → Nat → JI → JI → Option (Int × JI × JI)
  | 0, _, _, _, _, _ => none
  | n + 1, dp, e, lab, I, L =>
    if lab = 0 then (if 1 ≤ dp then ((kf_218 n (dp - 1) e 0 I L 14836).bind (fun ⟨x0_4, I0_4, L0_4⟩ => (if x0_4 = 0 then (if 1 ≤ dp then ((kf_226 n (dp - 1) e 0 I0_4 L0_4 40).bind (fun ⟨x1_26, I1_26, L1_26⟩ => (if x1_26 = 0 then (if 1 ≤ dp then ((kf_228 n (dp - 1) e 0 I1_26 L1_26 0).bind (fun ⟨x2_41, I2_41, L2_41⟩ => (some ((x2_41 : Int), I2_41, L2_41)))) else none) else (if 1 ≤ dp then ((kf_227 n (dp - 1) e 0 I1_26 L1_26 30).bind (fun ⟨I2_35, L2_35⟩ => (some ((0 : Int), I2_35, L2_35)))) else none)))) else none) else (if 1 ≤ dp then ((kf_225 n (dp - 1) e 0 I0_4 L0_4 27 0).bind (fun ⟨I1_14, L1_14⟩ => (if 1 ≤ dp then ((kf_214 n (dp - 1) e 0 I1_14 L1_14).bind (fun ⟨I2_18, L2_18⟩ => (some ((0 : Int), I2_18, L2_18)))) else none))) else none)))) else none)
    else none
set_option maxRecDepth 100000 in
theorem ke_224_0 (n : Nat) (dp : Nat) (e : EN) (I : JI) (L : JI) : kf_224 (n + 1) dp e 0 I L = (if 1 ≤ dp then ((kf_218 n (dp - 1) e 0 I L 14836).bind (fun ⟨x0_4, I0_4, L0_4⟩ => (if x0_4 = 0 then (if 1 ≤ dp then ((kf_226 n (dp - 1) e 0 I0_4 L0_4 40).bind (fun ⟨x1_26, I1_26, L1_26⟩ => (if x1_26 = 0 then (if 1 ≤ dp then ((kf_228 n (dp - 1) e 0 I1_26 L1_26 0).bind (fun ⟨x2_41, I2_41, L2_41⟩ => (some ((x2_41 : Int), I2_41, L2_41)))) else none) else (if 1 ≤ dp then ((kf_227 n (dp - 1) e 0 I1_26 L1_26 30).bind (fun ⟨I2_35, L2_35⟩ => (some ((0 : Int), I2_35, L2_35)))) else none)))) else none) else (if 1 ≤ dp then ((kf_225 n (dp - 1) e 0 I0_4 L0_4 27 0).bind (fun ⟨I1_14, L1_14⟩ => (if 1 ≤ dp then ((kf_214 n (dp - 1) e 0 I1_14 L1_14).bind (fun ⟨I2_18, L2_18⟩ => (some ((0 : Int), I2_18, L2_18)))) else none))) else none)))) else none) := by rw [kf_224.eq_2, if_pos (show (0 : Nat) = 0 from rfl)]
set_option maxHeartbeats 8000000 in
set_option maxRecDepth 100000 in
theorem ks_224 : ∀ (n : Nat) (dp : Nat) (e : EN) (lab : Nat) (I : Nat → Nat → Int32) (I' : JI) (L : Nat → Nat → Int64) (L' : JI), Rli I I' → Rll L L' → Sim R3 (g_224 n dp e lab I L) (kf_224 n dp e lab I' L') := by
  intro n
  induction n with
  | zero => intros; rw [kf_224.eq_1]; exact Sn
  | succ n ih =>
    intro dp e lab I I' L L' u_I u_L
    rw [g_224.eq_2, kf_224.eq_2]
    refine Sc Iff.rfl (fun _ => ?_) (fun _ => ?_)
    · refine Sc Iff.rfl (fun c1 => ?_) (fun _ => Sn)
      refine Sb3 (ks_218 n (dp - 1) e 0 _ _ _ _ _ _ u_I u_L (rfl : Ul (14836) (14836))) (fun x0_4 x0_4' I0_4 I0_4' L0_4 L0_4' u_x0_4 u_I0_4 u_L0_4 => ?_)
      refine Sc (eq_up u_x0_4 (rfl : Ui 0 0)) (fun c2 => ?_) (fun c2 => ?_)
      · refine Sc Iff.rfl (fun c3 => ?_) (fun _ => Sn)
        refine Sb3 (ks_226 n (dp - 1) e 0 _ _ _ _ _ _ u_I0_4 u_L0_4 (rfl : Ui (40) (40))) (fun x1_26 x1_26' I1_26 I1_26' L1_26 L1_26' u_x1_26 u_I1_26 u_L1_26 => ?_)
        refine Sc (eq_up u_x1_26 (rfl : Ui 0 0)) (fun c4 => ?_) (fun c4 => ?_)
        · refine Sc Iff.rfl (fun c5 => ?_) (fun _ => Sn)
          refine Sb3 (ks_228 n (dp - 1) e 0 _ _ _ _ _ _ u_I1_26 u_L1_26 (rfl : Ui 0 0)) (fun x2_41 x2_41' I2_41 I2_41' L2_41 L2_41' u_x2_41 u_I2_41 u_L2_41 => ?_)
          exact Sr ⟨u_x2_41, u_I2_41, u_L2_41⟩
        · refine Sc Iff.rfl (fun c6 => ?_) (fun _ => Sn)
          refine Sb2 (ks_227 n (dp - 1) e 0 _ _ _ _ _ _ u_I1_26 u_L1_26 (rfl : Ui (30) (30))) (fun I2_35 I2_35' L2_35 L2_35' u_I2_35 u_L2_35 => ?_)
          exact Sr ⟨(rfl : Ui (0) (0)), u_I2_35, u_L2_35⟩
      · refine Sc Iff.rfl (fun c7 => ?_) (fun _ => Sn)
        refine Sb2 (ks_225 n (dp - 1) e 0 _ _ _ _ _ _ _ _ u_I0_4 u_L0_4 (rfl : Ui (27) (27)) (rfl : Ui (0) (0))) (fun I1_14 I1_14' L1_14 L1_14' u_I1_14 u_L1_14 => ?_)
        refine Sc Iff.rfl (fun c8 => ?_) (fun _ => Sn)
        refine Sb2 (ks_214 n (dp - 1) e 0 _ _ _ _ u_I1_14 u_L1_14) (fun I2_18 I2_18' L2_18 L2_18' u_I2_18 u_L2_18 => ?_)
        exact Sr ⟨(rfl : Ui (0) (0)), u_I2_18, u_L2_18⟩
    exact Sn
set_option maxHeartbeats 4000000 in
set_option maxRecDepth 100000 in
def kf_233 : Nat → Nat → EN → Nat → JI → JI → Int → Option (Int × JI × JI)
  | 0, _, _, _, _, _, _ => none
  | n + 1, dp, e, lab, I, L, i0 =>
    if lab = 0 then (if i0 < 30 then (if i0 = 29 then (some ((1 : Int), I, L)) else (if i0 = 28 then (some ((2 : Int), I, L)) else (if i0 = 27 then (some ((3 : Int), I, L)) else (if i0 < 24 then (if i0 < 22 then (some ((5 : Int), I, L)) else (some ((6 : Int), I, L))) else (some ((4 : Int), I, L)))))) else (some ((0 : Int), I, L)))
    else none
set_option maxRecDepth 100000 in
theorem ke_233_0 (n : Nat) (dp : Nat) (e : EN) (I : JI) (L : JI) (i0 : Int) : kf_233 (n + 1) dp e 0 I L i0 = (if i0 < 30 then (if i0 = 29 then (some ((1 : Int), I, L)) else (if i0 = 28 then (some ((2 : Int), I, L)) else (if i0 = 27 then (some ((3 : Int), I, L)) else (if i0 < 24 then (if i0 < 22 then (some ((5 : Int), I, L)) else (some ((6 : Int), I, L))) else (some ((4 : Int), I, L)))))) else (some ((0 : Int), I, L))) := by rw [kf_233.eq_2, if_pos (show (0 : Nat) = 0 from rfl)]
set_option maxHeartbeats 8000000 in
set_option maxRecDepth 100000 in
theorem ks_233 : ∀ (n : Nat) (dp : Nat) (e : EN) (lab : Nat) (I : Nat → Nat → Int32) (I' : JI) (L : Nat → Nat → Int64) (L' : JI) (i0 : Int32) (i0' : Int), Rli I I' → Rll L L' → Ui i0 i0' → Sim R3 (g_233 n dp e lab I L i0) (kf_233 n dp e lab I' L' i0') := by
  intro n
  induction n with
  | zero => intros; rw [kf_233.eq_1]; exact Sn
  | succ n ih =>
    intro dp e lab I I' L L' i0 i0' u_I u_L u_i0
    rw [g_233.eq_2, kf_233.eq_2]
    refine Sc Iff.rfl (fun _ => ?_) (fun _ => ?_)
    · refine Sc (lt_up u_i0 (rfl : Ui (30) (30))) (fun c1 => ?_) (fun c1 => ?_)
      · refine Sc (eq_up u_i0 (rfl : Ui (29) (29))) (fun c2 => ?_) (fun c2 => ?_)
        · exact Sr ⟨(rfl : Ui (1) (1)), u_I, u_L⟩
        · refine Sc (eq_up u_i0 (rfl : Ui (28) (28))) (fun c3 => ?_) (fun c3 => ?_)
          · exact Sr ⟨(rfl : Ui (2) (2)), u_I, u_L⟩
          · refine Sc (eq_up u_i0 (rfl : Ui (27) (27))) (fun c4 => ?_) (fun c4 => ?_)
            · exact Sr ⟨(rfl : Ui (3) (3)), u_I, u_L⟩
            · refine Sc (lt_up u_i0 (rfl : Ui (24) (24))) (fun c5 => ?_) (fun c5 => ?_)
              · refine Sc (lt_up u_i0 (rfl : Ui (22) (22))) (fun c6 => ?_) (fun c6 => ?_)
                · exact Sr ⟨(rfl : Ui (5) (5)), u_I, u_L⟩
                · exact Sr ⟨(rfl : Ui (6) (6)), u_I, u_L⟩
              · exact Sr ⟨(rfl : Ui (4) (4)), u_I, u_L⟩
      · exact Sr ⟨(rfl : Ui (0) (0)), u_I, u_L⟩
    exact Sn
set_option maxHeartbeats 4000000 in
set_option maxRecDepth 100000 in
def kf_234 : Nat → Nat → EN → Nat → JI → JI → Int → Option (JI × JI)
  | 0, _, _, _, _, _, _ => none
  | n + 1, dp, e, lab, I, L, i1 =>
    if lab = 0 then (if (I 105 22) ≤ 0 then (some (I, L)) else (if -2147483648 ≤ (I 105 22) - 1 ∧ (I 105 22) - 1 ≤ 2147483647 then (if 0 ≤ ((I 105 22) - 1) ∧ ((I 105 22) - 1) < 400 then (if 1 ≤ dp then ((kf_233 n (dp - 1) e 0 I L (I 114 ((I 105 22) - 1))).bind (fun ⟨x0_18, I0_18, L0_18⟩ => (if x0_18 < i1 then (some (I0_18, L0_18)) else (if -2147483648 ≤ (I0_18 105 22) - 1 ∧ (I0_18 105 22) - 1 ≤ 2147483647 then (stI (w2 I0_18 105 22 ((I0_18 105 22) - 1)) (fun I_32 => (if 0 ≤ (I_32 105 22) ∧ (I_32 105 22) < 400 then (if (I_32 114 (I_32 105 22)) = 28 then (kf_234 n dp e 1 I_32 L0_18 i1) else (if 0 ≤ (I_32 105 22) ∧ (I_32 105 22) < 400 then (if (I_32 114 (I_32 105 22)) = 29 then (kf_234 n dp e 1 I_32 L0_18 i1) else (if 0 ≤ (I_32 105 22) ∧ (I_32 105 22) < 400 then (if 1 ≤ dp then ((kf_231 n (dp - 1) e 0 I_32 L0_18 (I_32 114 (I_32 105 22)) 0).bind (fun ⟨I1_95, L1_95⟩ => (kf_234 n dp e 0 I1_95 L1_95 i1))) else none) else none)) else none)) else none))) else none)))) else none) else none) else none))
    else if lab = 1 then (if 0 ≤ (I 105 22) ∧ (I 105 22) < 400 then (if 0 ≤ (I 115 (I 105 22)) ∧ (I 115 (I 105 22)) < 400 then (stI (w2 I 113 (I 115 (I 105 22)) (I 105 16)) (fun I_80 => (kf_234 n dp e 0 I_80 L i1))) else none) else none)
    else none
set_option maxRecDepth 100000 in
theorem ke_234_0 (n : Nat) (dp : Nat) (e : EN) (I : JI) (L : JI) (i1 : Int) : kf_234 (n + 1) dp e 0 I L i1 = (if (I 105 22) ≤ 0 then (some (I, L)) else (if -2147483648 ≤ (I 105 22) - 1 ∧ (I 105 22) - 1 ≤ 2147483647 then (if 0 ≤ ((I 105 22) - 1) ∧ ((I 105 22) - 1) < 400 then (if 1 ≤ dp then ((kf_233 n (dp - 1) e 0 I L (I 114 ((I 105 22) - 1))).bind (fun ⟨x0_18, I0_18, L0_18⟩ => (if x0_18 < i1 then (some (I0_18, L0_18)) else (if -2147483648 ≤ (I0_18 105 22) - 1 ∧ (I0_18 105 22) - 1 ≤ 2147483647 then (stI (w2 I0_18 105 22 ((I0_18 105 22) - 1)) (fun I_32 => (if 0 ≤ (I_32 105 22) ∧ (I_32 105 22) < 400 then (if (I_32 114 (I_32 105 22)) = 28 then (kf_234 n dp e 1 I_32 L0_18 i1) else (if 0 ≤ (I_32 105 22) ∧ (I_32 105 22) < 400 then (if (I_32 114 (I_32 105 22)) = 29 then (kf_234 n dp e 1 I_32 L0_18 i1) else (if 0 ≤ (I_32 105 22) ∧ (I_32 105 22) < 400 then (if 1 ≤ dp then ((kf_231 n (dp - 1) e 0 I_32 L0_18 (I_32 114 (I_32 105 22)) 0).bind (fun ⟨I1_95, L1_95⟩ => (kf_234 n dp e 0 I1_95 L1_95 i1))) else none) else none)) else none)) else none))) else none)))) else none) else none) else none)) := by rw [kf_234.eq_2, if_pos (show (0 : Nat) = 0 from rfl)]
set_option maxRecDepth 100000 in
theorem ke_234_1 (n : Nat) (dp : Nat) (e : EN) (I : JI) (L : JI) (i1 : Int) : kf_234 (n + 1) dp e 1 I L i1 = (if 0 ≤ (I 105 22) ∧ (I 105 22) < 400 then (if 0 ≤ (I 115 (I 105 22)) ∧ (I 115 (I 105 22)) < 400 then (stI (w2 I 113 (I 115 (I 105 22)) (I 105 16)) (fun I_80 => (kf_234 n dp e 0 I_80 L i1))) else none) else none) := by rw [kf_234.eq_2, if_neg (show ¬ ((1 : Nat) = 0) by decide), if_pos (show (1 : Nat) = 1 from rfl)]
set_option maxHeartbeats 8000000 in
set_option maxRecDepth 100000 in
theorem ks_234 : ∀ (n : Nat) (dp : Nat) (e : EN) (lab : Nat) (I : Nat → Nat → Int32) (I' : JI) (L : Nat → Nat → Int64) (L' : JI) (i1 : Int32) (i1' : Int), Rli I I' → Rll L L' → Ui i1 i1' → Sim R2 (g_234 n dp e lab I L i1) (kf_234 n dp e lab I' L' i1') := by
  intro n
  induction n with
  | zero => intros; rw [kf_234.eq_1]; exact Sn
  | succ n ih =>
    intro dp e lab I I' L L' i1 i1' u_I u_L u_i1
    rw [g_234.eq_2, kf_234.eq_2]
    refine Sc Iff.rfl (fun _ => ?_) (fun _ => ?_)
    · refine Sc (le_up (u_I 105 22) (rfl : Ui 0 0)) (fun c1 => ?_) (fun c1 => ?_)
      · exact Sr ⟨u_I, u_L⟩
      · refine Sg (fun g2 => ?_)
        refine Sc (ix_up (ui_sub (u_I 105 22) (rfl : Ui (1) (1)) g2)) (fun c3 => ?_) (fun _ => Sn)
        refine Sc Iff.rfl (fun c4 => ?_) (fun _ => Sn)
        refine Sb3 (ks_233 n (dp - 1) e 0 _ _ _ _ _ _ u_I u_L (ui_rd (a := 114) u_I (ui_sub (u_I 105 22) (rfl : Ui (1) (1)) g2) c3.1)) (fun x0_18 x0_18' I0_18 I0_18' L0_18 L0_18' u_x0_18 u_I0_18 u_L0_18 => ?_)
        refine Sc (lt_up u_x0_18 u_i1) (fun c5 => ?_) (fun c5 => ?_)
        · exact Sr ⟨u_I0_18, u_L0_18⟩
        · refine Sg (fun g6 => ?_)
          refine SsJ (ri_up u_I0_18 (rfl : ((22 : Nat) : Int) = 22) (ui_sub (u_I0_18 105 22) (rfl : Ui (1) (1)) g6)) (fun I_32 I_32' u_I_32 => ?_)
          refine Sc (ix_up (u_I_32 105 22)) (fun c7 => ?_) (fun _ => Sn)
          refine Sc (eq_up (ui_rd (a := 114) u_I_32 (u_I_32 105 22) c7.1) (rfl : Ui (28) (28))) (fun c8 => ?_) (fun c8 => ?_)
          · exact (ih dp e 1 _ _ _ _ _ _ u_I_32 u_L0_18 u_i1)
          · refine Sc (ix_up (u_I_32 105 22)) (fun c9 => ?_) (fun _ => Sn)
            refine Sc (eq_up (ui_rd (a := 114) u_I_32 (u_I_32 105 22) c9.1) (rfl : Ui (29) (29))) (fun c10 => ?_) (fun c10 => ?_)
            · exact (ih dp e 1 _ _ _ _ _ _ u_I_32 u_L0_18 u_i1)
            · refine Sc (ix_up (u_I_32 105 22)) (fun c11 => ?_) (fun _ => Sn)
              refine Sc Iff.rfl (fun c12 => ?_) (fun _ => Sn)
              refine Sb2 (ks_231 n (dp - 1) e 0 _ _ _ _ _ _ _ _ u_I_32 u_L0_18 (ui_rd (a := 114) u_I_32 (u_I_32 105 22) c11.1) (rfl : Ui (0) (0))) (fun I1_95 I1_95' L1_95 L1_95' u_I1_95 u_L1_95 => ?_)
              exact (ih dp e 0 _ _ _ _ _ _ u_I1_95 u_L1_95 u_i1)
    refine Sc Iff.rfl (fun _ => ?_) (fun _ => ?_)
    · refine Sc (ix_up (u_I 105 22)) (fun c1 => ?_) (fun _ => Sn)
      refine Sc (ix_up (ui_rd (a := 115) u_I (u_I 105 22) c1.1)) (fun c2 => ?_) (fun _ => Sn)
      refine SsJ (ri_up u_I (kc_up (ui_rd (a := 115) u_I (u_I 105 22) c1.1) c2.1) (u_I 105 16)) (fun I_80 I_80' u_I_80 => ?_)
      exact (ih dp e 0 _ _ _ _ _ _ u_I_80 u_L u_i1)
    exact Sn
set_option maxHeartbeats 4000000 in
set_option maxRecDepth 100000 in
def kf_235 : Nat → Nat → EN → Nat → JI → JI → Int → Int → Option (Int × JI × JI)
  | 0, _, _, _, _, _, _, _ => none
  | n + 1, dp, e, lab, I, L, i1, i2 =>
    if lab = 0 then (kf_235 n dp e 1 I L (-1) 0)
    else if lab = 1 then (if (I 105 22) ≤ i2 then (some ((i1 : Int), I, L)) else (if 0 ≤ i2 ∧ i2 < 400 then (if (I 114 i2) < 30 then (if -2147483648 ≤ i2 + 1 ∧ i2 + 1 ≤ 2147483647 then (kf_235 n dp e 1 I L i1 (i2 + 1)) else none) else (if 0 ≤ i2 ∧ i2 < 400 then (stI (I 114 i2) (fun v_33 => (if -2147483648 ≤ i2 + 1 ∧ i2 + 1 ≤ 2147483647 then (kf_235 n dp e 1 I L v_33 (i2 + 1)) else none))) else none)) else none))
    else none
set_option maxRecDepth 100000 in
theorem ke_235_0 (n : Nat) (dp : Nat) (e : EN) (I : JI) (L : JI) (i1 : Int) (i2 : Int) : kf_235 (n + 1) dp e 0 I L i1 i2 = (kf_235 n dp e 1 I L (-1) 0) := by rw [kf_235.eq_2, if_pos (show (0 : Nat) = 0 from rfl)]
set_option maxRecDepth 100000 in
theorem ke_235_1 (n : Nat) (dp : Nat) (e : EN) (I : JI) (L : JI) (i1 : Int) (i2 : Int) : kf_235 (n + 1) dp e 1 I L i1 i2 = (if (I 105 22) ≤ i2 then (some ((i1 : Int), I, L)) else (if 0 ≤ i2 ∧ i2 < 400 then (if (I 114 i2) < 30 then (if -2147483648 ≤ i2 + 1 ∧ i2 + 1 ≤ 2147483647 then (kf_235 n dp e 1 I L i1 (i2 + 1)) else none) else (if 0 ≤ i2 ∧ i2 < 400 then (stI (I 114 i2) (fun v_33 => (if -2147483648 ≤ i2 + 1 ∧ i2 + 1 ≤ 2147483647 then (kf_235 n dp e 1 I L v_33 (i2 + 1)) else none))) else none)) else none)) := by rw [kf_235.eq_2, if_neg (show ¬ ((1 : Nat) = 0) by decide), if_pos (show (1 : Nat) = 1 from rfl)]
set_option maxHeartbeats 8000000 in
set_option maxRecDepth 100000 in
theorem ks_235 : ∀ (n : Nat) (dp : Nat) (e : EN) (lab : Nat) (I : Nat → Nat → Int32) (I' : JI) (L : Nat → Nat → Int64) (L' : JI) (i1 : Int32) (i1' : Int) (i2 : Int32) (i2' : Int), Rli I I' → Rll L L' → Ui i1 i1' → Ui i2 i2' → Sim R3 (g_235 n dp e lab I L i1 i2) (kf_235 n dp e lab I' L' i1' i2') := by
  intro n
  induction n with
  | zero => intros; rw [kf_235.eq_1]; exact Sn
  | succ n ih =>
    intro dp e lab I I' L L' i1 i1' i2 i2' u_I u_L u_i1 u_i2
    rw [g_235.eq_2, kf_235.eq_2]
    refine Sc Iff.rfl (fun _ => ?_) (fun _ => ?_)
    · exact (ih dp e 1 _ _ _ _ _ _ _ _ u_I u_L (rfl : Ui (-1) (-1)) (rfl : Ui (0) (0)))
    refine Sc Iff.rfl (fun _ => ?_) (fun _ => ?_)
    · refine Sc (le_up (u_I 105 22) u_i2) (fun c1 => ?_) (fun c1 => ?_)
      · exact Sr ⟨u_i1, u_I, u_L⟩
      · refine Sc (ix_up u_i2) (fun c2 => ?_) (fun _ => Sn)
        refine Sc (lt_up (ui_rd (a := 114) u_I u_i2 c2.1) (rfl : Ui (30) (30))) (fun c3 => ?_) (fun c3 => ?_)
        · refine Sg (fun g4 => ?_)
          exact (ih dp e 1 _ _ _ _ _ _ _ _ u_I u_L u_i1 (ui_add u_i2 (rfl : Ui (Int32.ofInt (1)) (1)) g4))
        · refine Sc (ix_up u_i2) (fun c5 => ?_) (fun _ => Sn)
          refine SsI (ui_rd (a := 114) u_I u_i2 c5.1) (fun v_33 v_33' u_v_33 => ?_)
          refine Sg (fun g6 => ?_)
          exact (ih dp e 1 _ _ _ _ _ _ _ _ u_I u_L u_v_33 (ui_add u_i2 (rfl : Ui (Int32.ofInt (1)) (1)) g6))
    exact Sn
set_option maxHeartbeats 4000000 in
set_option maxRecDepth 100000 in
def kf_236 : Nat → Nat → EN → Nat → JI → JI → Int → Option (Int × JI × JI)
  | 0, _, _, _, _, _, _ => none
  | n + 1, dp, e, lab, I, L, i1 =>
    if lab = 0 then (if -2147483648 ≤ (I 105 22) - 1 ∧ (I 105 22) - 1 ≤ 2147483647 then (stI ((I 105 22) - 1) (fun v_6 => (kf_236 n dp e 1 I L v_6))) else none)
    else if lab = 1 then (if i1 < 0 then (kf_236 n dp e 2 I L i1) else (if 0 ≤ i1 ∧ i1 < 400 then (if 1 ≤ dp then ((kf_193 n (dp - 1) e 0 I L (I 114 i1) 20 23).bind (fun ⟨x0_24, I0_24, L0_24⟩ => (if x0_24 = 0 then (kf_236 n dp e 2 I0_24 L0_24 i1) else (if -2147483648 ≤ i1 + (-1) ∧ i1 + (-1) ≤ 2147483647 then (kf_236 n dp e 1 I0_24 L0_24 (i1 + (-1))) else none)))) else none) else none))
    else if lab = 2 then (if i1 < 0 then (some ((0 : Int), I, L)) else (if 0 ≤ i1 ∧ i1 < 400 then (if 1 ≤ dp then ((kf_193 n (dp - 1) e 0 I L (I 114 i1) 24 26).bind (fun ⟨x0_53, I0_53, L0_53⟩ => (if x0_53 = 0 then (some ((0 : Int), I0_53, L0_53)) else (some ((1 : Int), I0_53, L0_53))))) else none) else none))
    else none
set_option maxRecDepth 100000 in
theorem ke_236_0 (n : Nat) (dp : Nat) (e : EN) (I : JI) (L : JI) (i1 : Int) : kf_236 (n + 1) dp e 0 I L i1 = (if -2147483648 ≤ (I 105 22) - 1 ∧ (I 105 22) - 1 ≤ 2147483647 then (stI ((I 105 22) - 1) (fun v_6 => (kf_236 n dp e 1 I L v_6))) else none) := by rw [kf_236.eq_2, if_pos (show (0 : Nat) = 0 from rfl)]
set_option maxRecDepth 100000 in
theorem ke_236_1 (n : Nat) (dp : Nat) (e : EN) (I : JI) (L : JI) (i1 : Int) : kf_236 (n + 1) dp e 1 I L i1 = (if i1 < 0 then (kf_236 n dp e 2 I L i1) else (if 0 ≤ i1 ∧ i1 < 400 then (if 1 ≤ dp then ((kf_193 n (dp - 1) e 0 I L (I 114 i1) 20 23).bind (fun ⟨x0_24, I0_24, L0_24⟩ => (if x0_24 = 0 then (kf_236 n dp e 2 I0_24 L0_24 i1) else (if -2147483648 ≤ i1 + (-1) ∧ i1 + (-1) ≤ 2147483647 then (kf_236 n dp e 1 I0_24 L0_24 (i1 + (-1))) else none)))) else none) else none)) := by rw [kf_236.eq_2, if_neg (show ¬ ((1 : Nat) = 0) by decide), if_pos (show (1 : Nat) = 1 from rfl)]
set_option maxRecDepth 100000 in
theorem ke_236_2 (n : Nat) (dp : Nat) (e : EN) (I : JI) (L : JI) (i1 : Int) : kf_236 (n + 1) dp e 2 I L i1 = (if i1 < 0 then (some ((0 : Int), I, L)) else (if 0 ≤ i1 ∧ i1 < 400 then (if 1 ≤ dp then ((kf_193 n (dp - 1) e 0 I L (I 114 i1) 24 26).bind (fun ⟨x0_53, I0_53, L0_53⟩ => (if x0_53 = 0 then (some ((0 : Int), I0_53, L0_53)) else (some ((1 : Int), I0_53, L0_53))))) else none) else none)) := by rw [kf_236.eq_2, if_neg (show ¬ ((2 : Nat) = 0) by decide), if_neg (show ¬ ((2 : Nat) = 1) by decide), if_pos (show (2 : Nat) = 2 from rfl)]
set_option maxHeartbeats 8000000 in
set_option maxRecDepth 100000 in
theorem ks_236 : ∀ (n : Nat) (dp : Nat) (e : EN) (lab : Nat) (I : Nat → Nat → Int32) (I' : JI) (L : Nat → Nat → Int64) (L' : JI) (i1 : Int32) (i1' : Int), Rli I I' → Rll L L' → Ui i1 i1' → Sim R3 (g_236 n dp e lab I L i1) (kf_236 n dp e lab I' L' i1') := by
  intro n
  induction n with
  | zero => intros; rw [kf_236.eq_1]; exact Sn
  | succ n ih =>
    intro dp e lab I I' L L' i1 i1' u_I u_L u_i1
    rw [g_236.eq_2, kf_236.eq_2]
    refine Sc Iff.rfl (fun _ => ?_) (fun _ => ?_)
    · refine Sg (fun g1 => ?_)
      refine SsI (ui_sub (u_I 105 22) (rfl : Ui (1) (1)) g1) (fun v_6 v_6' u_v_6 => ?_)
      exact (ih dp e 1 _ _ _ _ _ _ u_I u_L u_v_6)
    refine Sc Iff.rfl (fun _ => ?_) (fun _ => ?_)
    · refine Sc (lt_up u_i1 (rfl : Ui 0 0)) (fun c1 => ?_) (fun c1 => ?_)
      · exact (ih dp e 2 _ _ _ _ _ _ u_I u_L u_i1)
      · refine Sc (ix_up u_i1) (fun c2 => ?_) (fun _ => Sn)
        refine Sc Iff.rfl (fun c3 => ?_) (fun _ => Sn)
        refine Sb3 (ks_193 n (dp - 1) e 0 _ _ _ _ _ _ _ _ _ _ u_I u_L (ul_i2l (ui_rd (a := 114) u_I u_i1 c2.1)) (rfl : Ul (20) (20)) (rfl : Ul (23) (23))) (fun x0_24 x0_24' I0_24 I0_24' L0_24 L0_24' u_x0_24 u_I0_24 u_L0_24 => ?_)
        refine Sc (eq_up u_x0_24 (rfl : Ui 0 0)) (fun c4 => ?_) (fun c4 => ?_)
        · exact (ih dp e 2 _ _ _ _ _ _ u_I0_24 u_L0_24 u_i1)
        · refine Sg (fun g5 => ?_)
          exact (ih dp e 1 _ _ _ _ _ _ u_I0_24 u_L0_24 (ui_add u_i1 (rfl : Ui (Int32.ofInt (-1)) (-1)) g5))
    refine Sc Iff.rfl (fun _ => ?_) (fun _ => ?_)
    · refine Sc (lt_up u_i1 (rfl : Ui 0 0)) (fun c1 => ?_) (fun c1 => ?_)
      · exact Sr ⟨(rfl : Ui (0) (0)), u_I, u_L⟩
      · refine Sc (ix_up u_i1) (fun c2 => ?_) (fun _ => Sn)
        refine Sc Iff.rfl (fun c3 => ?_) (fun _ => Sn)
        refine Sb3 (ks_193 n (dp - 1) e 0 _ _ _ _ _ _ _ _ _ _ u_I u_L (ul_i2l (ui_rd (a := 114) u_I u_i1 c2.1)) (rfl : Ul (24) (24)) (rfl : Ul (26) (26))) (fun x0_53 x0_53' I0_53 I0_53' L0_53 L0_53' u_x0_53 u_I0_53 u_L0_53 => ?_)
        refine Sc (eq_up u_x0_53 (rfl : Ui 0 0)) (fun c4 => ?_) (fun c4 => ?_)
        · exact Sr ⟨(rfl : Ui (0) (0)), u_I0_53, u_L0_53⟩
        · exact Sr ⟨(rfl : Ui (1) (1)), u_I0_53, u_L0_53⟩
    exact Sn
set_option maxHeartbeats 4000000 in
set_option maxRecDepth 100000 in
def kf_232 : Nat → Nat → EN → Nat → JI → JI → Int → Int → Int → Option (Int × JI × JI)
  | 0, _, _, _, _, _, _, _, _ => none
  | n + 1, dp, e, lab, I, L, i1, i2, i3 =>
    if lab = 0 then (if 1 ≤ dp then ((kf_226 n (dp - 1) e 0 I L 43).bind (fun ⟨x0_3, I0_3, L0_3⟩ => (if x0_3 = 0 then (if 1 ≤ dp then ((kf_226 n (dp - 1) e 0 I0_3 L0_3 45).bind (fun ⟨x1_17, I1_17, L1_17⟩ => (if x1_17 = 0 then (if 1 ≤ dp then ((kf_226 n (dp - 1) e 0 I1_17 L1_17 42).bind (fun ⟨x2_31, I2_31, L2_31⟩ => (if x2_31 = 0 then (if 1 ≤ dp then ((kf_226 n (dp - 1) e 0 I2_31 L2_31 47).bind (fun ⟨x3_45, I3_45, L3_45⟩ => (if x3_45 = 0 then (if ((-1) : Int) = (-1) then (if 1 ≤ dp then ((kf_235 n (dp - 1) e 0 I3_45 L3_45 0 0).bind (fun ⟨x4_84, I4_84, L4_84⟩ => (if x4_84 = 31 then (if 1 ≤ dp then ((kf_226 n (dp - 1) e 0 I4_84 L4_84 93).bind (fun ⟨x5_98, I5_98, L5_98⟩ => (if 1 ≤ dp then ((kf_219 n (dp - 1) e 0 I5_98 L5_98 x5_98).bind (fun ⟨I6_101, L6_101⟩ => (if (I6_101 105 13) = 0 then (if 1 ≤ dp then ((kf_234 n (dp - 1) e 0 I6_101 L6_101 5).bind (fun ⟨I7_113, L7_113⟩ => (if -2147483648 ≤ (I7_113 105 22) - 1 ∧ (I7_113 105 22) - 1 ≤ 2147483647 then (stI (w2 I7_113 105 22 ((I7_113 105 22) - 1)) (fun I_123 => (if -2147483648 ≤ (I_123 105 23) - 1 ∧ (I_123 105 23) - 1 ≤ 2147483647 then (stI (w2 I_123 105 23 ((I_123 105 23) - 1)) (fun I_133 => (some ((3 : Int), I_133, L7_113)))) else none))) else none))) else none) else (some ((3 : Int), I6_101, L6_101))))) else none))) else none) else (if x4_84 = (-1) then (if i1 = 0 then (some ((4 : Int), I4_84, L4_84)) else (kf_232 n dp e 1 I4_84 L4_84 i1 (-1) x4_84)) else (kf_232 n dp e 1 I4_84 L4_84 i1 (-1) x4_84))))) else none) else (if 1 ≤ dp then ((kf_233 n (dp - 1) e 0 I3_45 L3_45 (-1)).bind (fun ⟨x4_65, I4_65, L4_65⟩ => (if 1 ≤ dp then ((kf_234 n (dp - 1) e 0 I4_65 L4_65 x4_65).bind (fun ⟨I5_68, L5_68⟩ => (if 1 ≤ dp then ((kf_225 n (dp - 1) e 0 I5_68 L5_68 (-1) 0).bind (fun ⟨I6_74, L6_74⟩ => (if 1 ≤ dp then ((kf_214 n (dp - 1) e 0 I6_74 L6_74).bind (fun ⟨I7_78, L7_78⟩ => (some ((1 : Int), I7_78, L7_78)))) else none))) else none))) else none))) else none)) else (if (23 : Int) = (-1) then (if 1 ≤ dp then ((kf_235 n (dp - 1) e 0 I3_45 L3_45 0 0).bind (fun ⟨x4_84, I4_84, L4_84⟩ => (if x4_84 = 31 then (if 1 ≤ dp then ((kf_226 n (dp - 1) e 0 I4_84 L4_84 93).bind (fun ⟨x5_98, I5_98, L5_98⟩ => (if 1 ≤ dp then ((kf_219 n (dp - 1) e 0 I5_98 L5_98 x5_98).bind (fun ⟨I6_101, L6_101⟩ => (if (I6_101 105 13) = 0 then (if 1 ≤ dp then ((kf_234 n (dp - 1) e 0 I6_101 L6_101 5).bind (fun ⟨I7_113, L7_113⟩ => (if -2147483648 ≤ (I7_113 105 22) - 1 ∧ (I7_113 105 22) - 1 ≤ 2147483647 then (stI (w2 I7_113 105 22 ((I7_113 105 22) - 1)) (fun I_123 => (if -2147483648 ≤ (I_123 105 23) - 1 ∧ (I_123 105 23) - 1 ≤ 2147483647 then (stI (w2 I_123 105 23 ((I_123 105 23) - 1)) (fun I_133 => (some ((3 : Int), I_133, L7_113)))) else none))) else none))) else none) else (some ((3 : Int), I6_101, L6_101))))) else none))) else none) else (if x4_84 = (-1) then (if i1 = 0 then (some ((4 : Int), I4_84, L4_84)) else (kf_232 n dp e 1 I4_84 L4_84 i1 23 x4_84)) else (kf_232 n dp e 1 I4_84 L4_84 i1 23 x4_84))))) else none) else (if 1 ≤ dp then ((kf_233 n (dp - 1) e 0 I3_45 L3_45 23).bind (fun ⟨x4_65, I4_65, L4_65⟩ => (if 1 ≤ dp then ((kf_234 n (dp - 1) e 0 I4_65 L4_65 x4_65).bind (fun ⟨I5_68, L5_68⟩ => (if 1 ≤ dp then ((kf_225 n (dp - 1) e 0 I5_68 L5_68 23 0).bind (fun ⟨I6_74, L6_74⟩ => (if 1 ≤ dp then ((kf_214 n (dp - 1) e 0 I6_74 L6_74).bind (fun ⟨I7_78, L7_78⟩ => (some ((1 : Int), I7_78, L7_78)))) else none))) else none))) else none))) else none))))) else none) else (if (22 : Int) = (-1) then (if 1 ≤ dp then ((kf_235 n (dp - 1) e 0 I2_31 L2_31 0 0).bind (fun ⟨x3_84, I3_84, L3_84⟩ => (if x3_84 = 31 then (if 1 ≤ dp then ((kf_226 n (dp - 1) e 0 I3_84 L3_84 93).bind (fun ⟨x4_98, I4_98, L4_98⟩ => (if 1 ≤ dp then ((kf_219 n (dp - 1) e 0 I4_98 L4_98 x4_98).bind (fun ⟨I5_101, L5_101⟩ => (if (I5_101 105 13) = 0 then (if 1 ≤ dp then ((kf_234 n (dp - 1) e 0 I5_101 L5_101 5).bind (fun ⟨I6_113, L6_113⟩ => (if -2147483648 ≤ (I6_113 105 22) - 1 ∧ (I6_113 105 22) - 1 ≤ 2147483647 then (stI (w2 I6_113 105 22 ((I6_113 105 22) - 1)) (fun I_123 => (if -2147483648 ≤ (I_123 105 23) - 1 ∧ (I_123 105 23) - 1 ≤ 2147483647 then (stI (w2 I_123 105 23 ((I_123 105 23) - 1)) (fun I_133 => (some ((3 : Int), I_133, L6_113)))) else none))) else none))) else none) else (some ((3 : Int), I5_101, L5_101))))) else none))) else none) else (if x3_84 = (-1) then (if i1 = 0 then (some ((4 : Int), I3_84, L3_84)) else (kf_232 n dp e 1 I3_84 L3_84 i1 22 x3_84)) else (kf_232 n dp e 1 I3_84 L3_84 i1 22 x3_84))))) else none) else (if 1 ≤ dp then ((kf_233 n (dp - 1) e 0 I2_31 L2_31 22).bind (fun ⟨x3_65, I3_65, L3_65⟩ => (if 1 ≤ dp then ((kf_234 n (dp - 1) e 0 I3_65 L3_65 x3_65).bind (fun ⟨I4_68, L4_68⟩ => (if 1 ≤ dp then ((kf_225 n (dp - 1) e 0 I4_68 L4_68 22 0).bind (fun ⟨I5_74, L5_74⟩ => (if 1 ≤ dp then ((kf_214 n (dp - 1) e 0 I5_74 L5_74).bind (fun ⟨I6_78, L6_78⟩ => (some ((1 : Int), I6_78, L6_78)))) else none))) else none))) else none))) else none))))) else none) else (if (21 : Int) = (-1) then (if 1 ≤ dp then ((kf_235 n (dp - 1) e 0 I1_17 L1_17 0 0).bind (fun ⟨x2_84, I2_84, L2_84⟩ => (if x2_84 = 31 then (if 1 ≤ dp then ((kf_226 n (dp - 1) e 0 I2_84 L2_84 93).bind (fun ⟨x3_98, I3_98, L3_98⟩ => (if 1 ≤ dp then ((kf_219 n (dp - 1) e 0 I3_98 L3_98 x3_98).bind (fun ⟨I4_101, L4_101⟩ => (if (I4_101 105 13) = 0 then (if 1 ≤ dp then ((kf_234 n (dp - 1) e 0 I4_101 L4_101 5).bind (fun ⟨I5_113, L5_113⟩ => (if -2147483648 ≤ (I5_113 105 22) - 1 ∧ (I5_113 105 22) - 1 ≤ 2147483647 then (stI (w2 I5_113 105 22 ((I5_113 105 22) - 1)) (fun I_123 => (if -2147483648 ≤ (I_123 105 23) - 1 ∧ (I_123 105 23) - 1 ≤ 2147483647 then (stI (w2 I_123 105 23 ((I_123 105 23) - 1)) (fun I_133 => (some ((3 : Int), I_133, L5_113)))) else none))) else none))) else none) else (some ((3 : Int), I4_101, L4_101))))) else none))) else none) else (if x2_84 = (-1) then (if i1 = 0 then (some ((4 : Int), I2_84, L2_84)) else (kf_232 n dp e 1 I2_84 L2_84 i1 21 x2_84)) else (kf_232 n dp e 1 I2_84 L2_84 i1 21 x2_84))))) else none) else (if 1 ≤ dp then ((kf_233 n (dp - 1) e 0 I1_17 L1_17 21).bind (fun ⟨x2_65, I2_65, L2_65⟩ => (if 1 ≤ dp then ((kf_234 n (dp - 1) e 0 I2_65 L2_65 x2_65).bind (fun ⟨I3_68, L3_68⟩ => (if 1 ≤ dp then ((kf_225 n (dp - 1) e 0 I3_68 L3_68 21 0).bind (fun ⟨I4_74, L4_74⟩ => (if 1 ≤ dp then ((kf_214 n (dp - 1) e 0 I4_74 L4_74).bind (fun ⟨I5_78, L5_78⟩ => (some ((1 : Int), I5_78, L5_78)))) else none))) else none))) else none))) else none))))) else none) else (if (20 : Int) = (-1) then (if 1 ≤ dp then ((kf_235 n (dp - 1) e 0 I0_3 L0_3 0 0).bind (fun ⟨x1_84, I1_84, L1_84⟩ => (if x1_84 = 31 then (if 1 ≤ dp then ((kf_226 n (dp - 1) e 0 I1_84 L1_84 93).bind (fun ⟨x2_98, I2_98, L2_98⟩ => (if 1 ≤ dp then ((kf_219 n (dp - 1) e 0 I2_98 L2_98 x2_98).bind (fun ⟨I3_101, L3_101⟩ => (if (I3_101 105 13) = 0 then (if 1 ≤ dp then ((kf_234 n (dp - 1) e 0 I3_101 L3_101 5).bind (fun ⟨I4_113, L4_113⟩ => (if -2147483648 ≤ (I4_113 105 22) - 1 ∧ (I4_113 105 22) - 1 ≤ 2147483647 then (stI (w2 I4_113 105 22 ((I4_113 105 22) - 1)) (fun I_123 => (if -2147483648 ≤ (I_123 105 23) - 1 ∧ (I_123 105 23) - 1 ≤ 2147483647 then (stI (w2 I_123 105 23 ((I_123 105 23) - 1)) (fun I_133 => (some ((3 : Int), I_133, L4_113)))) else none))) else none))) else none) else (some ((3 : Int), I3_101, L3_101))))) else none))) else none) else (if x1_84 = (-1) then (if i1 = 0 then (some ((4 : Int), I1_84, L1_84)) else (kf_232 n dp e 1 I1_84 L1_84 i1 20 x1_84)) else (kf_232 n dp e 1 I1_84 L1_84 i1 20 x1_84))))) else none) else (if 1 ≤ dp then ((kf_233 n (dp - 1) e 0 I0_3 L0_3 20).bind (fun ⟨x1_65, I1_65, L1_65⟩ => (if 1 ≤ dp then ((kf_234 n (dp - 1) e 0 I1_65 L1_65 x1_65).bind (fun ⟨I2_68, L2_68⟩ => (if 1 ≤ dp then ((kf_225 n (dp - 1) e 0 I2_68 L2_68 20 0).bind (fun ⟨I3_74, L3_74⟩ => (if 1 ≤ dp then ((kf_214 n (dp - 1) e 0 I3_74 L3_74).bind (fun ⟨I4_78, L4_78⟩ => (some ((1 : Int), I4_78, L4_78)))) else none))) else none))) else none))) else none))))) else none)
    else if lab = 1 then (if 1 ≤ dp then ((kf_236 n (dp - 1) e 0 I L 0).bind (fun ⟨x0_150, I0_150, L0_150⟩ => (if x0_150 = 0 then (if 1 ≤ dp then ((kf_226 n (dp - 1) e 0 I0_150 L0_150 60).bind (fun ⟨x1_161, I1_161, L1_161⟩ => (if x1_161 = 0 then (if 1 ≤ dp then ((kf_226 n (dp - 1) e 0 I1_161 L1_161 62).bind (fun ⟨x2_175, I2_175, L2_175⟩ => (if x2_175 = 0 then (if (26 : Int) = 26 then (if 1 ≤ dp then ((kf_226 n (dp - 1) e 0 I2_175 L2_175 61).bind (fun ⟨x3_199, I3_199, L3_199⟩ => (if x3_199 = 0 then (if 1 ≤ dp then ((kf_219 n (dp - 1) e 0 I3_199 L3_199 0).bind (fun ⟨I4_210, L4_210⟩ => (if (I4_210 105 13) = 0 then (if 1 ≤ dp then ((kf_234 n (dp - 1) e 0 I4_210 L4_210 5).bind (fun ⟨I5_222, L5_222⟩ => (if 1 ≤ dp then ((kf_225 n (dp - 1) e 0 I5_222 L5_222 26 0).bind (fun ⟨I6_228, L6_228⟩ => (some ((1 : Int), I6_228, L6_228)))) else none))) else none) else (some ((1 : Int), I4_210, L4_210))))) else none) else (if 1 ≤ dp then ((kf_219 n (dp - 1) e 0 I3_199 L3_199 1).bind (fun ⟨I4_210, L4_210⟩ => (if (I4_210 105 13) = 0 then (if 1 ≤ dp then ((kf_234 n (dp - 1) e 0 I4_210 L4_210 5).bind (fun ⟨I5_222, L5_222⟩ => (if 1 ≤ dp then ((kf_225 n (dp - 1) e 0 I5_222 L5_222 26 0).bind (fun ⟨I6_228, L6_228⟩ => (some ((1 : Int), I6_228, L6_228)))) else none))) else none) else (some ((1 : Int), I4_210, L4_210))))) else none)))) else none) else (if 1 ≤ dp then ((kf_219 n (dp - 1) e 0 I2_175 L2_175 1).bind (fun ⟨I3_210, L3_210⟩ => (if (I3_210 105 13) = 0 then (if 1 ≤ dp then ((kf_234 n (dp - 1) e 0 I3_210 L3_210 5).bind (fun ⟨I4_222, L4_222⟩ => (if 1 ≤ dp then ((kf_225 n (dp - 1) e 0 I4_222 L4_222 26 0).bind (fun ⟨I5_228, L5_228⟩ => (some ((1 : Int), I5_228, L5_228)))) else none))) else none) else (some ((1 : Int), I3_210, L3_210))))) else none)) else (if (25 : Int) = 26 then (if 1 ≤ dp then ((kf_226 n (dp - 1) e 0 I2_175 L2_175 61).bind (fun ⟨x3_199, I3_199, L3_199⟩ => (if x3_199 = 0 then (if 1 ≤ dp then ((kf_219 n (dp - 1) e 0 I3_199 L3_199 0).bind (fun ⟨I4_210, L4_210⟩ => (if (I4_210 105 13) = 0 then (if 1 ≤ dp then ((kf_234 n (dp - 1) e 0 I4_210 L4_210 5).bind (fun ⟨I5_222, L5_222⟩ => (if 1 ≤ dp then ((kf_225 n (dp - 1) e 0 I5_222 L5_222 25 0).bind (fun ⟨I6_228, L6_228⟩ => (some ((1 : Int), I6_228, L6_228)))) else none))) else none) else (some ((1 : Int), I4_210, L4_210))))) else none) else (if 1 ≤ dp then ((kf_219 n (dp - 1) e 0 I3_199 L3_199 1).bind (fun ⟨I4_210, L4_210⟩ => (if (I4_210 105 13) = 0 then (if 1 ≤ dp then ((kf_234 n (dp - 1) e 0 I4_210 L4_210 5).bind (fun ⟨I5_222, L5_222⟩ => (if 1 ≤ dp then ((kf_225 n (dp - 1) e 0 I5_222 L5_222 25 0).bind (fun ⟨I6_228, L6_228⟩ => (some ((1 : Int), I6_228, L6_228)))) else none))) else none) else (some ((1 : Int), I4_210, L4_210))))) else none)))) else none) else (if 1 ≤ dp then ((kf_219 n (dp - 1) e 0 I2_175 L2_175 1).bind (fun ⟨I3_210, L3_210⟩ => (if (I3_210 105 13) = 0 then (if 1 ≤ dp then ((kf_234 n (dp - 1) e 0 I3_210 L3_210 5).bind (fun ⟨I4_222, L4_222⟩ => (if 1 ≤ dp then ((kf_225 n (dp - 1) e 0 I4_222 L4_222 25 0).bind (fun ⟨I5_228, L5_228⟩ => (some ((1 : Int), I5_228, L5_228)))) else none))) else none) else (some ((1 : Int), I3_210, L3_210))))) else none))))) else none) else (if (24 : Int) = 26 then (if 1 ≤ dp then ((kf_226 n (dp - 1) e 0 I1_161 L1_161 61).bind (fun ⟨x2_199, I2_199, L2_199⟩ => (if x2_199 = 0 then (if 1 ≤ dp then ((kf_219 n (dp - 1) e 0 I2_199 L2_199 0).bind (fun ⟨I3_210, L3_210⟩ => (if (I3_210 105 13) = 0 then (if 1 ≤ dp then ((kf_234 n (dp - 1) e 0 I3_210 L3_210 5).bind (fun ⟨I4_222, L4_222⟩ => (if 1 ≤ dp then ((kf_225 n (dp - 1) e 0 I4_222 L4_222 24 0).bind (fun ⟨I5_228, L5_228⟩ => (some ((1 : Int), I5_228, L5_228)))) else none))) else none) else (some ((1 : Int), I3_210, L3_210))))) else none) else (if 1 ≤ dp then ((kf_219 n (dp - 1) e 0 I2_199 L2_199 1).bind (fun ⟨I3_210, L3_210⟩ => (if (I3_210 105 13) = 0 then (if 1 ≤ dp then ((kf_234 n (dp - 1) e 0 I3_210 L3_210 5).bind (fun ⟨I4_222, L4_222⟩ => (if 1 ≤ dp then ((kf_225 n (dp - 1) e 0 I4_222 L4_222 24 0).bind (fun ⟨I5_228, L5_228⟩ => (some ((1 : Int), I5_228, L5_228)))) else none))) else none) else (some ((1 : Int), I3_210, L3_210))))) else none)))) else none) else (if 1 ≤ dp then ((kf_219 n (dp - 1) e 0 I1_161 L1_161 1).bind (fun ⟨I2_210, L2_210⟩ => (if (I2_210 105 13) = 0 then (if 1 ≤ dp then ((kf_234 n (dp - 1) e 0 I2_210 L2_210 5).bind (fun ⟨I3_222, L3_222⟩ => (if 1 ≤ dp then ((kf_225 n (dp - 1) e 0 I3_222 L3_222 24 0).bind (fun ⟨I4_228, L4_228⟩ => (some ((1 : Int), I4_228, L4_228)))) else none))) else none) else (some ((1 : Int), I2_210, L2_210))))) else none))))) else none) else (some ((2 : Int), I0_150, L0_150))))) else none)
    else none
set_option maxRecDepth 100000 in
theorem ke_232_0 (n : Nat) (dp : Nat) (e : EN) (I : JI) (L : JI) (i1 : Int) (i2 : Int) (i3 : Int) : kf_232 (n + 1) dp e 0 I L i1 i2 i3 = (if 1 ≤ dp then ((kf_226 n (dp - 1) e 0 I L 43).bind (fun ⟨x0_3, I0_3, L0_3⟩ => (if x0_3 = 0 then (if 1 ≤ dp then ((kf_226 n (dp - 1) e 0 I0_3 L0_3 45).bind (fun ⟨x1_17, I1_17, L1_17⟩ => (if x1_17 = 0 then (if 1 ≤ dp then ((kf_226 n (dp - 1) e 0 I1_17 L1_17 42).bind (fun ⟨x2_31, I2_31, L2_31⟩ => (if x2_31 = 0 then (if 1 ≤ dp then ((kf_226 n (dp - 1) e 0 I2_31 L2_31 47).bind (fun ⟨x3_45, I3_45, L3_45⟩ => (if x3_45 = 0 then (if ((-1) : Int) = (-1) then (if 1 ≤ dp then ((kf_235 n (dp - 1) e 0 I3_45 L3_45 0 0).bind (fun ⟨x4_84, I4_84, L4_84⟩ => (if x4_84 = 31 then (if 1 ≤ dp then ((kf_226 n (dp - 1) e 0 I4_84 L4_84 93).bind (fun ⟨x5_98, I5_98, L5_98⟩ => (if 1 ≤ dp then ((kf_219 n (dp - 1) e 0 I5_98 L5_98 x5_98).bind (fun ⟨I6_101, L6_101⟩ => (if (I6_101 105 13) = 0 then (if 1 ≤ dp then ((kf_234 n (dp - 1) e 0 I6_101 L6_101 5).bind (fun ⟨I7_113, L7_113⟩ => (if -2147483648 ≤ (I7_113 105 22) - 1 ∧ (I7_113 105 22) - 1 ≤ 2147483647 then (stI (w2 I7_113 105 22 ((I7_113 105 22) - 1)) (fun I_123 => (if -2147483648 ≤ (I_123 105 23) - 1 ∧ (I_123 105 23) - 1 ≤ 2147483647 then (stI (w2 I_123 105 23 ((I_123 105 23) - 1)) (fun I_133 => (some ((3 : Int), I_133, L7_113)))) else none))) else none))) else none) else (some ((3 : Int), I6_101, L6_101))))) else none))) else none) else (if x4_84 = (-1) then (if i1 = 0 then (some ((4 : Int), I4_84, L4_84)) else (kf_232 n dp e 1 I4_84 L4_84 i1 (-1) x4_84)) else (kf_232 n dp e 1 I4_84 L4_84 i1 (-1) x4_84))))) else none) else (if 1 ≤ dp then ((kf_233 n (dp - 1) e 0 I3_45 L3_45 (-1)).bind (fun ⟨x4_65, I4_65, L4_65⟩ => (if 1 ≤ dp then ((kf_234 n (dp - 1) e 0 I4_65 L4_65 x4_65).bind (fun ⟨I5_68, L5_68⟩ => (if 1 ≤ dp then ((kf_225 n (dp - 1) e 0 I5_68 L5_68 (-1) 0).bind (fun ⟨I6_74, L6_74⟩ => (if 1 ≤ dp then ((kf_214 n (dp - 1) e 0 I6_74 L6_74).bind (fun ⟨I7_78, L7_78⟩ => (some ((1 : Int), I7_78, L7_78)))) else none))) else none))) else none))) else none)) else (if (23 : Int) = (-1) then (if 1 ≤ dp then ((kf_235 n (dp - 1) e 0 I3_45 L3_45 0 0).bind (fun ⟨x4_84, I4_84, L4_84⟩ => (if x4_84 = 31 then (if 1 ≤ dp then ((kf_226 n (dp - 1) e 0 I4_84 L4_84 93).bind (fun ⟨x5_98, I5_98, L5_98⟩ => (if 1 ≤ dp then ((kf_219 n (dp - 1) e 0 I5_98 L5_98 x5_98).bind (fun ⟨I6_101, L6_101⟩ => (if (I6_101 105 13) = 0 then (if 1 ≤ dp then ((kf_234 n (dp - 1) e 0 I6_101 L6_101 5).bind (fun ⟨I7_113, L7_113⟩ => (if -2147483648 ≤ (I7_113 105 22) - 1 ∧ (I7_113 105 22) - 1 ≤ 2147483647 then (stI (w2 I7_113 105 22 ((I7_113 105 22) - 1)) (fun I_123 => (if -2147483648 ≤ (I_123 105 23) - 1 ∧ (I_123 105 23) - 1 ≤ 2147483647 then (stI (w2 I_123 105 23 ((I_123 105 23) - 1)) (fun I_133 => (some ((3 : Int), I_133, L7_113)))) else none))) else none))) else none) else (some ((3 : Int), I6_101, L6_101))))) else none))) else none) else (if x4_84 = (-1) then (if i1 = 0 then (some ((4 : Int), I4_84, L4_84)) else (kf_232 n dp e 1 I4_84 L4_84 i1 23 x4_84)) else (kf_232 n dp e 1 I4_84 L4_84 i1 23 x4_84))))) else none) else (if 1 ≤ dp then ((kf_233 n (dp - 1) e 0 I3_45 L3_45 23).bind (fun ⟨x4_65, I4_65, L4_65⟩ => (if 1 ≤ dp then ((kf_234 n (dp - 1) e 0 I4_65 L4_65 x4_65).bind (fun ⟨I5_68, L5_68⟩ => (if 1 ≤ dp then ((kf_225 n (dp - 1) e 0 I5_68 L5_68 23 0).bind (fun ⟨I6_74, L6_74⟩ => (if 1 ≤ dp then ((kf_214 n (dp - 1) e 0 I6_74 L6_74).bind (fun ⟨I7_78, L7_78⟩ => (some ((1 : Int), I7_78, L7_78)))) else none))) else none))) else none))) else none))))) else none) else (if (22 : Int) = (-1) then (if 1 ≤ dp then ((kf_235 n (dp - 1) e 0 I2_31 L2_31 0 0).bind (fun ⟨x3_84, I3_84, L3_84⟩ => (if x3_84 = 31 then (if 1 ≤ dp then ((kf_226 n (dp - 1) e 0 I3_84 L3_84 93).bind (fun ⟨x4_98, I4_98, L4_98⟩ => (if 1 ≤ dp then ((kf_219 n (dp - 1) e 0 I4_98 L4_98 x4_98).bind (fun ⟨I5_101, L5_101⟩ => (if (I5_101 105 13) = 0 then (if 1 ≤ dp then ((kf_234 n (dp - 1) e 0 I5_101 L5_101 5).bind (fun ⟨I6_113, L6_113⟩ => (if -2147483648 ≤ (I6_113 105 22) - 1 ∧ (I6_113 105 22) - 1 ≤ 2147483647 then (stI (w2 I6_113 105 22 ((I6_113 105 22) - 1)) (fun I_123 => (if -2147483648 ≤ (I_123 105 23) - 1 ∧ (I_123 105 23) - 1 ≤ 2147483647 then (stI (w2 I_123 105 23 ((I_123 105 23) - 1)) (fun I_133 => (some ((3 : Int), I_133, L6_113)))) else none))) else none))) else none) else (some ((3 : Int), I5_101, L5_101))))) else none))) else none) else (if x3_84 = (-1) then (if i1 = 0 then (some ((4 : Int), I3_84, L3_84)) else (kf_232 n dp e 1 I3_84 L3_84 i1 22 x3_84)) else (kf_232 n dp e 1 I3_84 L3_84 i1 22 x3_84))))) else none) else (if 1 ≤ dp then ((kf_233 n (dp - 1) e 0 I2_31 L2_31 22).bind (fun ⟨x3_65, I3_65, L3_65⟩ => (if 1 ≤ dp then ((kf_234 n (dp - 1) e 0 I3_65 L3_65 x3_65).bind (fun ⟨I4_68, L4_68⟩ => (if 1 ≤ dp then ((kf_225 n (dp - 1) e 0 I4_68 L4_68 22 0).bind (fun ⟨I5_74, L5_74⟩ => (if 1 ≤ dp then ((kf_214 n (dp - 1) e 0 I5_74 L5_74).bind (fun ⟨I6_78, L6_78⟩ => (some ((1 : Int), I6_78, L6_78)))) else none))) else none))) else none))) else none))))) else none) else (if (21 : Int) = (-1) then (if 1 ≤ dp then ((kf_235 n (dp - 1) e 0 I1_17 L1_17 0 0).bind (fun ⟨x2_84, I2_84, L2_84⟩ => (if x2_84 = 31 then (if 1 ≤ dp then ((kf_226 n (dp - 1) e 0 I2_84 L2_84 93).bind (fun ⟨x3_98, I3_98, L3_98⟩ => (if 1 ≤ dp then ((kf_219 n (dp - 1) e 0 I3_98 L3_98 x3_98).bind (fun ⟨I4_101, L4_101⟩ => (if (I4_101 105 13) = 0 then (if 1 ≤ dp then ((kf_234 n (dp - 1) e 0 I4_101 L4_101 5).bind (fun ⟨I5_113, L5_113⟩ => (if -2147483648 ≤ (I5_113 105 22) - 1 ∧ (I5_113 105 22) - 1 ≤ 2147483647 then (stI (w2 I5_113 105 22 ((I5_113 105 22) - 1)) (fun I_123 => (if -2147483648 ≤ (I_123 105 23) - 1 ∧ (I_123 105 23) - 1 ≤ 2147483647 then (stI (w2 I_123 105 23 ((I_123 105 23) - 1)) (fun I_133 => (some ((3 : Int), I_133, L5_113)))) else none))) else none))) else none) else (some ((3 : Int), I4_101, L4_101))))) else none))) else none) else (if x2_84 = (-1) then (if i1 = 0 then (some ((4 : Int), I2_84, L2_84)) else (kf_232 n dp e 1 I2_84 L2_84 i1 21 x2_84)) else (kf_232 n dp e 1 I2_84 L2_84 i1 21 x2_84))))) else none) else (if 1 ≤ dp then ((kf_233 n (dp - 1) e 0 I1_17 L1_17 21).bind (fun ⟨x2_65, I2_65, L2_65⟩ => (if 1 ≤ dp then ((kf_234 n (dp - 1) e 0 I2_65 L2_65 x2_65).bind (fun ⟨I3_68, L3_68⟩ => (if 1 ≤ dp then ((kf_225 n (dp - 1) e 0 I3_68 L3_68 21 0).bind (fun ⟨I4_74, L4_74⟩ => (if 1 ≤ dp then ((kf_214 n (dp - 1) e 0 I4_74 L4_74).bind (fun ⟨I5_78, L5_78⟩ => (some ((1 : Int), I5_78, L5_78)))) else none))) else none))) else none))) else none))))) else none) else (if (20 : Int) = (-1) then (if 1 ≤ dp then ((kf_235 n (dp - 1) e 0 I0_3 L0_3 0 0).bind (fun ⟨x1_84, I1_84, L1_84⟩ => (if x1_84 = 31 then (if 1 ≤ dp then ((kf_226 n (dp - 1) e 0 I1_84 L1_84 93).bind (fun ⟨x2_98, I2_98, L2_98⟩ => (if 1 ≤ dp then ((kf_219 n (dp - 1) e 0 I2_98 L2_98 x2_98).bind (fun ⟨I3_101, L3_101⟩ => (if (I3_101 105 13) = 0 then (if 1 ≤ dp then ((kf_234 n (dp - 1) e 0 I3_101 L3_101 5).bind (fun ⟨I4_113, L4_113⟩ => (if -2147483648 ≤ (I4_113 105 22) - 1 ∧ (I4_113 105 22) - 1 ≤ 2147483647 then (stI (w2 I4_113 105 22 ((I4_113 105 22) - 1)) (fun I_123 => (if -2147483648 ≤ (I_123 105 23) - 1 ∧ (I_123 105 23) - 1 ≤ 2147483647 then (stI (w2 I_123 105 23 ((I_123 105 23) - 1)) (fun I_133 => (some ((3 : Int), I_133, L4_113)))) else none))) else none))) else none) else (some ((3 : Int), I3_101, L3_101))))) else none))) else none) else (if x1_84 = (-1) then (if i1 = 0 then (some ((4 : Int), I1_84, L1_84)) else (kf_232 n dp e 1 I1_84 L1_84 i1 20 x1_84)) else (kf_232 n dp e 1 I1_84 L1_84 i1 20 x1_84))))) else none) else (if 1 ≤ dp then ((kf_233 n (dp - 1) e 0 I0_3 L0_3 20).bind (fun ⟨x1_65, I1_65, L1_65⟩ => (if 1 ≤ dp then ((kf_234 n (dp - 1) e 0 I1_65 L1_65 x1_65).bind (fun ⟨I2_68, L2_68⟩ => (if 1 ≤ dp then ((kf_225 n (dp - 1) e 0 I2_68 L2_68 20 0).bind (fun ⟨I3_74, L3_74⟩ => (if 1 ≤ dp then ((kf_214 n (dp - 1) e 0 I3_74 L3_74).bind (fun ⟨I4_78, L4_78⟩ => (some ((1 : Int), I4_78, L4_78)))) else none))) else none))) else none))) else none))))) else none) := by rw [kf_232.eq_2, if_pos (show (0 : Nat) = 0 from rfl)]
set_option maxRecDepth 100000 in
theorem ke_232_1 (n : Nat) (dp : Nat) (e : EN) (I : JI) (L : JI) (i1 : Int) (i2 : Int) (i3 : Int) : kf_232 (n + 1) dp e 1 I L i1 i2 i3 = (if 1 ≤ dp then ((kf_236 n (dp - 1) e 0 I L 0).bind (fun ⟨x0_150, I0_150, L0_150⟩ => (if x0_150 = 0 then (if 1 ≤ dp then ((kf_226 n (dp - 1) e 0 I0_150 L0_150 60).bind (fun ⟨x1_161, I1_161, L1_161⟩ => (if x1_161 = 0 then (if 1 ≤ dp then ((kf_226 n (dp - 1) e 0 I1_161 L1_161 62).bind (fun ⟨x2_175, I2_175, L2_175⟩ => (if x2_175 = 0 then (if (26 : Int) = 26 then (if 1 ≤ dp then ((kf_226 n (dp - 1) e 0 I2_175 L2_175 61).bind (fun ⟨x3_199, I3_199, L3_199⟩ => (if x3_199 = 0 then (if 1 ≤ dp then ((kf_219 n (dp - 1) e 0 I3_199 L3_199 0).bind (fun ⟨I4_210, L4_210⟩ => (if (I4_210 105 13) = 0 then (if 1 ≤ dp then ((kf_234 n (dp - 1) e 0 I4_210 L4_210 5).bind (fun ⟨I5_222, L5_222⟩ => (if 1 ≤ dp then ((kf_225 n (dp - 1) e 0 I5_222 L5_222 26 0).bind (fun ⟨I6_228, L6_228⟩ => (some ((1 : Int), I6_228, L6_228)))) else none))) else none) else (some ((1 : Int), I4_210, L4_210))))) else none) else (if 1 ≤ dp then ((kf_219 n (dp - 1) e 0 I3_199 L3_199 1).bind (fun ⟨I4_210, L4_210⟩ => (if (I4_210 105 13) = 0 then (if 1 ≤ dp then ((kf_234 n (dp - 1) e 0 I4_210 L4_210 5).bind (fun ⟨I5_222, L5_222⟩ => (if 1 ≤ dp then ((kf_225 n (dp - 1) e 0 I5_222 L5_222 26 0).bind (fun ⟨I6_228, L6_228⟩ => (some ((1 : Int), I6_228, L6_228)))) else none))) else none) else (some ((1 : Int), I4_210, L4_210))))) else none)))) else none) else (if 1 ≤ dp then ((kf_219 n (dp - 1) e 0 I2_175 L2_175 1).bind (fun ⟨I3_210, L3_210⟩ => (if (I3_210 105 13) = 0 then (if 1 ≤ dp then ((kf_234 n (dp - 1) e 0 I3_210 L3_210 5).bind (fun ⟨I4_222, L4_222⟩ => (if 1 ≤ dp then ((kf_225 n (dp - 1) e 0 I4_222 L4_222 26 0).bind (fun ⟨I5_228, L5_228⟩ => (some ((1 : Int), I5_228, L5_228)))) else none))) else none) else (some ((1 : Int), I3_210, L3_210))))) else none)) else (if (25 : Int) = 26 then (if 1 ≤ dp then ((kf_226 n (dp - 1) e 0 I2_175 L2_175 61).bind (fun ⟨x3_199, I3_199, L3_199⟩ => (if x3_199 = 0 then (if 1 ≤ dp then ((kf_219 n (dp - 1) e 0 I3_199 L3_199 0).bind (fun ⟨I4_210, L4_210⟩ => (if (I4_210 105 13) = 0 then (if 1 ≤ dp then ((kf_234 n (dp - 1) e 0 I4_210 L4_210 5).bind (fun ⟨I5_222, L5_222⟩ => (if 1 ≤ dp then ((kf_225 n (dp - 1) e 0 I5_222 L5_222 25 0).bind (fun ⟨I6_228, L6_228⟩ => (some ((1 : Int), I6_228, L6_228)))) else none))) else none) else (some ((1 : Int), I4_210, L4_210))))) else none) else (if 1 ≤ dp then ((kf_219 n (dp - 1) e 0 I3_199 L3_199 1).bind (fun ⟨I4_210, L4_210⟩ => (if (I4_210 105 13) = 0 then (if 1 ≤ dp then ((kf_234 n (dp - 1) e 0 I4_210 L4_210 5).bind (fun ⟨I5_222, L5_222⟩ => (if 1 ≤ dp then ((kf_225 n (dp - 1) e 0 I5_222 L5_222 25 0).bind (fun ⟨I6_228, L6_228⟩ => (some ((1 : Int), I6_228, L6_228)))) else none))) else none) else (some ((1 : Int), I4_210, L4_210))))) else none)))) else none) else (if 1 ≤ dp then ((kf_219 n (dp - 1) e 0 I2_175 L2_175 1).bind (fun ⟨I3_210, L3_210⟩ => (if (I3_210 105 13) = 0 then (if 1 ≤ dp then ((kf_234 n (dp - 1) e 0 I3_210 L3_210 5).bind (fun ⟨I4_222, L4_222⟩ => (if 1 ≤ dp then ((kf_225 n (dp - 1) e 0 I4_222 L4_222 25 0).bind (fun ⟨I5_228, L5_228⟩ => (some ((1 : Int), I5_228, L5_228)))) else none))) else none) else (some ((1 : Int), I3_210, L3_210))))) else none))))) else none) else (if (24 : Int) = 26 then (if 1 ≤ dp then ((kf_226 n (dp - 1) e 0 I1_161 L1_161 61).bind (fun ⟨x2_199, I2_199, L2_199⟩ => (if x2_199 = 0 then (if 1 ≤ dp then ((kf_219 n (dp - 1) e 0 I2_199 L2_199 0).bind (fun ⟨I3_210, L3_210⟩ => (if (I3_210 105 13) = 0 then (if 1 ≤ dp then ((kf_234 n (dp - 1) e 0 I3_210 L3_210 5).bind (fun ⟨I4_222, L4_222⟩ => (if 1 ≤ dp then ((kf_225 n (dp - 1) e 0 I4_222 L4_222 24 0).bind (fun ⟨I5_228, L5_228⟩ => (some ((1 : Int), I5_228, L5_228)))) else none))) else none) else (some ((1 : Int), I3_210, L3_210))))) else none) else (if 1 ≤ dp then ((kf_219 n (dp - 1) e 0 I2_199 L2_199 1).bind (fun ⟨I3_210, L3_210⟩ => (if (I3_210 105 13) = 0 then (if 1 ≤ dp then ((kf_234 n (dp - 1) e 0 I3_210 L3_210 5).bind (fun ⟨I4_222, L4_222⟩ => (if 1 ≤ dp then ((kf_225 n (dp - 1) e 0 I4_222 L4_222 24 0).bind (fun ⟨I5_228, L5_228⟩ => (some ((1 : Int), I5_228, L5_228)))) else none))) else none) else (some ((1 : Int), I3_210, L3_210))))) else none)))) else none) else (if 1 ≤ dp then ((kf_219 n (dp - 1) e 0 I1_161 L1_161 1).bind (fun ⟨I2_210, L2_210⟩ => (if (I2_210 105 13) = 0 then (if 1 ≤ dp then ((kf_234 n (dp - 1) e 0 I2_210 L2_210 5).bind (fun ⟨I3_222, L3_222⟩ => (if 1 ≤ dp then ((kf_225 n (dp - 1) e 0 I3_222 L3_222 24 0).bind (fun ⟨I4_228, L4_228⟩ => (some ((1 : Int), I4_228, L4_228)))) else none))) else none) else (some ((1 : Int), I2_210, L2_210))))) else none))))) else none) else (some ((2 : Int), I0_150, L0_150))))) else none) := by rw [kf_232.eq_2, if_neg (show ¬ ((1 : Nat) = 0) by decide), if_pos (show (1 : Nat) = 1 from rfl)]
set_option maxHeartbeats 8000000 in
set_option maxRecDepth 100000 in
theorem ks_232 : ∀ (n : Nat) (dp : Nat) (e : EN) (lab : Nat) (I : Nat → Nat → Int32) (I' : JI) (L : Nat → Nat → Int64) (L' : JI) (i1 : Int32) (i1' : Int) (i2 : Int32) (i2' : Int) (i3 : Int32) (i3' : Int), Rli I I' → Rll L L' → Ui i1 i1' → Ui i2 i2' → Ui i3 i3' → Sim R3 (g_232 n dp e lab I L i1 i2 i3) (kf_232 n dp e lab I' L' i1' i2' i3') := by
  intro n
  induction n with
  | zero => intros; rw [kf_232.eq_1]; exact Sn
  | succ n ih =>
    intro dp e lab I I' L L' i1 i1' i2 i2' i3 i3' u_I u_L u_i1 u_i2 u_i3
    rw [g_232.eq_2, kf_232.eq_2]
    refine Sc Iff.rfl (fun _ => ?_) (fun _ => ?_)
    · refine Sc Iff.rfl (fun c1 => ?_) (fun _ => Sn)
      refine Sb3 (ks_226 n (dp - 1) e 0 _ _ _ _ _ _ u_I u_L (rfl : Ui (43) (43))) (fun x0_3 x0_3' I0_3 I0_3' L0_3 L0_3' u_x0_3 u_I0_3 u_L0_3 => ?_)
      refine Sc (eq_up u_x0_3 (rfl : Ui 0 0)) (fun c2 => ?_) (fun c2 => ?_)
      · refine Sc Iff.rfl (fun c3 => ?_) (fun _ => Sn)
        refine Sb3 (ks_226 n (dp - 1) e 0 _ _ _ _ _ _ u_I0_3 u_L0_3 (rfl : Ui (45) (45))) (fun x1_17 x1_17' I1_17 I1_17' L1_17 L1_17' u_x1_17 u_I1_17 u_L1_17 => ?_)
        refine Sc (eq_up u_x1_17 (rfl : Ui 0 0)) (fun c4 => ?_) (fun c4 => ?_)
        · refine Sc Iff.rfl (fun c5 => ?_) (fun _ => Sn)
          refine Sb3 (ks_226 n (dp - 1) e 0 _ _ _ _ _ _ u_I1_17 u_L1_17 (rfl : Ui (42) (42))) (fun x2_31 x2_31' I2_31 I2_31' L2_31 L2_31' u_x2_31 u_I2_31 u_L2_31 => ?_)
          refine Sc (eq_up u_x2_31 (rfl : Ui 0 0)) (fun c6 => ?_) (fun c6 => ?_)
          · refine Sc Iff.rfl (fun c7 => ?_) (fun _ => Sn)
            refine Sb3 (ks_226 n (dp - 1) e 0 _ _ _ _ _ _ u_I2_31 u_L2_31 (rfl : Ui (47) (47))) (fun x3_45 x3_45' I3_45 I3_45' L3_45 L3_45' u_x3_45 u_I3_45 u_L3_45 => ?_)
            refine Sc (eq_up u_x3_45 (rfl : Ui 0 0)) (fun c8 => ?_) (fun c8 => ?_)
            · refine Sc (eq_up (rfl : Ui (-1) (-1)) (rfl : Ui (-1) (-1))) (fun c9 => ?_) (fun c9 => ?_)
              · refine Sc Iff.rfl (fun c10 => ?_) (fun _ => Sn)
                refine Sb3 (ks_235 n (dp - 1) e 0 _ _ _ _ _ _ _ _ u_I3_45 u_L3_45 (rfl : Ui 0 0) (rfl : Ui 0 0)) (fun x4_84 x4_84' I4_84 I4_84' L4_84 L4_84' u_x4_84 u_I4_84 u_L4_84 => ?_)
                refine Sc (eq_up u_x4_84 (rfl : Ui (31) (31))) (fun c11 => ?_) (fun c11 => ?_)
                · refine Sc Iff.rfl (fun c12 => ?_) (fun _ => Sn)
                  refine Sb3 (ks_226 n (dp - 1) e 0 _ _ _ _ _ _ u_I4_84 u_L4_84 (rfl : Ui (93) (93))) (fun x5_98 x5_98' I5_98 I5_98' L5_98 L5_98' u_x5_98 u_I5_98 u_L5_98 => ?_)
                  refine Sc Iff.rfl (fun c13 => ?_) (fun _ => Sn)
                  refine Sb2 (ks_219 n (dp - 1) e 0 _ _ _ _ _ _ u_I5_98 u_L5_98 u_x5_98) (fun I6_101 I6_101' L6_101 L6_101' u_I6_101 u_L6_101 => ?_)
                  refine Sc (eq_up (u_I6_101 105 13) (rfl : Ui 0 0)) (fun c14 => ?_) (fun c14 => ?_)
                  · refine Sc Iff.rfl (fun c15 => ?_) (fun _ => Sn)
                    refine Sb2 (ks_234 n (dp - 1) e 0 _ _ _ _ _ _ u_I6_101 u_L6_101 (rfl : Ui (5) (5))) (fun I7_113 I7_113' L7_113 L7_113' u_I7_113 u_L7_113 => ?_)
                    refine Sg (fun g16 => ?_)
                    refine SsJ (ri_up u_I7_113 (rfl : ((22 : Nat) : Int) = 22) (ui_sub (u_I7_113 105 22) (rfl : Ui (1) (1)) g16)) (fun I_123 I_123' u_I_123 => ?_)
                    refine Sg (fun g17 => ?_)
                    refine SsJ (ri_up u_I_123 (rfl : ((23 : Nat) : Int) = 23) (ui_sub (u_I_123 105 23) (rfl : Ui (1) (1)) g17)) (fun I_133 I_133' u_I_133 => ?_)
                    exact Sr ⟨(rfl : Ui (3) (3)), u_I_133, u_L7_113⟩
                  · exact Sr ⟨(rfl : Ui (3) (3)), u_I6_101, u_L6_101⟩
                · refine Sc (eq_up u_x4_84 (rfl : Ui (-1) (-1))) (fun c18 => ?_) (fun c18 => ?_)
                  · refine Sc (eq_up u_i1 (rfl : Ui 0 0)) (fun c19 => ?_) (fun c19 => ?_)
                    · exact Sr ⟨(rfl : Ui (4) (4)), u_I4_84, u_L4_84⟩
                    · exact (ih dp e 1 _ _ _ _ _ _ _ _ _ _ u_I4_84 u_L4_84 u_i1 (rfl : Ui (-1) (-1)) u_x4_84)
                  · exact (ih dp e 1 _ _ _ _ _ _ _ _ _ _ u_I4_84 u_L4_84 u_i1 (rfl : Ui (-1) (-1)) u_x4_84)
              · refine Sc Iff.rfl (fun c20 => ?_) (fun _ => Sn)
                refine Sb3 (ks_233 n (dp - 1) e 0 _ _ _ _ _ _ u_I3_45 u_L3_45 (rfl : Ui (-1) (-1))) (fun x4_65 x4_65' I4_65 I4_65' L4_65 L4_65' u_x4_65 u_I4_65 u_L4_65 => ?_)
                refine Sc Iff.rfl (fun c21 => ?_) (fun _ => Sn)
                refine Sb2 (ks_234 n (dp - 1) e 0 _ _ _ _ _ _ u_I4_65 u_L4_65 u_x4_65) (fun I5_68 I5_68' L5_68 L5_68' u_I5_68 u_L5_68 => ?_)
                refine Sc Iff.rfl (fun c22 => ?_) (fun _ => Sn)
                refine Sb2 (ks_225 n (dp - 1) e 0 _ _ _ _ _ _ _ _ u_I5_68 u_L5_68 (rfl : Ui (-1) (-1)) (rfl : Ui (0) (0))) (fun I6_74 I6_74' L6_74 L6_74' u_I6_74 u_L6_74 => ?_)
                refine Sc Iff.rfl (fun c23 => ?_) (fun _ => Sn)
                refine Sb2 (ks_214 n (dp - 1) e 0 _ _ _ _ u_I6_74 u_L6_74) (fun I7_78 I7_78' L7_78 L7_78' u_I7_78 u_L7_78 => ?_)
                exact Sr ⟨(rfl : Ui (1) (1)), u_I7_78, u_L7_78⟩
            · refine Sc (eq_up (rfl : Ui (23) (23)) (rfl : Ui (-1) (-1))) (fun c24 => ?_) (fun c24 => ?_)
              · refine Sc Iff.rfl (fun c25 => ?_) (fun _ => Sn)
                refine Sb3 (ks_235 n (dp - 1) e 0 _ _ _ _ _ _ _ _ u_I3_45 u_L3_45 (rfl : Ui 0 0) (rfl : Ui 0 0)) (fun x4_84 x4_84' I4_84 I4_84' L4_84 L4_84' u_x4_84 u_I4_84 u_L4_84 => ?_)
                refine Sc (eq_up u_x4_84 (rfl : Ui (31) (31))) (fun c26 => ?_) (fun c26 => ?_)
                · refine Sc Iff.rfl (fun c27 => ?_) (fun _ => Sn)
                  refine Sb3 (ks_226 n (dp - 1) e 0 _ _ _ _ _ _ u_I4_84 u_L4_84 (rfl : Ui (93) (93))) (fun x5_98 x5_98' I5_98 I5_98' L5_98 L5_98' u_x5_98 u_I5_98 u_L5_98 => ?_)
                  refine Sc Iff.rfl (fun c28 => ?_) (fun _ => Sn)
                  refine Sb2 (ks_219 n (dp - 1) e 0 _ _ _ _ _ _ u_I5_98 u_L5_98 u_x5_98) (fun I6_101 I6_101' L6_101 L6_101' u_I6_101 u_L6_101 => ?_)
                  refine Sc (eq_up (u_I6_101 105 13) (rfl : Ui 0 0)) (fun c29 => ?_) (fun c29 => ?_)
                  · refine Sc Iff.rfl (fun c30 => ?_) (fun _ => Sn)
                    refine Sb2 (ks_234 n (dp - 1) e 0 _ _ _ _ _ _ u_I6_101 u_L6_101 (rfl : Ui (5) (5))) (fun I7_113 I7_113' L7_113 L7_113' u_I7_113 u_L7_113 => ?_)
                    refine Sg (fun g31 => ?_)
                    refine SsJ (ri_up u_I7_113 (rfl : ((22 : Nat) : Int) = 22) (ui_sub (u_I7_113 105 22) (rfl : Ui (1) (1)) g31)) (fun I_123 I_123' u_I_123 => ?_)
                    refine Sg (fun g32 => ?_)
                    refine SsJ (ri_up u_I_123 (rfl : ((23 : Nat) : Int) = 23) (ui_sub (u_I_123 105 23) (rfl : Ui (1) (1)) g32)) (fun I_133 I_133' u_I_133 => ?_)
                    exact Sr ⟨(rfl : Ui (3) (3)), u_I_133, u_L7_113⟩
                  · exact Sr ⟨(rfl : Ui (3) (3)), u_I6_101, u_L6_101⟩
                · refine Sc (eq_up u_x4_84 (rfl : Ui (-1) (-1))) (fun c33 => ?_) (fun c33 => ?_)
                  · refine Sc (eq_up u_i1 (rfl : Ui 0 0)) (fun c34 => ?_) (fun c34 => ?_)
                    · exact Sr ⟨(rfl : Ui (4) (4)), u_I4_84, u_L4_84⟩
                    · exact (ih dp e 1 _ _ _ _ _ _ _ _ _ _ u_I4_84 u_L4_84 u_i1 (rfl : Ui (23) (23)) u_x4_84)
                  · exact (ih dp e 1 _ _ _ _ _ _ _ _ _ _ u_I4_84 u_L4_84 u_i1 (rfl : Ui (23) (23)) u_x4_84)
              · refine Sc Iff.rfl (fun c35 => ?_) (fun _ => Sn)
                refine Sb3 (ks_233 n (dp - 1) e 0 _ _ _ _ _ _ u_I3_45 u_L3_45 (rfl : Ui (23) (23))) (fun x4_65 x4_65' I4_65 I4_65' L4_65 L4_65' u_x4_65 u_I4_65 u_L4_65 => ?_)
                refine Sc Iff.rfl (fun c36 => ?_) (fun _ => Sn)
                refine Sb2 (ks_234 n (dp - 1) e 0 _ _ _ _ _ _ u_I4_65 u_L4_65 u_x4_65) (fun I5_68 I5_68' L5_68 L5_68' u_I5_68 u_L5_68 => ?_)
                refine Sc Iff.rfl (fun c37 => ?_) (fun _ => Sn)
                refine Sb2 (ks_225 n (dp - 1) e 0 _ _ _ _ _ _ _ _ u_I5_68 u_L5_68 (rfl : Ui (23) (23)) (rfl : Ui (0) (0))) (fun I6_74 I6_74' L6_74 L6_74' u_I6_74 u_L6_74 => ?_)
                refine Sc Iff.rfl (fun c38 => ?_) (fun _ => Sn)
                refine Sb2 (ks_214 n (dp - 1) e 0 _ _ _ _ u_I6_74 u_L6_74) (fun I7_78 I7_78' L7_78 L7_78' u_I7_78 u_L7_78 => ?_)
                exact Sr ⟨(rfl : Ui (1) (1)), u_I7_78, u_L7_78⟩
          · refine Sc (eq_up (rfl : Ui (22) (22)) (rfl : Ui (-1) (-1))) (fun c39 => ?_) (fun c39 => ?_)
            · refine Sc Iff.rfl (fun c40 => ?_) (fun _ => Sn)
              refine Sb3 (ks_235 n (dp - 1) e 0 _ _ _ _ _ _ _ _ u_I2_31 u_L2_31 (rfl : Ui 0 0) (rfl : Ui 0 0)) (fun x3_84 x3_84' I3_84 I3_84' L3_84 L3_84' u_x3_84 u_I3_84 u_L3_84 => ?_)
              refine Sc (eq_up u_x3_84 (rfl : Ui (31) (31))) (fun c41 => ?_) (fun c41 => ?_)
              · refine Sc Iff.rfl (fun c42 => ?_) (fun _ => Sn)
                refine Sb3 (ks_226 n (dp - 1) e 0 _ _ _ _ _ _ u_I3_84 u_L3_84 (rfl : Ui (93) (93))) (fun x4_98 x4_98' I4_98 I4_98' L4_98 L4_98' u_x4_98 u_I4_98 u_L4_98 => ?_)
                refine Sc Iff.rfl (fun c43 => ?_) (fun _ => Sn)
                refine Sb2 (ks_219 n (dp - 1) e 0 _ _ _ _ _ _ u_I4_98 u_L4_98 u_x4_98) (fun I5_101 I5_101' L5_101 L5_101' u_I5_101 u_L5_101 => ?_)
                refine Sc (eq_up (u_I5_101 105 13) (rfl : Ui 0 0)) (fun c44 => ?_) (fun c44 => ?_)
                · refine Sc Iff.rfl (fun c45 => ?_) (fun _ => Sn)
                  refine Sb2 (ks_234 n (dp - 1) e 0 _ _ _ _ _ _ u_I5_101 u_L5_101 (rfl : Ui (5) (5))) (fun I6_113 I6_113' L6_113 L6_113' u_I6_113 u_L6_113 => ?_)
                  refine Sg (fun g46 => ?_)
                  refine SsJ (ri_up u_I6_113 (rfl : ((22 : Nat) : Int) = 22) (ui_sub (u_I6_113 105 22) (rfl : Ui (1) (1)) g46)) (fun I_123 I_123' u_I_123 => ?_)
                  refine Sg (fun g47 => ?_)
                  refine SsJ (ri_up u_I_123 (rfl : ((23 : Nat) : Int) = 23) (ui_sub (u_I_123 105 23) (rfl : Ui (1) (1)) g47)) (fun I_133 I_133' u_I_133 => ?_)
                  exact Sr ⟨(rfl : Ui (3) (3)), u_I_133, u_L6_113⟩
                · exact Sr ⟨(rfl : Ui (3) (3)), u_I5_101, u_L5_101⟩
              · refine Sc (eq_up u_x3_84 (rfl : Ui (-1) (-1))) (fun c48 => ?_) (fun c48 => ?_)
                · refine Sc (eq_up u_i1 (rfl : Ui 0 0)) (fun c49 => ?_) (fun c49 => ?_)
                  · exact Sr ⟨(rfl : Ui (4) (4)), u_I3_84, u_L3_84⟩
                  · exact (ih dp e 1 _ _ _ _ _ _ _ _ _ _ u_I3_84 u_L3_84 u_i1 (rfl : Ui (22) (22)) u_x3_84)
                · exact (ih dp e 1 _ _ _ _ _ _ _ _ _ _ u_I3_84 u_L3_84 u_i1 (rfl : Ui (22) (22)) u_x3_84)
            · refine Sc Iff.rfl (fun c50 => ?_) (fun _ => Sn)
              refine Sb3 (ks_233 n (dp - 1) e 0 _ _ _ _ _ _ u_I2_31 u_L2_31 (rfl : Ui (22) (22))) (fun x3_65 x3_65' I3_65 I3_65' L3_65 L3_65' u_x3_65 u_I3_65 u_L3_65 => ?_)
              refine Sc Iff.rfl (fun c51 => ?_) (fun _ => Sn)
              refine Sb2 (ks_234 n (dp - 1) e 0 _ _ _ _ _ _ u_I3_65 u_L3_65 u_x3_65) (fun I4_68 I4_68' L4_68 L4_68' u_I4_68 u_L4_68 => ?_)
              refine Sc Iff.rfl (fun c52 => ?_) (fun _ => Sn)
              refine Sb2 (ks_225 n (dp - 1) e 0 _ _ _ _ _ _ _ _ u_I4_68 u_L4_68 (rfl : Ui (22) (22)) (rfl : Ui (0) (0))) (fun I5_74 I5_74' L5_74 L5_74' u_I5_74 u_L5_74 => ?_)
              refine Sc Iff.rfl (fun c53 => ?_) (fun _ => Sn)
              refine Sb2 (ks_214 n (dp - 1) e 0 _ _ _ _ u_I5_74 u_L5_74) (fun I6_78 I6_78' L6_78 L6_78' u_I6_78 u_L6_78 => ?_)
              exact Sr ⟨(rfl : Ui (1) (1)), u_I6_78, u_L6_78⟩
        · refine Sc (eq_up (rfl : Ui (21) (21)) (rfl : Ui (-1) (-1))) (fun c54 => ?_) (fun c54 => ?_)
          · refine Sc Iff.rfl (fun c55 => ?_) (fun _ => Sn)
            refine Sb3 (ks_235 n (dp - 1) e 0 _ _ _ _ _ _ _ _ u_I1_17 u_L1_17 (rfl : Ui 0 0) (rfl : Ui 0 0)) (fun x2_84 x2_84' I2_84 I2_84' L2_84 L2_84' u_x2_84 u_I2_84 u_L2_84 => ?_)
            refine Sc (eq_up u_x2_84 (rfl : Ui (31) (31))) (fun c56 => ?_) (fun c56 => ?_)
            · refine Sc Iff.rfl (fun c57 => ?_) (fun _ => Sn)
              refine Sb3 (ks_226 n (dp - 1) e 0 _ _ _ _ _ _ u_I2_84 u_L2_84 (rfl : Ui (93) (93))) (fun x3_98 x3_98' I3_98 I3_98' L3_98 L3_98' u_x3_98 u_I3_98 u_L3_98 => ?_)
              refine Sc Iff.rfl (fun c58 => ?_) (fun _ => Sn)
              refine Sb2 (ks_219 n (dp - 1) e 0 _ _ _ _ _ _ u_I3_98 u_L3_98 u_x3_98) (fun I4_101 I4_101' L4_101 L4_101' u_I4_101 u_L4_101 => ?_)
              refine Sc (eq_up (u_I4_101 105 13) (rfl : Ui 0 0)) (fun c59 => ?_) (fun c59 => ?_)
              · refine Sc Iff.rfl (fun c60 => ?_) (fun _ => Sn)
                refine Sb2 (ks_234 n (dp - 1) e 0 _ _ _ _ _ _ u_I4_101 u_L4_101 (rfl : Ui (5) (5))) (fun I5_113 I5_113' L5_113 L5_113' u_I5_113 u_L5_113 => ?_)
                refine Sg (fun g61 => ?_)
                refine SsJ (ri_up u_I5_113 (rfl : ((22 : Nat) : Int) = 22) (ui_sub (u_I5_113 105 22) (rfl : Ui (1) (1)) g61)) (fun I_123 I_123' u_I_123 => ?_)
                refine Sg (fun g62 => ?_)
                refine SsJ (ri_up u_I_123 (rfl : ((23 : Nat) : Int) = 23) (ui_sub (u_I_123 105 23) (rfl : Ui (1) (1)) g62)) (fun I_133 I_133' u_I_133 => ?_)
                exact Sr ⟨(rfl : Ui (3) (3)), u_I_133, u_L5_113⟩
              · exact Sr ⟨(rfl : Ui (3) (3)), u_I4_101, u_L4_101⟩
            · refine Sc (eq_up u_x2_84 (rfl : Ui (-1) (-1))) (fun c63 => ?_) (fun c63 => ?_)
              · refine Sc (eq_up u_i1 (rfl : Ui 0 0)) (fun c64 => ?_) (fun c64 => ?_)
                · exact Sr ⟨(rfl : Ui (4) (4)), u_I2_84, u_L2_84⟩
                · exact (ih dp e 1 _ _ _ _ _ _ _ _ _ _ u_I2_84 u_L2_84 u_i1 (rfl : Ui (21) (21)) u_x2_84)
              · exact (ih dp e 1 _ _ _ _ _ _ _ _ _ _ u_I2_84 u_L2_84 u_i1 (rfl : Ui (21) (21)) u_x2_84)
          · refine Sc Iff.rfl (fun c65 => ?_) (fun _ => Sn)
            refine Sb3 (ks_233 n (dp - 1) e 0 _ _ _ _ _ _ u_I1_17 u_L1_17 (rfl : Ui (21) (21))) (fun x2_65 x2_65' I2_65 I2_65' L2_65 L2_65' u_x2_65 u_I2_65 u_L2_65 => ?_)
            refine Sc Iff.rfl (fun c66 => ?_) (fun _ => Sn)
            refine Sb2 (ks_234 n (dp - 1) e 0 _ _ _ _ _ _ u_I2_65 u_L2_65 u_x2_65) (fun I3_68 I3_68' L3_68 L3_68' u_I3_68 u_L3_68 => ?_)
            refine Sc Iff.rfl (fun c67 => ?_) (fun _ => Sn)
            refine Sb2 (ks_225 n (dp - 1) e 0 _ _ _ _ _ _ _ _ u_I3_68 u_L3_68 (rfl : Ui (21) (21)) (rfl : Ui (0) (0))) (fun I4_74 I4_74' L4_74 L4_74' u_I4_74 u_L4_74 => ?_)
            refine Sc Iff.rfl (fun c68 => ?_) (fun _ => Sn)
            refine Sb2 (ks_214 n (dp - 1) e 0 _ _ _ _ u_I4_74 u_L4_74) (fun I5_78 I5_78' L5_78 L5_78' u_I5_78 u_L5_78 => ?_)
            exact Sr ⟨(rfl : Ui (1) (1)), u_I5_78, u_L5_78⟩
      · refine Sc (eq_up (rfl : Ui (20) (20)) (rfl : Ui (-1) (-1))) (fun c69 => ?_) (fun c69 => ?_)
        · refine Sc Iff.rfl (fun c70 => ?_) (fun _ => Sn)
          refine Sb3 (ks_235 n (dp - 1) e 0 _ _ _ _ _ _ _ _ u_I0_3 u_L0_3 (rfl : Ui 0 0) (rfl : Ui 0 0)) (fun x1_84 x1_84' I1_84 I1_84' L1_84 L1_84' u_x1_84 u_I1_84 u_L1_84 => ?_)
          refine Sc (eq_up u_x1_84 (rfl : Ui (31) (31))) (fun c71 => ?_) (fun c71 => ?_)
          · refine Sc Iff.rfl (fun c72 => ?_) (fun _ => Sn)
            refine Sb3 (ks_226 n (dp - 1) e 0 _ _ _ _ _ _ u_I1_84 u_L1_84 (rfl : Ui (93) (93))) (fun x2_98 x2_98' I2_98 I2_98' L2_98 L2_98' u_x2_98 u_I2_98 u_L2_98 => ?_)
            refine Sc Iff.rfl (fun c73 => ?_) (fun _ => Sn)
            refine Sb2 (ks_219 n (dp - 1) e 0 _ _ _ _ _ _ u_I2_98 u_L2_98 u_x2_98) (fun I3_101 I3_101' L3_101 L3_101' u_I3_101 u_L3_101 => ?_)
            refine Sc (eq_up (u_I3_101 105 13) (rfl : Ui 0 0)) (fun c74 => ?_) (fun c74 => ?_)
            · refine Sc Iff.rfl (fun c75 => ?_) (fun _ => Sn)
              refine Sb2 (ks_234 n (dp - 1) e 0 _ _ _ _ _ _ u_I3_101 u_L3_101 (rfl : Ui (5) (5))) (fun I4_113 I4_113' L4_113 L4_113' u_I4_113 u_L4_113 => ?_)
              refine Sg (fun g76 => ?_)
              refine SsJ (ri_up u_I4_113 (rfl : ((22 : Nat) : Int) = 22) (ui_sub (u_I4_113 105 22) (rfl : Ui (1) (1)) g76)) (fun I_123 I_123' u_I_123 => ?_)
              refine Sg (fun g77 => ?_)
              refine SsJ (ri_up u_I_123 (rfl : ((23 : Nat) : Int) = 23) (ui_sub (u_I_123 105 23) (rfl : Ui (1) (1)) g77)) (fun I_133 I_133' u_I_133 => ?_)
              exact Sr ⟨(rfl : Ui (3) (3)), u_I_133, u_L4_113⟩
            · exact Sr ⟨(rfl : Ui (3) (3)), u_I3_101, u_L3_101⟩
          · refine Sc (eq_up u_x1_84 (rfl : Ui (-1) (-1))) (fun c78 => ?_) (fun c78 => ?_)
            · refine Sc (eq_up u_i1 (rfl : Ui 0 0)) (fun c79 => ?_) (fun c79 => ?_)
              · exact Sr ⟨(rfl : Ui (4) (4)), u_I1_84, u_L1_84⟩
              · exact (ih dp e 1 _ _ _ _ _ _ _ _ _ _ u_I1_84 u_L1_84 u_i1 (rfl : Ui (20) (20)) u_x1_84)
            · exact (ih dp e 1 _ _ _ _ _ _ _ _ _ _ u_I1_84 u_L1_84 u_i1 (rfl : Ui (20) (20)) u_x1_84)
        · refine Sc Iff.rfl (fun c80 => ?_) (fun _ => Sn)
          refine Sb3 (ks_233 n (dp - 1) e 0 _ _ _ _ _ _ u_I0_3 u_L0_3 (rfl : Ui (20) (20))) (fun x1_65 x1_65' I1_65 I1_65' L1_65 L1_65' u_x1_65 u_I1_65 u_L1_65 => ?_)
          refine Sc Iff.rfl (fun c81 => ?_) (fun _ => Sn)
          refine Sb2 (ks_234 n (dp - 1) e 0 _ _ _ _ _ _ u_I1_65 u_L1_65 u_x1_65) (fun I2_68 I2_68' L2_68 L2_68' u_I2_68 u_L2_68 => ?_)
          refine Sc Iff.rfl (fun c82 => ?_) (fun _ => Sn)
          refine Sb2 (ks_225 n (dp - 1) e 0 _ _ _ _ _ _ _ _ u_I2_68 u_L2_68 (rfl : Ui (20) (20)) (rfl : Ui (0) (0))) (fun I3_74 I3_74' L3_74 L3_74' u_I3_74 u_L3_74 => ?_)
          refine Sc Iff.rfl (fun c83 => ?_) (fun _ => Sn)
          refine Sb2 (ks_214 n (dp - 1) e 0 _ _ _ _ u_I3_74 u_L3_74) (fun I4_78 I4_78' L4_78 L4_78' u_I4_78 u_L4_78 => ?_)
          exact Sr ⟨(rfl : Ui (1) (1)), u_I4_78, u_L4_78⟩
    refine Sc Iff.rfl (fun _ => ?_) (fun _ => ?_)
    · refine Sc Iff.rfl (fun c1 => ?_) (fun _ => Sn)
      refine Sb3 (ks_236 n (dp - 1) e 0 _ _ _ _ _ _ u_I u_L (rfl : Ui 0 0)) (fun x0_150 x0_150' I0_150 I0_150' L0_150 L0_150' u_x0_150 u_I0_150 u_L0_150 => ?_)
      refine Sc (eq_up u_x0_150 (rfl : Ui 0 0)) (fun c2 => ?_) (fun c2 => ?_)
      · refine Sc Iff.rfl (fun c3 => ?_) (fun _ => Sn)
        refine Sb3 (ks_226 n (dp - 1) e 0 _ _ _ _ _ _ u_I0_150 u_L0_150 (rfl : Ui (60) (60))) (fun x1_161 x1_161' I1_161 I1_161' L1_161 L1_161' u_x1_161 u_I1_161 u_L1_161 => ?_)
        refine Sc (eq_up u_x1_161 (rfl : Ui 0 0)) (fun c4 => ?_) (fun c4 => ?_)
        · refine Sc Iff.rfl (fun c5 => ?_) (fun _ => Sn)
          refine Sb3 (ks_226 n (dp - 1) e 0 _ _ _ _ _ _ u_I1_161 u_L1_161 (rfl : Ui (62) (62))) (fun x2_175 x2_175' I2_175 I2_175' L2_175 L2_175' u_x2_175 u_I2_175 u_L2_175 => ?_)
          refine Sc (eq_up u_x2_175 (rfl : Ui 0 0)) (fun c6 => ?_) (fun c6 => ?_)
          · refine Sc (eq_up (rfl : Ui (26) (26)) (rfl : Ui (26) (26))) (fun c7 => ?_) (fun c7 => ?_)
            · refine Sc Iff.rfl (fun c8 => ?_) (fun _ => Sn)
              refine Sb3 (ks_226 n (dp - 1) e 0 _ _ _ _ _ _ u_I2_175 u_L2_175 (rfl : Ui (61) (61))) (fun x3_199 x3_199' I3_199 I3_199' L3_199 L3_199' u_x3_199 u_I3_199 u_L3_199 => ?_)
              refine Sc (eq_up u_x3_199 (rfl : Ui 0 0)) (fun c9 => ?_) (fun c9 => ?_)
              · refine Sc Iff.rfl (fun c10 => ?_) (fun _ => Sn)
                refine Sb2 (ks_219 n (dp - 1) e 0 _ _ _ _ _ _ u_I3_199 u_L3_199 (rfl : Ui (0) (0))) (fun I4_210 I4_210' L4_210 L4_210' u_I4_210 u_L4_210 => ?_)
                refine Sc (eq_up (u_I4_210 105 13) (rfl : Ui 0 0)) (fun c11 => ?_) (fun c11 => ?_)
                · refine Sc Iff.rfl (fun c12 => ?_) (fun _ => Sn)
                  refine Sb2 (ks_234 n (dp - 1) e 0 _ _ _ _ _ _ u_I4_210 u_L4_210 (rfl : Ui (5) (5))) (fun I5_222 I5_222' L5_222 L5_222' u_I5_222 u_L5_222 => ?_)
                  refine Sc Iff.rfl (fun c13 => ?_) (fun _ => Sn)
                  refine Sb2 (ks_225 n (dp - 1) e 0 _ _ _ _ _ _ _ _ u_I5_222 u_L5_222 (rfl : Ui (26) (26)) (rfl : Ui (0) (0))) (fun I6_228 I6_228' L6_228 L6_228' u_I6_228 u_L6_228 => ?_)
                  exact Sr ⟨(rfl : Ui (1) (1)), u_I6_228, u_L6_228⟩
                · exact Sr ⟨(rfl : Ui (1) (1)), u_I4_210, u_L4_210⟩
              · refine Sc Iff.rfl (fun c14 => ?_) (fun _ => Sn)
                refine Sb2 (ks_219 n (dp - 1) e 0 _ _ _ _ _ _ u_I3_199 u_L3_199 (rfl : Ui (1) (1))) (fun I4_210 I4_210' L4_210 L4_210' u_I4_210 u_L4_210 => ?_)
                refine Sc (eq_up (u_I4_210 105 13) (rfl : Ui 0 0)) (fun c15 => ?_) (fun c15 => ?_)
                · refine Sc Iff.rfl (fun c16 => ?_) (fun _ => Sn)
                  refine Sb2 (ks_234 n (dp - 1) e 0 _ _ _ _ _ _ u_I4_210 u_L4_210 (rfl : Ui (5) (5))) (fun I5_222 I5_222' L5_222 L5_222' u_I5_222 u_L5_222 => ?_)
                  refine Sc Iff.rfl (fun c17 => ?_) (fun _ => Sn)
                  refine Sb2 (ks_225 n (dp - 1) e 0 _ _ _ _ _ _ _ _ u_I5_222 u_L5_222 (rfl : Ui (26) (26)) (rfl : Ui (0) (0))) (fun I6_228 I6_228' L6_228 L6_228' u_I6_228 u_L6_228 => ?_)
                  exact Sr ⟨(rfl : Ui (1) (1)), u_I6_228, u_L6_228⟩
                · exact Sr ⟨(rfl : Ui (1) (1)), u_I4_210, u_L4_210⟩
            · refine Sc Iff.rfl (fun c18 => ?_) (fun _ => Sn)
              refine Sb2 (ks_219 n (dp - 1) e 0 _ _ _ _ _ _ u_I2_175 u_L2_175 (rfl : Ui (1) (1))) (fun I3_210 I3_210' L3_210 L3_210' u_I3_210 u_L3_210 => ?_)
              refine Sc (eq_up (u_I3_210 105 13) (rfl : Ui 0 0)) (fun c19 => ?_) (fun c19 => ?_)
              · refine Sc Iff.rfl (fun c20 => ?_) (fun _ => Sn)
                refine Sb2 (ks_234 n (dp - 1) e 0 _ _ _ _ _ _ u_I3_210 u_L3_210 (rfl : Ui (5) (5))) (fun I4_222 I4_222' L4_222 L4_222' u_I4_222 u_L4_222 => ?_)
                refine Sc Iff.rfl (fun c21 => ?_) (fun _ => Sn)
                refine Sb2 (ks_225 n (dp - 1) e 0 _ _ _ _ _ _ _ _ u_I4_222 u_L4_222 (rfl : Ui (26) (26)) (rfl : Ui (0) (0))) (fun I5_228 I5_228' L5_228 L5_228' u_I5_228 u_L5_228 => ?_)
                exact Sr ⟨(rfl : Ui (1) (1)), u_I5_228, u_L5_228⟩
              · exact Sr ⟨(rfl : Ui (1) (1)), u_I3_210, u_L3_210⟩
          · refine Sc (eq_up (rfl : Ui (25) (25)) (rfl : Ui (26) (26))) (fun c22 => ?_) (fun c22 => ?_)
            · refine Sc Iff.rfl (fun c23 => ?_) (fun _ => Sn)
              refine Sb3 (ks_226 n (dp - 1) e 0 _ _ _ _ _ _ u_I2_175 u_L2_175 (rfl : Ui (61) (61))) (fun x3_199 x3_199' I3_199 I3_199' L3_199 L3_199' u_x3_199 u_I3_199 u_L3_199 => ?_)
              refine Sc (eq_up u_x3_199 (rfl : Ui 0 0)) (fun c24 => ?_) (fun c24 => ?_)
              · refine Sc Iff.rfl (fun c25 => ?_) (fun _ => Sn)
                refine Sb2 (ks_219 n (dp - 1) e 0 _ _ _ _ _ _ u_I3_199 u_L3_199 (rfl : Ui (0) (0))) (fun I4_210 I4_210' L4_210 L4_210' u_I4_210 u_L4_210 => ?_)
                refine Sc (eq_up (u_I4_210 105 13) (rfl : Ui 0 0)) (fun c26 => ?_) (fun c26 => ?_)
                · refine Sc Iff.rfl (fun c27 => ?_) (fun _ => Sn)
                  refine Sb2 (ks_234 n (dp - 1) e 0 _ _ _ _ _ _ u_I4_210 u_L4_210 (rfl : Ui (5) (5))) (fun I5_222 I5_222' L5_222 L5_222' u_I5_222 u_L5_222 => ?_)
                  refine Sc Iff.rfl (fun c28 => ?_) (fun _ => Sn)
                  refine Sb2 (ks_225 n (dp - 1) e 0 _ _ _ _ _ _ _ _ u_I5_222 u_L5_222 (rfl : Ui (25) (25)) (rfl : Ui (0) (0))) (fun I6_228 I6_228' L6_228 L6_228' u_I6_228 u_L6_228 => ?_)
                  exact Sr ⟨(rfl : Ui (1) (1)), u_I6_228, u_L6_228⟩
                · exact Sr ⟨(rfl : Ui (1) (1)), u_I4_210, u_L4_210⟩
              · refine Sc Iff.rfl (fun c29 => ?_) (fun _ => Sn)
                refine Sb2 (ks_219 n (dp - 1) e 0 _ _ _ _ _ _ u_I3_199 u_L3_199 (rfl : Ui (1) (1))) (fun I4_210 I4_210' L4_210 L4_210' u_I4_210 u_L4_210 => ?_)
                refine Sc (eq_up (u_I4_210 105 13) (rfl : Ui 0 0)) (fun c30 => ?_) (fun c30 => ?_)
                · refine Sc Iff.rfl (fun c31 => ?_) (fun _ => Sn)
                  refine Sb2 (ks_234 n (dp - 1) e 0 _ _ _ _ _ _ u_I4_210 u_L4_210 (rfl : Ui (5) (5))) (fun I5_222 I5_222' L5_222 L5_222' u_I5_222 u_L5_222 => ?_)
                  refine Sc Iff.rfl (fun c32 => ?_) (fun _ => Sn)
                  refine Sb2 (ks_225 n (dp - 1) e 0 _ _ _ _ _ _ _ _ u_I5_222 u_L5_222 (rfl : Ui (25) (25)) (rfl : Ui (0) (0))) (fun I6_228 I6_228' L6_228 L6_228' u_I6_228 u_L6_228 => ?_)
                  exact Sr ⟨(rfl : Ui (1) (1)), u_I6_228, u_L6_228⟩
                · exact Sr ⟨(rfl : Ui (1) (1)), u_I4_210, u_L4_210⟩
            · refine Sc Iff.rfl (fun c33 => ?_) (fun _ => Sn)
              refine Sb2 (ks_219 n (dp - 1) e 0 _ _ _ _ _ _ u_I2_175 u_L2_175 (rfl : Ui (1) (1))) (fun I3_210 I3_210' L3_210 L3_210' u_I3_210 u_L3_210 => ?_)
              refine Sc (eq_up (u_I3_210 105 13) (rfl : Ui 0 0)) (fun c34 => ?_) (fun c34 => ?_)
              · refine Sc Iff.rfl (fun c35 => ?_) (fun _ => Sn)
                refine Sb2 (ks_234 n (dp - 1) e 0 _ _ _ _ _ _ u_I3_210 u_L3_210 (rfl : Ui (5) (5))) (fun I4_222 I4_222' L4_222 L4_222' u_I4_222 u_L4_222 => ?_)
                refine Sc Iff.rfl (fun c36 => ?_) (fun _ => Sn)
                refine Sb2 (ks_225 n (dp - 1) e 0 _ _ _ _ _ _ _ _ u_I4_222 u_L4_222 (rfl : Ui (25) (25)) (rfl : Ui (0) (0))) (fun I5_228 I5_228' L5_228 L5_228' u_I5_228 u_L5_228 => ?_)
                exact Sr ⟨(rfl : Ui (1) (1)), u_I5_228, u_L5_228⟩
              · exact Sr ⟨(rfl : Ui (1) (1)), u_I3_210, u_L3_210⟩
        · refine Sc (eq_up (rfl : Ui (24) (24)) (rfl : Ui (26) (26))) (fun c37 => ?_) (fun c37 => ?_)
          · refine Sc Iff.rfl (fun c38 => ?_) (fun _ => Sn)
            refine Sb3 (ks_226 n (dp - 1) e 0 _ _ _ _ _ _ u_I1_161 u_L1_161 (rfl : Ui (61) (61))) (fun x2_199 x2_199' I2_199 I2_199' L2_199 L2_199' u_x2_199 u_I2_199 u_L2_199 => ?_)
            refine Sc (eq_up u_x2_199 (rfl : Ui 0 0)) (fun c39 => ?_) (fun c39 => ?_)
            · refine Sc Iff.rfl (fun c40 => ?_) (fun _ => Sn)
              refine Sb2 (ks_219 n (dp - 1) e 0 _ _ _ _ _ _ u_I2_199 u_L2_199 (rfl : Ui (0) (0))) (fun I3_210 I3_210' L3_210 L3_210' u_I3_210 u_L3_210 => ?_)
              refine Sc (eq_up (u_I3_210 105 13) (rfl : Ui 0 0)) (fun c41 => ?_) (fun c41 => ?_)
              · refine Sc Iff.rfl (fun c42 => ?_) (fun _ => Sn)
                refine Sb2 (ks_234 n (dp - 1) e 0 _ _ _ _ _ _ u_I3_210 u_L3_210 (rfl : Ui (5) (5))) (fun I4_222 I4_222' L4_222 L4_222' u_I4_222 u_L4_222 => ?_)
                refine Sc Iff.rfl (fun c43 => ?_) (fun _ => Sn)
                refine Sb2 (ks_225 n (dp - 1) e 0 _ _ _ _ _ _ _ _ u_I4_222 u_L4_222 (rfl : Ui (24) (24)) (rfl : Ui (0) (0))) (fun I5_228 I5_228' L5_228 L5_228' u_I5_228 u_L5_228 => ?_)
                exact Sr ⟨(rfl : Ui (1) (1)), u_I5_228, u_L5_228⟩
              · exact Sr ⟨(rfl : Ui (1) (1)), u_I3_210, u_L3_210⟩
            · refine Sc Iff.rfl (fun c44 => ?_) (fun _ => Sn)
              refine Sb2 (ks_219 n (dp - 1) e 0 _ _ _ _ _ _ u_I2_199 u_L2_199 (rfl : Ui (1) (1))) (fun I3_210 I3_210' L3_210 L3_210' u_I3_210 u_L3_210 => ?_)
              refine Sc (eq_up (u_I3_210 105 13) (rfl : Ui 0 0)) (fun c45 => ?_) (fun c45 => ?_)
              · refine Sc Iff.rfl (fun c46 => ?_) (fun _ => Sn)
                refine Sb2 (ks_234 n (dp - 1) e 0 _ _ _ _ _ _ u_I3_210 u_L3_210 (rfl : Ui (5) (5))) (fun I4_222 I4_222' L4_222 L4_222' u_I4_222 u_L4_222 => ?_)
                refine Sc Iff.rfl (fun c47 => ?_) (fun _ => Sn)
                refine Sb2 (ks_225 n (dp - 1) e 0 _ _ _ _ _ _ _ _ u_I4_222 u_L4_222 (rfl : Ui (24) (24)) (rfl : Ui (0) (0))) (fun I5_228 I5_228' L5_228 L5_228' u_I5_228 u_L5_228 => ?_)
                exact Sr ⟨(rfl : Ui (1) (1)), u_I5_228, u_L5_228⟩
              · exact Sr ⟨(rfl : Ui (1) (1)), u_I3_210, u_L3_210⟩
          · refine Sc Iff.rfl (fun c48 => ?_) (fun _ => Sn)
            refine Sb2 (ks_219 n (dp - 1) e 0 _ _ _ _ _ _ u_I1_161 u_L1_161 (rfl : Ui (1) (1))) (fun I2_210 I2_210' L2_210 L2_210' u_I2_210 u_L2_210 => ?_)
            refine Sc (eq_up (u_I2_210 105 13) (rfl : Ui 0 0)) (fun c49 => ?_) (fun c49 => ?_)
            · refine Sc Iff.rfl (fun c50 => ?_) (fun _ => Sn)
              refine Sb2 (ks_234 n (dp - 1) e 0 _ _ _ _ _ _ u_I2_210 u_L2_210 (rfl : Ui (5) (5))) (fun I3_222 I3_222' L3_222 L3_222' u_I3_222 u_L3_222 => ?_)
              refine Sc Iff.rfl (fun c51 => ?_) (fun _ => Sn)
              refine Sb2 (ks_225 n (dp - 1) e 0 _ _ _ _ _ _ _ _ u_I3_222 u_L3_222 (rfl : Ui (24) (24)) (rfl : Ui (0) (0))) (fun I4_228 I4_228' L4_228 L4_228' u_I4_228 u_L4_228 => ?_)
              exact Sr ⟨(rfl : Ui (1) (1)), u_I4_228, u_L4_228⟩
            · exact Sr ⟨(rfl : Ui (1) (1)), u_I2_210, u_L2_210⟩
      · exact Sr ⟨(rfl : Ui (2) (2)), u_I0_150, u_L0_150⟩
    exact Sn
set_option maxHeartbeats 4000000 in
set_option maxRecDepth 100000 in
def kf_237 : Nat → Nat → EN → Nat → JI → JI → Int → Option (Int × JI × JI)
  | 0, _, _, _, _, _, _ => none
  | n + 1, dp, e, lab, I, L, i1 =>
    if lab = 0 then (if 1 ≤ dp then ((kf_218 n (dp - 1) e 0 I L 1476).bind (fun ⟨x0_4, I0_4, L0_4⟩ => (if x0_4 = 0 then (if 1 ≤ dp then ((kf_218 n (dp - 1) e 0 I0_4 L0_4 498).bind (fun ⟨x1_16, I1_16, L1_16⟩ => (if x1_16 = 0 then (if 1 ≤ dp then ((kf_235 n (dp - 1) e 0 I1_16 L1_16 0 0).bind (fun ⟨x2_77, I2_77, L2_77⟩ => (if x2_77 = (-1) then (some ((4 : Int), I2_77, L2_77)) else (if 1 ≤ dp then ((kf_226 n (dp - 1) e 0 I2_77 L2_77 41).bind (fun ⟨x3_90, I3_90, L3_90⟩ => (if 1 ≤ dp then ((kf_219 n (dp - 1) e 0 I3_90 L3_90 x3_90).bind (fun ⟨I4_93, L4_93⟩ => (if (I4_93 105 13) = 0 then (if 1 ≤ dp then ((kf_234 n (dp - 1) e 0 I4_93 L4_93 1).bind (fun ⟨I5_105, L5_105⟩ => (if -2147483648 ≤ (I5_105 105 22) - 1 ∧ (I5_105 105 22) - 1 ≤ 2147483647 then (stI (w2 I5_105 105 22 ((I5_105 105 22) - 1)) (fun I_115 => (if -2147483648 ≤ (I_115 105 23) - 1 ∧ (I_115 105 23) - 1 ≤ 2147483647 then (stI (w2 I_115 105 23 ((I_115 105 23) - 1)) (fun I_125 => (some ((2 : Int), I_125, L5_105)))) else none))) else none))) else none) else (some ((2 : Int), I4_93, L4_93))))) else none))) else none)))) else none) else (kf_237 n dp e 1 I1_16 L1_16 x0_4)))) else none) else (kf_237 n dp e 1 I0_4 L0_4 x0_4)))) else none)
    else if lab = 1 then (if i1 = 0 then (if 1 ≤ dp then ((kf_234 n (dp - 1) e 0 I L 1).bind (fun ⟨I0_32, L0_32⟩ => (if i1 = 0 then (if 1 ≤ dp then ((kf_225 n (dp - 1) e 0 I0_32 L0_32 29 (I0_32 105 16)).bind (fun ⟨I1_51, L1_51⟩ => (if i1 = 0 then (if 1 ≤ dp then ((kf_231 n (dp - 1) e 0 I1_51 L1_51 29 0).bind (fun ⟨I2_67, L2_67⟩ => (if 1 ≤ dp then ((kf_214 n (dp - 1) e 0 I2_67 L2_67).bind (fun ⟨I3_71, L3_71⟩ => (some ((0 : Int), I3_71, L3_71)))) else none))) else none) else (if 1 ≤ dp then ((kf_231 n (dp - 1) e 0 I1_51 L1_51 28 0).bind (fun ⟨I2_67, L2_67⟩ => (if 1 ≤ dp then ((kf_214 n (dp - 1) e 0 I2_67 L2_67).bind (fun ⟨I3_71, L3_71⟩ => (some ((0 : Int), I3_71, L3_71)))) else none))) else none)))) else none) else (if 1 ≤ dp then ((kf_225 n (dp - 1) e 0 I0_32 L0_32 28 (I0_32 105 16)).bind (fun ⟨I1_51, L1_51⟩ => (if i1 = 0 then (if 1 ≤ dp then ((kf_231 n (dp - 1) e 0 I1_51 L1_51 29 0).bind (fun ⟨I2_67, L2_67⟩ => (if 1 ≤ dp then ((kf_214 n (dp - 1) e 0 I2_67 L2_67).bind (fun ⟨I3_71, L3_71⟩ => (some ((0 : Int), I3_71, L3_71)))) else none))) else none) else (if 1 ≤ dp then ((kf_231 n (dp - 1) e 0 I1_51 L1_51 28 0).bind (fun ⟨I2_67, L2_67⟩ => (if 1 ≤ dp then ((kf_214 n (dp - 1) e 0 I2_67 L2_67).bind (fun ⟨I3_71, L3_71⟩ => (some ((0 : Int), I3_71, L3_71)))) else none))) else none)))) else none)))) else none) else (if 1 ≤ dp then ((kf_234 n (dp - 1) e 0 I L 2).bind (fun ⟨I0_32, L0_32⟩ => (if i1 = 0 then (if 1 ≤ dp then ((kf_225 n (dp - 1) e 0 I0_32 L0_32 29 (I0_32 105 16)).bind (fun ⟨I1_51, L1_51⟩ => (if i1 = 0 then (if 1 ≤ dp then ((kf_231 n (dp - 1) e 0 I1_51 L1_51 29 0).bind (fun ⟨I2_67, L2_67⟩ => (if 1 ≤ dp then ((kf_214 n (dp - 1) e 0 I2_67 L2_67).bind (fun ⟨I3_71, L3_71⟩ => (some ((0 : Int), I3_71, L3_71)))) else none))) else none) else (if 1 ≤ dp then ((kf_231 n (dp - 1) e 0 I1_51 L1_51 28 0).bind (fun ⟨I2_67, L2_67⟩ => (if 1 ≤ dp then ((kf_214 n (dp - 1) e 0 I2_67 L2_67).bind (fun ⟨I3_71, L3_71⟩ => (some ((0 : Int), I3_71, L3_71)))) else none))) else none)))) else none) else (if 1 ≤ dp then ((kf_225 n (dp - 1) e 0 I0_32 L0_32 28 (I0_32 105 16)).bind (fun ⟨I1_51, L1_51⟩ => (if i1 = 0 then (if 1 ≤ dp then ((kf_231 n (dp - 1) e 0 I1_51 L1_51 29 0).bind (fun ⟨I2_67, L2_67⟩ => (if 1 ≤ dp then ((kf_214 n (dp - 1) e 0 I2_67 L2_67).bind (fun ⟨I3_71, L3_71⟩ => (some ((0 : Int), I3_71, L3_71)))) else none))) else none) else (if 1 ≤ dp then ((kf_231 n (dp - 1) e 0 I1_51 L1_51 28 0).bind (fun ⟨I2_67, L2_67⟩ => (if 1 ≤ dp then ((kf_214 n (dp - 1) e 0 I2_67 L2_67).bind (fun ⟨I3_71, L3_71⟩ => (some ((0 : Int), I3_71, L3_71)))) else none))) else none)))) else none)))) else none))
    else none
set_option maxRecDepth 100000 in
theorem ke_237_0 (n : Nat) (dp : Nat) (e : EN) (I : JI) (L : JI) (i1 : Int) : kf_237 (n + 1) dp e 0 I L i1 = (if 1 ≤ dp then ((kf_218 n (dp - 1) e 0 I L 1476).bind (fun ⟨x0_4, I0_4, L0_4⟩ => (if x0_4 = 0 then (if 1 ≤ dp then ((kf_218 n (dp - 1) e 0 I0_4 L0_4 498).bind (fun ⟨x1_16, I1_16, L1_16⟩ => (if x1_16 = 0 then (if 1 ≤ dp then ((kf_235 n (dp - 1) e 0 I1_16 L1_16 0 0).bind (fun ⟨x2_77, I2_77, L2_77⟩ => (if x2_77 = (-1) then (some ((4 : Int), I2_77, L2_77)) else (if 1 ≤ dp then ((kf_226 n (dp - 1) e 0 I2_77 L2_77 41).bind (fun ⟨x3_90, I3_90, L3_90⟩ => (if 1 ≤ dp then ((kf_219 n (dp - 1) e 0 I3_90 L3_90 x3_90).bind (fun ⟨I4_93, L4_93⟩ => (if (I4_93 105 13) = 0 then (if 1 ≤ dp then ((kf_234 n (dp - 1) e 0 I4_93 L4_93 1).bind (fun ⟨I5_105, L5_105⟩ => (if -2147483648 ≤ (I5_105 105 22) - 1 ∧ (I5_105 105 22) - 1 ≤ 2147483647 then (stI (w2 I5_105 105 22 ((I5_105 105 22) - 1)) (fun I_115 => (if -2147483648 ≤ (I_115 105 23) - 1 ∧ (I_115 105 23) - 1 ≤ 2147483647 then (stI (w2 I_115 105 23 ((I_115 105 23) - 1)) (fun I_125 => (some ((2 : Int), I_125, L5_105)))) else none))) else none))) else none) else (some ((2 : Int), I4_93, L4_93))))) else none))) else none)))) else none) else (kf_237 n dp e 1 I1_16 L1_16 x0_4)))) else none) else (kf_237 n dp e 1 I0_4 L0_4 x0_4)))) else none) := by rw [kf_237.eq_2, if_pos (show (0 : Nat) = 0 from rfl)]
set_option maxRecDepth 100000 in
theorem ke_237_1 (n : Nat) (dp : Nat) (e : EN) (I : JI) (L : JI) (i1 : Int) : kf_237 (n + 1) dp e 1 I L i1 = (if i1 = 0 then (if 1 ≤ dp then ((kf_234 n (dp - 1) e 0 I L 1).bind (fun ⟨I0_32, L0_32⟩ => (if i1 = 0 then (if 1 ≤ dp then ((kf_225 n (dp - 1) e 0 I0_32 L0_32 29 (I0_32 105 16)).bind (fun ⟨I1_51, L1_51⟩ => (if i1 = 0 then (if 1 ≤ dp then ((kf_231 n (dp - 1) e 0 I1_51 L1_51 29 0).bind (fun ⟨I2_67, L2_67⟩ => (if 1 ≤ dp then ((kf_214 n (dp - 1) e 0 I2_67 L2_67).bind (fun ⟨I3_71, L3_71⟩ => (some ((0 : Int), I3_71, L3_71)))) else none))) else none) else (if 1 ≤ dp then ((kf_231 n (dp - 1) e 0 I1_51 L1_51 28 0).bind (fun ⟨I2_67, L2_67⟩ => (if 1 ≤ dp then ((kf_214 n (dp - 1) e 0 I2_67 L2_67).bind (fun ⟨I3_71, L3_71⟩ => (some ((0 : Int), I3_71, L3_71)))) else none))) else none)))) else none) else (if 1 ≤ dp then ((kf_225 n (dp - 1) e 0 I0_32 L0_32 28 (I0_32 105 16)).bind (fun ⟨I1_51, L1_51⟩ => (if i1 = 0 then (if 1 ≤ dp then ((kf_231 n (dp - 1) e 0 I1_51 L1_51 29 0).bind (fun ⟨I2_67, L2_67⟩ => (if 1 ≤ dp then ((kf_214 n (dp - 1) e 0 I2_67 L2_67).bind (fun ⟨I3_71, L3_71⟩ => (some ((0 : Int), I3_71, L3_71)))) else none))) else none) else (if 1 ≤ dp then ((kf_231 n (dp - 1) e 0 I1_51 L1_51 28 0).bind (fun ⟨I2_67, L2_67⟩ => (if 1 ≤ dp then ((kf_214 n (dp - 1) e 0 I2_67 L2_67).bind (fun ⟨I3_71, L3_71⟩ => (some ((0 : Int), I3_71, L3_71)))) else none))) else none)))) else none)))) else none) else (if 1 ≤ dp then ((kf_234 n (dp - 1) e 0 I L 2).bind (fun ⟨I0_32, L0_32⟩ => (if i1 = 0 then (if 1 ≤ dp then ((kf_225 n (dp - 1) e 0 I0_32 L0_32 29 (I0_32 105 16)).bind (fun ⟨I1_51, L1_51⟩ => (if i1 = 0 then (if 1 ≤ dp then ((kf_231 n (dp - 1) e 0 I1_51 L1_51 29 0).bind (fun ⟨I2_67, L2_67⟩ => (if 1 ≤ dp then ((kf_214 n (dp - 1) e 0 I2_67 L2_67).bind (fun ⟨I3_71, L3_71⟩ => (some ((0 : Int), I3_71, L3_71)))) else none))) else none) else (if 1 ≤ dp then ((kf_231 n (dp - 1) e 0 I1_51 L1_51 28 0).bind (fun ⟨I2_67, L2_67⟩ => (if 1 ≤ dp then ((kf_214 n (dp - 1) e 0 I2_67 L2_67).bind (fun ⟨I3_71, L3_71⟩ => (some ((0 : Int), I3_71, L3_71)))) else none))) else none)))) else none) else (if 1 ≤ dp then ((kf_225 n (dp - 1) e 0 I0_32 L0_32 28 (I0_32 105 16)).bind (fun ⟨I1_51, L1_51⟩ => (if i1 = 0 then (if 1 ≤ dp then ((kf_231 n (dp - 1) e 0 I1_51 L1_51 29 0).bind (fun ⟨I2_67, L2_67⟩ => (if 1 ≤ dp then ((kf_214 n (dp - 1) e 0 I2_67 L2_67).bind (fun ⟨I3_71, L3_71⟩ => (some ((0 : Int), I3_71, L3_71)))) else none))) else none) else (if 1 ≤ dp then ((kf_231 n (dp - 1) e 0 I1_51 L1_51 28 0).bind (fun ⟨I2_67, L2_67⟩ => (if 1 ≤ dp then ((kf_214 n (dp - 1) e 0 I2_67 L2_67).bind (fun ⟨I3_71, L3_71⟩ => (some ((0 : Int), I3_71, L3_71)))) else none))) else none)))) else none)))) else none)) := by rw [kf_237.eq_2, if_neg (show ¬ ((1 : Nat) = 0) by decide), if_pos (show (1 : Nat) = 1 from rfl)]
set_option maxHeartbeats 8000000 in
set_option maxRecDepth 100000 in
theorem ks_237 : ∀ (n : Nat) (dp : Nat) (e : EN) (lab : Nat) (I : Nat → Nat → Int32) (I' : JI) (L : Nat → Nat → Int64) (L' : JI) (i1 : Int32) (i1' : Int), Rli I I' → Rll L L' → Ui i1 i1' → Sim R3 (g_237 n dp e lab I L i1) (kf_237 n dp e lab I' L' i1') := by
  intro n
  induction n with
  | zero => intros; rw [kf_237.eq_1]; exact Sn
  | succ n ih =>
    intro dp e lab I I' L L' i1 i1' u_I u_L u_i1
    rw [g_237.eq_2, kf_237.eq_2]
    refine Sc Iff.rfl (fun _ => ?_) (fun _ => ?_)
    · refine Sc Iff.rfl (fun c1 => ?_) (fun _ => Sn)
      refine Sb3 (ks_218 n (dp - 1) e 0 _ _ _ _ _ _ u_I u_L (rfl : Ul (1476) (1476))) (fun x0_4 x0_4' I0_4 I0_4' L0_4 L0_4' u_x0_4 u_I0_4 u_L0_4 => ?_)
      refine Sc (eq_up u_x0_4 (rfl : Ui 0 0)) (fun c2 => ?_) (fun c2 => ?_)
      · refine Sc Iff.rfl (fun c3 => ?_) (fun _ => Sn)
        refine Sb3 (ks_218 n (dp - 1) e 0 _ _ _ _ _ _ u_I0_4 u_L0_4 (rfl : Ul (498) (498))) (fun x1_16 x1_16' I1_16 I1_16' L1_16 L1_16' u_x1_16 u_I1_16 u_L1_16 => ?_)
        refine Sc (eq_up u_x1_16 (rfl : Ui 0 0)) (fun c4 => ?_) (fun c4 => ?_)
        · refine Sc Iff.rfl (fun c5 => ?_) (fun _ => Sn)
          refine Sb3 (ks_235 n (dp - 1) e 0 _ _ _ _ _ _ _ _ u_I1_16 u_L1_16 (rfl : Ui 0 0) (rfl : Ui 0 0)) (fun x2_77 x2_77' I2_77 I2_77' L2_77 L2_77' u_x2_77 u_I2_77 u_L2_77 => ?_)
          refine Sc (eq_up u_x2_77 (rfl : Ui (-1) (-1))) (fun c6 => ?_) (fun c6 => ?_)
          · exact Sr ⟨(rfl : Ui (4) (4)), u_I2_77, u_L2_77⟩
          · refine Sc Iff.rfl (fun c7 => ?_) (fun _ => Sn)
            refine Sb3 (ks_226 n (dp - 1) e 0 _ _ _ _ _ _ u_I2_77 u_L2_77 (rfl : Ui (41) (41))) (fun x3_90 x3_90' I3_90 I3_90' L3_90 L3_90' u_x3_90 u_I3_90 u_L3_90 => ?_)
            refine Sc Iff.rfl (fun c8 => ?_) (fun _ => Sn)
            refine Sb2 (ks_219 n (dp - 1) e 0 _ _ _ _ _ _ u_I3_90 u_L3_90 u_x3_90) (fun I4_93 I4_93' L4_93 L4_93' u_I4_93 u_L4_93 => ?_)
            refine Sc (eq_up (u_I4_93 105 13) (rfl : Ui 0 0)) (fun c9 => ?_) (fun c9 => ?_)
            · refine Sc Iff.rfl (fun c10 => ?_) (fun _ => Sn)
              refine Sb2 (ks_234 n (dp - 1) e 0 _ _ _ _ _ _ u_I4_93 u_L4_93 (rfl : Ui (1) (1))) (fun I5_105 I5_105' L5_105 L5_105' u_I5_105 u_L5_105 => ?_)
              refine Sg (fun g11 => ?_)
              refine SsJ (ri_up u_I5_105 (rfl : ((22 : Nat) : Int) = 22) (ui_sub (u_I5_105 105 22) (rfl : Ui (1) (1)) g11)) (fun I_115 I_115' u_I_115 => ?_)
              refine Sg (fun g12 => ?_)
              refine SsJ (ri_up u_I_115 (rfl : ((23 : Nat) : Int) = 23) (ui_sub (u_I_115 105 23) (rfl : Ui (1) (1)) g12)) (fun I_125 I_125' u_I_125 => ?_)
              exact Sr ⟨(rfl : Ui (2) (2)), u_I_125, u_L5_105⟩
            · exact Sr ⟨(rfl : Ui (2) (2)), u_I4_93, u_L4_93⟩
        · exact (ih dp e 1 _ _ _ _ _ _ u_I1_16 u_L1_16 u_x0_4)
      · exact (ih dp e 1 _ _ _ _ _ _ u_I0_4 u_L0_4 u_x0_4)
    refine Sc Iff.rfl (fun _ => ?_) (fun _ => ?_)
    · refine Sc (eq_up u_i1 (rfl : Ui 0 0)) (fun c1 => ?_) (fun c1 => ?_)
      · refine Sc Iff.rfl (fun c2 => ?_) (fun _ => Sn)
        refine Sb2 (ks_234 n (dp - 1) e 0 _ _ _ _ _ _ u_I u_L (rfl : Ui (1) (1))) (fun I0_32 I0_32' L0_32 L0_32' u_I0_32 u_L0_32 => ?_)
        refine Sc (eq_up u_i1 (rfl : Ui 0 0)) (fun c3 => ?_) (fun c3 => ?_)
        · refine Sc Iff.rfl (fun c4 => ?_) (fun _ => Sn)
          refine Sb2 (ks_225 n (dp - 1) e 0 _ _ _ _ _ _ _ _ u_I0_32 u_L0_32 (rfl : Ui (29) (29)) (u_I0_32 105 16)) (fun I1_51 I1_51' L1_51 L1_51' u_I1_51 u_L1_51 => ?_)
          refine Sc (eq_up u_i1 (rfl : Ui 0 0)) (fun c5 => ?_) (fun c5 => ?_)
          · refine Sc Iff.rfl (fun c6 => ?_) (fun _ => Sn)
            refine Sb2 (ks_231 n (dp - 1) e 0 _ _ _ _ _ _ _ _ u_I1_51 u_L1_51 (rfl : Ui (29) (29)) (rfl : Ui (0) (0))) (fun I2_67 I2_67' L2_67 L2_67' u_I2_67 u_L2_67 => ?_)
            refine Sc Iff.rfl (fun c7 => ?_) (fun _ => Sn)
            refine Sb2 (ks_214 n (dp - 1) e 0 _ _ _ _ u_I2_67 u_L2_67) (fun I3_71 I3_71' L3_71 L3_71' u_I3_71 u_L3_71 => ?_)
            exact Sr ⟨(rfl : Ui (0) (0)), u_I3_71, u_L3_71⟩
          · refine Sc Iff.rfl (fun c8 => ?_) (fun _ => Sn)
            refine Sb2 (ks_231 n (dp - 1) e 0 _ _ _ _ _ _ _ _ u_I1_51 u_L1_51 (rfl : Ui (28) (28)) (rfl : Ui (0) (0))) (fun I2_67 I2_67' L2_67 L2_67' u_I2_67 u_L2_67 => ?_)
            refine Sc Iff.rfl (fun c9 => ?_) (fun _ => Sn)
            refine Sb2 (ks_214 n (dp - 1) e 0 _ _ _ _ u_I2_67 u_L2_67) (fun I3_71 I3_71' L3_71 L3_71' u_I3_71 u_L3_71 => ?_)
            exact Sr ⟨(rfl : Ui (0) (0)), u_I3_71, u_L3_71⟩
        · refine Sc Iff.rfl (fun c10 => ?_) (fun _ => Sn)
          refine Sb2 (ks_225 n (dp - 1) e 0 _ _ _ _ _ _ _ _ u_I0_32 u_L0_32 (rfl : Ui (28) (28)) (u_I0_32 105 16)) (fun I1_51 I1_51' L1_51 L1_51' u_I1_51 u_L1_51 => ?_)
          refine Sc (eq_up u_i1 (rfl : Ui 0 0)) (fun c11 => ?_) (fun c11 => ?_)
          · refine Sc Iff.rfl (fun c12 => ?_) (fun _ => Sn)
            refine Sb2 (ks_231 n (dp - 1) e 0 _ _ _ _ _ _ _ _ u_I1_51 u_L1_51 (rfl : Ui (29) (29)) (rfl : Ui (0) (0))) (fun I2_67 I2_67' L2_67 L2_67' u_I2_67 u_L2_67 => ?_)
            refine Sc Iff.rfl (fun c13 => ?_) (fun _ => Sn)
            refine Sb2 (ks_214 n (dp - 1) e 0 _ _ _ _ u_I2_67 u_L2_67) (fun I3_71 I3_71' L3_71 L3_71' u_I3_71 u_L3_71 => ?_)
            exact Sr ⟨(rfl : Ui (0) (0)), u_I3_71, u_L3_71⟩
          · refine Sc Iff.rfl (fun c14 => ?_) (fun _ => Sn)
            refine Sb2 (ks_231 n (dp - 1) e 0 _ _ _ _ _ _ _ _ u_I1_51 u_L1_51 (rfl : Ui (28) (28)) (rfl : Ui (0) (0))) (fun I2_67 I2_67' L2_67 L2_67' u_I2_67 u_L2_67 => ?_)
            refine Sc Iff.rfl (fun c15 => ?_) (fun _ => Sn)
            refine Sb2 (ks_214 n (dp - 1) e 0 _ _ _ _ u_I2_67 u_L2_67) (fun I3_71 I3_71' L3_71 L3_71' u_I3_71 u_L3_71 => ?_)
            exact Sr ⟨(rfl : Ui (0) (0)), u_I3_71, u_L3_71⟩
      · refine Sc Iff.rfl (fun c16 => ?_) (fun _ => Sn)
        refine Sb2 (ks_234 n (dp - 1) e 0 _ _ _ _ _ _ u_I u_L (rfl : Ui (2) (2))) (fun I0_32 I0_32' L0_32 L0_32' u_I0_32 u_L0_32 => ?_)
        refine Sc (eq_up u_i1 (rfl : Ui 0 0)) (fun c17 => ?_) (fun c17 => ?_)
        · refine Sc Iff.rfl (fun c18 => ?_) (fun _ => Sn)
          refine Sb2 (ks_225 n (dp - 1) e 0 _ _ _ _ _ _ _ _ u_I0_32 u_L0_32 (rfl : Ui (29) (29)) (u_I0_32 105 16)) (fun I1_51 I1_51' L1_51 L1_51' u_I1_51 u_L1_51 => ?_)
          refine Sc (eq_up u_i1 (rfl : Ui 0 0)) (fun c19 => ?_) (fun c19 => ?_)
          · refine Sc Iff.rfl (fun c20 => ?_) (fun _ => Sn)
            refine Sb2 (ks_231 n (dp - 1) e 0 _ _ _ _ _ _ _ _ u_I1_51 u_L1_51 (rfl : Ui (29) (29)) (rfl : Ui (0) (0))) (fun I2_67 I2_67' L2_67 L2_67' u_I2_67 u_L2_67 => ?_)
            refine Sc Iff.rfl (fun c21 => ?_) (fun _ => Sn)
            refine Sb2 (ks_214 n (dp - 1) e 0 _ _ _ _ u_I2_67 u_L2_67) (fun I3_71 I3_71' L3_71 L3_71' u_I3_71 u_L3_71 => ?_)
            exact Sr ⟨(rfl : Ui (0) (0)), u_I3_71, u_L3_71⟩
          · refine Sc Iff.rfl (fun c22 => ?_) (fun _ => Sn)
            refine Sb2 (ks_231 n (dp - 1) e 0 _ _ _ _ _ _ _ _ u_I1_51 u_L1_51 (rfl : Ui (28) (28)) (rfl : Ui (0) (0))) (fun I2_67 I2_67' L2_67 L2_67' u_I2_67 u_L2_67 => ?_)
            refine Sc Iff.rfl (fun c23 => ?_) (fun _ => Sn)
            refine Sb2 (ks_214 n (dp - 1) e 0 _ _ _ _ u_I2_67 u_L2_67) (fun I3_71 I3_71' L3_71 L3_71' u_I3_71 u_L3_71 => ?_)
            exact Sr ⟨(rfl : Ui (0) (0)), u_I3_71, u_L3_71⟩
        · refine Sc Iff.rfl (fun c24 => ?_) (fun _ => Sn)
          refine Sb2 (ks_225 n (dp - 1) e 0 _ _ _ _ _ _ _ _ u_I0_32 u_L0_32 (rfl : Ui (28) (28)) (u_I0_32 105 16)) (fun I1_51 I1_51' L1_51 L1_51' u_I1_51 u_L1_51 => ?_)
          refine Sc (eq_up u_i1 (rfl : Ui 0 0)) (fun c25 => ?_) (fun c25 => ?_)
          · refine Sc Iff.rfl (fun c26 => ?_) (fun _ => Sn)
            refine Sb2 (ks_231 n (dp - 1) e 0 _ _ _ _ _ _ _ _ u_I1_51 u_L1_51 (rfl : Ui (29) (29)) (rfl : Ui (0) (0))) (fun I2_67 I2_67' L2_67 L2_67' u_I2_67 u_L2_67 => ?_)
            refine Sc Iff.rfl (fun c27 => ?_) (fun _ => Sn)
            refine Sb2 (ks_214 n (dp - 1) e 0 _ _ _ _ u_I2_67 u_L2_67) (fun I3_71 I3_71' L3_71 L3_71' u_I3_71 u_L3_71 => ?_)
            exact Sr ⟨(rfl : Ui (0) (0)), u_I3_71, u_L3_71⟩
          · refine Sc Iff.rfl (fun c28 => ?_) (fun _ => Sn)
            refine Sb2 (ks_231 n (dp - 1) e 0 _ _ _ _ _ _ _ _ u_I1_51 u_L1_51 (rfl : Ui (28) (28)) (rfl : Ui (0) (0))) (fun I2_67 I2_67' L2_67 L2_67' u_I2_67 u_L2_67 => ?_)
            refine Sc Iff.rfl (fun c29 => ?_) (fun _ => Sn)
            refine Sb2 (ks_214 n (dp - 1) e 0 _ _ _ _ u_I2_67 u_L2_67) (fun I3_71 I3_71' L3_71 L3_71' u_I3_71 u_L3_71 => ?_)
            exact Sr ⟨(rfl : Ui (0) (0)), u_I3_71, u_L3_71⟩
    exact Sn
set_option maxHeartbeats 4000000 in
set_option maxRecDepth 100000 in
def kf_223 : Nat → Nat → EN → Nat → JI → JI → Int → Int → Option (JI × JI)
  | 0, _, _, _, _, _, _, _ => none
  | n + 1, dp, e, lab, I, L, i1, i2 =>
    if lab = 0 then (stI (w2 I 105 22 0) (fun I_2 => (stI (w2 I_2 105 23 0) (fun I_7 => (if i1 = 0 then (kf_223 n dp e 1 I_7 L i1 1) else (kf_223 n dp e 1 I_7 L i1 0))))))
    else if lab = 1 then (if (I 105 13) = 0 then (if i2 = 4 then (if 1 ≤ dp then ((kf_234 n (dp - 1) e 0 I L 1).bind (fun ⟨I0_78, L0_78⟩ => (some (I0_78, L0_78)))) else none) else (if i2 = 0 then (if 1 ≤ dp then ((kf_224 n (dp - 1) e 0 I L).bind (fun ⟨x0_37, I0_37, L0_37⟩ => (kf_223 n dp e 1 I0_37 L0_37 i1 x0_37))) else none) else (if i2 = 1 then (if 1 ≤ dp then ((kf_228 n (dp - 1) e 0 I L 0).bind (fun ⟨x0_49, I0_49, L0_49⟩ => (kf_223 n dp e 1 I0_49 L0_49 i1 x0_49))) else none) else (if i2 = 3 then (if 1 ≤ dp then ((kf_232 n (dp - 1) e 0 I L i1 0 0).bind (fun ⟨x0_62, I0_62, L0_62⟩ => (kf_223 n dp e 1 I0_62 L0_62 i1 x0_62))) else none) else (if 1 ≤ dp then ((kf_237 n (dp - 1) e 0 I L 0).bind (fun ⟨x0_69, I0_69, L0_69⟩ => (kf_223 n dp e 1 I0_69 L0_69 i1 x0_69))) else none))))) else (if 1 ≤ dp then ((kf_234 n (dp - 1) e 0 I L 1).bind (fun ⟨I0_78, L0_78⟩ => (some (I0_78, L0_78)))) else none))
    else none
set_option maxRecDepth 100000 in
theorem ke_223_0 (n : Nat) (dp : Nat) (e : EN) (I : JI) (L : JI) (i1 : Int) (i2 : Int) : kf_223 (n + 1) dp e 0 I L i1 i2 = (stI (w2 I 105 22 0) (fun I_2 => (stI (w2 I_2 105 23 0) (fun I_7 => (if i1 = 0 then (kf_223 n dp e 1 I_7 L i1 1) else (kf_223 n dp e 1 I_7 L i1 0)))))) := by rw [kf_223.eq_2, if_pos (show (0 : Nat) = 0 from rfl)]
set_option maxRecDepth 100000 in
theorem ke_223_1 (n : Nat) (dp : Nat) (e : EN) (I : JI) (L : JI) (i1 : Int) (i2 : Int) : kf_223 (n + 1) dp e 1 I L i1 i2 = (if (I 105 13) = 0 then (if i2 = 4 then (if 1 ≤ dp then ((kf_234 n (dp - 1) e 0 I L 1).bind (fun ⟨I0_78, L0_78⟩ => (some (I0_78, L0_78)))) else none) else (if i2 = 0 then (if 1 ≤ dp then ((kf_224 n (dp - 1) e 0 I L).bind (fun ⟨x0_37, I0_37, L0_37⟩ => (kf_223 n dp e 1 I0_37 L0_37 i1 x0_37))) else none) else (if i2 = 1 then (if 1 ≤ dp then ((kf_228 n (dp - 1) e 0 I L 0).bind (fun ⟨x0_49, I0_49, L0_49⟩ => (kf_223 n dp e 1 I0_49 L0_49 i1 x0_49))) else none) else (if i2 = 3 then (if 1 ≤ dp then ((kf_232 n (dp - 1) e 0 I L i1 0 0).bind (fun ⟨x0_62, I0_62, L0_62⟩ => (kf_223 n dp e 1 I0_62 L0_62 i1 x0_62))) else none) else (if 1 ≤ dp then ((kf_237 n (dp - 1) e 0 I L 0).bind (fun ⟨x0_69, I0_69, L0_69⟩ => (kf_223 n dp e 1 I0_69 L0_69 i1 x0_69))) else none))))) else (if 1 ≤ dp then ((kf_234 n (dp - 1) e 0 I L 1).bind (fun ⟨I0_78, L0_78⟩ => (some (I0_78, L0_78)))) else none)) := by rw [kf_223.eq_2, if_neg (show ¬ ((1 : Nat) = 0) by decide), if_pos (show (1 : Nat) = 1 from rfl)]
set_option maxHeartbeats 8000000 in
set_option maxRecDepth 100000 in
theorem ks_223 : ∀ (n : Nat) (dp : Nat) (e : EN) (lab : Nat) (I : Nat → Nat → Int32) (I' : JI) (L : Nat → Nat → Int64) (L' : JI) (i1 : Int32) (i1' : Int) (i2 : Int32) (i2' : Int), Rli I I' → Rll L L' → Ui i1 i1' → Ui i2 i2' → Sim R2 (g_223 n dp e lab I L i1 i2) (kf_223 n dp e lab I' L' i1' i2') := by
  intro n
  induction n with
  | zero => intros; rw [kf_223.eq_1]; exact Sn
  | succ n ih =>
    intro dp e lab I I' L L' i1 i1' i2 i2' u_I u_L u_i1 u_i2
    rw [g_223.eq_2, kf_223.eq_2]
    refine Sc Iff.rfl (fun _ => ?_) (fun _ => ?_)
    · refine SsJ (ri_up u_I (rfl : ((22 : Nat) : Int) = 22) (rfl : Ui (0) (0))) (fun I_2 I_2' u_I_2 => ?_)
      refine SsJ (ri_up u_I_2 (rfl : ((23 : Nat) : Int) = 23) (rfl : Ui (0) (0))) (fun I_7 I_7' u_I_7 => ?_)
      refine Sc (eq_up u_i1 (rfl : Ui 0 0)) (fun c1 => ?_) (fun c1 => ?_)
      · exact (ih dp e 1 _ _ _ _ _ _ _ _ u_I_7 u_L u_i1 (rfl : Ui (1) (1)))
      · exact (ih dp e 1 _ _ _ _ _ _ _ _ u_I_7 u_L u_i1 (rfl : Ui (0) (0)))
    refine Sc Iff.rfl (fun _ => ?_) (fun _ => ?_)
    · refine Sc (eq_up (u_I 105 13) (rfl : Ui 0 0)) (fun c1 => ?_) (fun c1 => ?_)
      · refine Sc (eq_up u_i2 (rfl : Ui (4) (4))) (fun c2 => ?_) (fun c2 => ?_)
        · refine Sc Iff.rfl (fun c3 => ?_) (fun _ => Sn)
          refine Sb2 (ks_234 n (dp - 1) e 0 _ _ _ _ _ _ u_I u_L (rfl : Ui (1) (1))) (fun I0_78 I0_78' L0_78 L0_78' u_I0_78 u_L0_78 => ?_)
          exact Sr ⟨u_I0_78, u_L0_78⟩
        · refine Sc (eq_up u_i2 (rfl : Ui 0 0)) (fun c4 => ?_) (fun c4 => ?_)
          · refine Sc Iff.rfl (fun c5 => ?_) (fun _ => Sn)
            refine Sb3 (ks_224 n (dp - 1) e 0 _ _ _ _ u_I u_L) (fun x0_37 x0_37' I0_37 I0_37' L0_37 L0_37' u_x0_37 u_I0_37 u_L0_37 => ?_)
            exact (ih dp e 1 _ _ _ _ _ _ _ _ u_I0_37 u_L0_37 u_i1 u_x0_37)
          · refine Sc (eq_up u_i2 (rfl : Ui (1) (1))) (fun c6 => ?_) (fun c6 => ?_)
            · refine Sc Iff.rfl (fun c7 => ?_) (fun _ => Sn)
              refine Sb3 (ks_228 n (dp - 1) e 0 _ _ _ _ _ _ u_I u_L (rfl : Ui 0 0)) (fun x0_49 x0_49' I0_49 I0_49' L0_49 L0_49' u_x0_49 u_I0_49 u_L0_49 => ?_)
              exact (ih dp e 1 _ _ _ _ _ _ _ _ u_I0_49 u_L0_49 u_i1 u_x0_49)
            · refine Sc (eq_up u_i2 (rfl : Ui (3) (3))) (fun c8 => ?_) (fun c8 => ?_)
              · refine Sc Iff.rfl (fun c9 => ?_) (fun _ => Sn)
                refine Sb3 (ks_232 n (dp - 1) e 0 _ _ _ _ _ _ _ _ _ _ u_I u_L u_i1 (rfl : Ui 0 0) (rfl : Ui 0 0)) (fun x0_62 x0_62' I0_62 I0_62' L0_62 L0_62' u_x0_62 u_I0_62 u_L0_62 => ?_)
                exact (ih dp e 1 _ _ _ _ _ _ _ _ u_I0_62 u_L0_62 u_i1 u_x0_62)
              · refine Sc Iff.rfl (fun c10 => ?_) (fun _ => Sn)
                refine Sb3 (ks_237 n (dp - 1) e 0 _ _ _ _ _ _ u_I u_L (rfl : Ui 0 0)) (fun x0_69 x0_69' I0_69 I0_69' L0_69 L0_69' u_x0_69 u_I0_69 u_L0_69 => ?_)
                exact (ih dp e 1 _ _ _ _ _ _ _ _ u_I0_69 u_L0_69 u_i1 u_x0_69)
      · refine Sc Iff.rfl (fun c11 => ?_) (fun _ => Sn)
        refine Sb2 (ks_234 n (dp - 1) e 0 _ _ _ _ _ _ u_I u_L (rfl : Ui (1) (1))) (fun I0_78 I0_78' L0_78 L0_78' u_I0_78 u_L0_78 => ?_)
        exact Sr ⟨u_I0_78, u_L0_78⟩
    exact Sn
