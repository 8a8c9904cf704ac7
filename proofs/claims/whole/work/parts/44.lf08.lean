/-! lifted functions 08, printed by lift.py -/
set_option maxHeartbeats 4000000 in
set_option maxRecDepth 100000 in
def kf_217 : Nat → Nat → EN → Nat → JI → JI → Int → Int → Int → Option (JI × JI)
  | 0, _, _, _, _, _, _, _, _ => none
  | n + 1, dp, e, lab, I, L, i1, i2, i3 =>
    if lab = 0 then (if 1 ≤ dp then ((kf_218 n (dp - 1) e 0 I L 3764).bind (fun ⟨x0_4, I0_4, L0_4⟩ => (if x0_4 = 0 then (if 1 ≤ dp then ((kf_218 n (dp - 1) e 0 I0_4 L0_4 14276022451).bind (fun ⟨x1_18, I1_18, L1_18⟩ => (if x1_18 = 0 then (if 1 ≤ dp then ((kf_218 n (dp - 1) e 0 I1_18 L1_18 20293004).bind (fun ⟨x2_32, I2_32, L2_32⟩ => (if x2_32 = 0 then (if (I2_32 105 13) = 0 then (if ((-1) : Int) = (-1) then (kf_217 n dp e 1 I2_32 L2_32 (-1) 0 0) else (if (I2_32 105 14) = 24 then (kf_217 n dp e 1 I2_32 L2_32 (-1) 0 0) else (if ((-1) : Int) = 2 then (if (I2_32 105 26) = 16 then (kf_217 n dp e 1 I2_32 L2_32 (-1) 0 0) else (kf_217 n dp e 2 I2_32 L2_32 (-1) 0 0)) else (kf_217 n dp e 2 I2_32 L2_32 (-1) 0 0)))) else (kf_217 n dp e 2 I2_32 L2_32 (-1) 0 0)) else (if (I2_32 105 13) = 0 then (if (1 : Int) = (-1) then (kf_217 n dp e 1 I2_32 L2_32 1 0 0) else (if (I2_32 105 14) = 24 then (kf_217 n dp e 1 I2_32 L2_32 1 0 0) else (if (1 : Int) = 2 then (if (I2_32 105 26) = 16 then (kf_217 n dp e 1 I2_32 L2_32 1 0 0) else (kf_217 n dp e 2 I2_32 L2_32 1 0 0)) else (kf_217 n dp e 2 I2_32 L2_32 1 0 0)))) else (kf_217 n dp e 2 I2_32 L2_32 1 0 0))))) else none) else (if (I1_18 105 13) = 0 then (if (0 : Int) = (-1) then (kf_217 n dp e 1 I1_18 L1_18 0 0 0) else (if (I1_18 105 14) = 24 then (kf_217 n dp e 1 I1_18 L1_18 0 0 0) else (if (0 : Int) = 2 then (if (I1_18 105 26) = 16 then (kf_217 n dp e 1 I1_18 L1_18 0 0 0) else (kf_217 n dp e 2 I1_18 L1_18 0 0 0)) else (kf_217 n dp e 2 I1_18 L1_18 0 0 0)))) else (kf_217 n dp e 2 I1_18 L1_18 0 0 0))))) else none) else (if (I0_4 105 13) = 0 then (if (2 : Int) = (-1) then (kf_217 n dp e 1 I0_4 L0_4 2 0 0) else (if (I0_4 105 14) = 24 then (kf_217 n dp e 1 I0_4 L0_4 2 0 0) else (if (2 : Int) = 2 then (if (I0_4 105 26) = 16 then (kf_217 n dp e 1 I0_4 L0_4 2 0 0) else (kf_217 n dp e 2 I0_4 L0_4 2 0 0)) else (kf_217 n dp e 2 I0_4 L0_4 2 0 0)))) else (kf_217 n dp e 2 I0_4 L0_4 2 0 0))))) else none)
    else if lab = 1 then (if 1 ≤ dp then ((kf_219 n (dp - 1) e 0 I L 0).bind (fun ⟨I0_81, L0_81⟩ => (kf_217 n dp e 2 I0_81 L0_81 i1 0 0))) else none)
    else if lab = 2 then (if (I 105 13) = 0 then (if 1 ≤ dp then ((kf_214 n (dp - 1) e 0 I L).bind (fun ⟨I0_93, L0_93⟩ => (if -2147483648 ≤ 8 * (I0_93 105 14) ∧ 8 * (I0_93 105 14) ≤ 2147483647 then (stI (8 * (I0_93 105 14)) (fun v_103 => (kf_217 n dp e 3 I0_93 L0_93 i1 v_103 0))) else none))) else none) else (some (I, L)))
    else if lab = 3 then (if 8 ≤ i3 then (if 0 ≤ i2 ∧ i2 < 192 then (stI (w2 I 111 i2 i1) (fun I_133 => (if -2147483648 ≤ i2 + 1 ∧ i2 + 1 ≤ 2147483647 then (if 0 ≤ (i2 + 1) ∧ (i2 + 1) < 192 then (stI (w2 I_133 111 (i2 + 1) (I_133 105 26)) (fun I_145 => (if -2147483648 ≤ (I_145 105 14) + 1 ∧ (I_145 105 14) + 1 ≤ 2147483647 then (stI (w2 I_145 105 14 ((I_145 105 14) + 1)) (fun I_153 => (if -2147483648 ≤ i2 + 3 ∧ i2 + 3 ≤ 2147483647 then (if 0 ≤ (i2 + 3) ∧ (i2 + 3) < 192 then (stI (w2 I_153 111 (i2 + 3) (I_153 105 16)) (fun I_167 => (if i1 = 2 then (if 1 ≤ dp then ((kf_220 n (dp - 1) e 0 I_167 L 0 0).bind (fun ⟨I0_174, L0_174⟩ => (kf_217 n dp e 4 I0_174 L0_174 i1 i2 i3))) else none) else (if 1 ≤ dp then ((kf_223 n (dp - 1) e 0 I_167 L 0 0).bind (fun ⟨I0_182, L0_182⟩ => (kf_217 n dp e 4 I0_182 L0_182 i1 i2 i3))) else none)))) else none) else none))) else none))) else none) else none))) else none) else (if -2147483648 ≤ i2 + i3 ∧ i2 + i3 ≤ 2147483647 then (if 0 ≤ (i2 + i3) ∧ (i2 + i3) < 192 then (stI (w2 I 111 (i2 + i3) 0) (fun I_120 => (if -2147483648 ≤ i3 + 1 ∧ i3 + 1 ≤ 2147483647 then (kf_217 n dp e 3 I_120 L i1 i2 (i3 + 1)) else none))) else none) else none))
    else if lab = 4 then (if -2147483648 ≤ i2 + 4 ∧ i2 + 4 ≤ 2147483647 then (if 0 ≤ (i2 + 4) ∧ (i2 + 4) < 192 then (stI (w2 I 111 (i2 + 4) (I 105 16)) (fun I_196 => (if -2147483648 ≤ i2 + 5 ∧ i2 + 5 ≤ 2147483647 then (if 0 ≤ (i2 + 5) ∧ (i2 + 5) < 192 then (stI (w2 I_196 111 (i2 + 5) (I_196 105 16)) (fun I_208 => (if (I_208 105 13) = 0 then (if 1 ≤ dp then ((kf_218 n (dp - 1) e 0 I_208 L 294).bind (fun ⟨x0_220, I0_220, L0_220⟩ => (if x0_220 = 0 then (kf_217 n dp e 5 I0_220 L0_220 i1 i2 i3) else (if 1 ≤ dp then ((kf_214 n (dp - 1) e 0 I0_220 L0_220).bind (fun ⟨I1_227, L1_227⟩ => (if 1 ≤ dp then ((kf_223 n (dp - 1) e 0 I1_227 L1_227 1 0).bind (fun ⟨I2_232, L2_232⟩ => (kf_217 n dp e 5 I2_232 L2_232 i1 i2 i3))) else none))) else none)))) else none) else (kf_217 n dp e 5 I_208 L i1 i2 i3)))) else none) else none))) else none) else none)
    else if lab = 5 then (if -2147483648 ≤ i2 + 6 ∧ i2 + 6 ≤ 2147483647 then (if 0 ≤ (i2 + 6) ∧ (i2 + 6) < 192 then (stI (w2 I 111 (i2 + 6) (I 105 16)) (fun I_247 => (some (I_247, L)))) else none) else none)
    else none
set_option maxRecDepth 100000 in
theorem ke_217_0 (n : Nat) (dp : Nat) (e : EN) (I : JI) (L : JI) (i1 : Int) (i2 : Int) (i3 : Int) : kf_217 (n + 1) dp e 0 I L i1 i2 i3 = (if 1 ≤ dp then ((kf_218 n (dp - 1) e 0 I L 3764).bind (fun ⟨x0_4, I0_4, L0_4⟩ => (if x0_4 = 0 then (if 1 ≤ dp then ((kf_218 n (dp - 1) e 0 I0_4 L0_4 14276022451).bind (fun ⟨x1_18, I1_18, L1_18⟩ => (if x1_18 = 0 then (if 1 ≤ dp then ((kf_218 n (dp - 1) e 0 I1_18 L1_18 20293004).bind (fun ⟨x2_32, I2_32, L2_32⟩ => (if x2_32 = 0 then (if (I2_32 105 13) = 0 then (if ((-1) : Int) = (-1) then (kf_217 n dp e 1 I2_32 L2_32 (-1) 0 0) else (if (I2_32 105 14) = 24 then (kf_217 n dp e 1 I2_32 L2_32 (-1) 0 0) else (if ((-1) : Int) = 2 then (if (I2_32 105 26) = 16 then (kf_217 n dp e 1 I2_32 L2_32 (-1) 0 0) else (kf_217 n dp e 2 I2_32 L2_32 (-1) 0 0)) else (kf_217 n dp e 2 I2_32 L2_32 (-1) 0 0)))) else (kf_217 n dp e 2 I2_32 L2_32 (-1) 0 0)) else (if (I2_32 105 13) = 0 then (if (1 : Int) = (-1) then (kf_217 n dp e 1 I2_32 L2_32 1 0 0) else (if (I2_32 105 14) = 24 then (kf_217 n dp e 1 I2_32 L2_32 1 0 0) else (if (1 : Int) = 2 then (if (I2_32 105 26) = 16 then (kf_217 n dp e 1 I2_32 L2_32 1 0 0) else (kf_217 n dp e 2 I2_32 L2_32 1 0 0)) else (kf_217 n dp e 2 I2_32 L2_32 1 0 0)))) else (kf_217 n dp e 2 I2_32 L2_32 1 0 0))))) else none) else (if (I1_18 105 13) = 0 then (if (0 : Int) = (-1) then (kf_217 n dp e 1 I1_18 L1_18 0 0 0) else (if (I1_18 105 14) = 24 then (kf_217 n dp e 1 I1_18 L1_18 0 0 0) else (if (0 : Int) = 2 then (if (I1_18 105 26) = 16 then (kf_217 n dp e 1 I1_18 L1_18 0 0 0) else (kf_217 n dp e 2 I1_18 L1_18 0 0 0)) else (kf_217 n dp e 2 I1_18 L1_18 0 0 0)))) else (kf_217 n dp e 2 I1_18 L1_18 0 0 0))))) else none) else (if (I0_4 105 13) = 0 then (if (2 : Int) = (-1) then (kf_217 n dp e 1 I0_4 L0_4 2 0 0) else (if (I0_4 105 14) = 24 then (kf_217 n dp e 1 I0_4 L0_4 2 0 0) else (if (2 : Int) = 2 then (if (I0_4 105 26) = 16 then (kf_217 n dp e 1 I0_4 L0_4 2 0 0) else (kf_217 n dp e 2 I0_4 L0_4 2 0 0)) else (kf_217 n dp e 2 I0_4 L0_4 2 0 0)))) else (kf_217 n dp e 2 I0_4 L0_4 2 0 0))))) else none) := by rw [kf_217.eq_2, if_pos (show (0 : Nat) = 0 from rfl)]
set_option maxRecDepth 100000 in
theorem ke_217_1 (n : Nat) (dp : Nat) (e : EN) (I : JI) (L : JI) (i1 : Int) (i2 : Int) (i3 : Int) : kf_217 (n + 1) dp e 1 I L i1 i2 i3 = (if 1 ≤ dp then ((kf_219 n (dp - 1) e 0 I L 0).bind (fun ⟨I0_81, L0_81⟩ => (kf_217 n dp e 2 I0_81 L0_81 i1 0 0))) else none) := by rw [kf_217.eq_2, if_neg (show ¬ ((1 : Nat) = 0) by decide), if_pos (show (1 : Nat) = 1 from rfl)]
set_option maxRecDepth 100000 in
theorem ke_217_2 (n : Nat) (dp : Nat) (e : EN) (I : JI) (L : JI) (i1 : Int) (i2 : Int) (i3 : Int) : kf_217 (n + 1) dp e 2 I L i1 i2 i3 = (if (I 105 13) = 0 then (if 1 ≤ dp then ((kf_214 n (dp - 1) e 0 I L).bind (fun ⟨I0_93, L0_93⟩ => (if -2147483648 ≤ 8 * (I0_93 105 14) ∧ 8 * (I0_93 105 14) ≤ 2147483647 then (stI (8 * (I0_93 105 14)) (fun v_103 => (kf_217 n dp e 3 I0_93 L0_93 i1 v_103 0))) else none))) else none) else (some (I, L))) := by rw [kf_217.eq_2, if_neg (show ¬ ((2 : Nat) = 0) by decide), if_neg (show ¬ ((2 : Nat) = 1) by decide), if_pos (show (2 : Nat) = 2 from rfl)]
set_option maxRecDepth 100000 in
theorem ke_217_3 (n : Nat) (dp : Nat) (e : EN) (I : JI) (L : JI) (i1 : Int) (i2 : Int) (i3 : Int) : kf_217 (n + 1) dp e 3 I L i1 i2 i3 = (if 8 ≤ i3 then (if 0 ≤ i2 ∧ i2 < 192 then (stI (w2 I 111 i2 i1) (fun I_133 => (if -2147483648 ≤ i2 + 1 ∧ i2 + 1 ≤ 2147483647 then (if 0 ≤ (i2 + 1) ∧ (i2 + 1) < 192 then (stI (w2 I_133 111 (i2 + 1) (I_133 105 26)) (fun I_145 => (if -2147483648 ≤ (I_145 105 14) + 1 ∧ (I_145 105 14) + 1 ≤ 2147483647 then (stI (w2 I_145 105 14 ((I_145 105 14) + 1)) (fun I_153 => (if -2147483648 ≤ i2 + 3 ∧ i2 + 3 ≤ 2147483647 then (if 0 ≤ (i2 + 3) ∧ (i2 + 3) < 192 then (stI (w2 I_153 111 (i2 + 3) (I_153 105 16)) (fun I_167 => (if i1 = 2 then (if 1 ≤ dp then ((kf_220 n (dp - 1) e 0 I_167 L 0 0).bind (fun ⟨I0_174, L0_174⟩ => (kf_217 n dp e 4 I0_174 L0_174 i1 i2 i3))) else none) else (if 1 ≤ dp then ((kf_223 n (dp - 1) e 0 I_167 L 0 0).bind (fun ⟨I0_182, L0_182⟩ => (kf_217 n dp e 4 I0_182 L0_182 i1 i2 i3))) else none)))) else none) else none))) else none))) else none) else none))) else none) else (if -2147483648 ≤ i2 + i3 ∧ i2 + i3 ≤ 2147483647 then (if 0 ≤ (i2 + i3) ∧ (i2 + i3) < 192 then (stI (w2 I 111 (i2 + i3) 0) (fun I_120 => (if -2147483648 ≤ i3 + 1 ∧ i3 + 1 ≤ 2147483647 then (kf_217 n dp e 3 I_120 L i1 i2 (i3 + 1)) else none))) else none) else none)) := by rw [kf_217.eq_2, if_neg (show ¬ ((3 : Nat) = 0) by decide), if_neg (show ¬ ((3 : Nat) = 1) by decide), if_neg (show ¬ ((3 : Nat) = 2) by decide), if_pos (show (3 : Nat) = 3 from rfl)]
set_option maxRecDepth 100000 in
theorem ke_217_4 (n : Nat) (dp : Nat) (e : EN) (I : JI) (L : JI) (i1 : Int) (i2 : Int) (i3 : Int) : kf_217 (n + 1) dp e 4 I L i1 i2 i3 = (if -2147483648 ≤ i2 + 4 ∧ i2 + 4 ≤ 2147483647 then (if 0 ≤ (i2 + 4) ∧ (i2 + 4) < 192 then (stI (w2 I 111 (i2 + 4) (I 105 16)) (fun I_196 => (if -2147483648 ≤ i2 + 5 ∧ i2 + 5 ≤ 2147483647 then (if 0 ≤ (i2 + 5) ∧ (i2 + 5) < 192 then (stI (w2 I_196 111 (i2 + 5) (I_196 105 16)) (fun I_208 => (if (I_208 105 13) = 0 then (if 1 ≤ dp then ((kf_218 n (dp - 1) e 0 I_208 L 294).bind (fun ⟨x0_220, I0_220, L0_220⟩ => (if x0_220 = 0 then (kf_217 n dp e 5 I0_220 L0_220 i1 i2 i3) else (if 1 ≤ dp then ((kf_214 n (dp - 1) e 0 I0_220 L0_220).bind (fun ⟨I1_227, L1_227⟩ => (if 1 ≤ dp then ((kf_223 n (dp - 1) e 0 I1_227 L1_227 1 0).bind (fun ⟨I2_232, L2_232⟩ => (kf_217 n dp e 5 I2_232 L2_232 i1 i2 i3))) else none))) else none)))) else none) else (kf_217 n dp e 5 I_208 L i1 i2 i3)))) else none) else none))) else none) else none) := by rw [kf_217.eq_2, if_neg (show ¬ ((4 : Nat) = 0) by decide), if_neg (show ¬ ((4 : Nat) = 1) by decide), if_neg (show ¬ ((4 : Nat) = 2) by decide), if_neg (show ¬ ((4 : Nat) = 3) by decide), if_pos (show (4 : Nat) = 4 from rfl)]
set_option maxRecDepth 100000 in
theorem ke_217_5 (n : Nat) (dp : Nat) (e : EN) (I : JI) (L : JI) (i1 : Int) (i2 : Int) (i3 : Int) : kf_217 (n + 1) dp e 5 I L i1 i2 i3 = (if -2147483648 ≤ i2 + 6 ∧ i2 + 6 ≤ 2147483647 then (if 0 ≤ (i2 + 6) ∧ (i2 + 6) < 192 then (stI (w2 I 111 (i2 + 6) (I 105 16)) (fun I_247 => (some (I_247, L)))) else none) else none) := by rw [kf_217.eq_2, if_neg (show ¬ ((5 : Nat) = 0) by decide), if_neg (show ¬ ((5 : Nat) = 1) by decide), if_neg (show ¬ ((5 : Nat) = 2) by decide), if_neg (show ¬ ((5 : Nat) = 3) by decide), if_neg (show ¬ ((5 : Nat) = 4) by decide), if_pos (show (5 : Nat) = 5 from rfl)]
set_option maxHeartbeats 8000000 in
set_option maxRecDepth 100000 in
theorem ks_217 : ∀ (n : Nat) (dp : Nat) (e : EN) (lab : Nat) (I : Nat → Nat → Int32) (I' : JI) (L : Nat → Nat → Int64) (L' : JI) (i1 : Int32) (i1' : Int) (i2 : Int32) (i2' : Int) (i3 : Int32) (i3' : Int), Rli I I' → Rll L L' → Ui i1 i1' → Ui i2 i2' → Ui i3 i3' → Sim R2 (g_217 n dp e lab I L i1 i2 i3) (kf_217 n dp e lab I' L' i1' i2' i3') := by
  intro n
  induction n with
  | zero => intros; rw [kf_217.eq_1]; exact Sn
  | succ n ih =>
    intro dp e lab I I' L L' i1 i1' i2 i2' i3 i3' u_I u_L u_i1 u_i2 u_i3
    rw [g_217.eq_2, kf_217.eq_2]
    refine Sc Iff.rfl (fun _ => ?_) (fun _ => ?_)
    · refine Sc Iff.rfl (fun c1 => ?_) (fun _ => Sn)
      refine Sb3 (ks_218 n (dp - 1) e 0 _ _ _ _ _ _ u_I u_L (rfl : Ul (3764) (3764))) (fun x0_4 x0_4' I0_4 I0_4' L0_4 L0_4' u_x0_4 u_I0_4 u_L0_4 => ?_)
      refine Sc (eq_up u_x0_4 (rfl : Ui 0 0)) (fun c2 => ?_) (fun c2 => ?_)
      · refine Sc Iff.rfl (fun c3 => ?_) (fun _ => Sn)
        refine Sb3 (ks_218 n (dp - 1) e 0 _ _ _ _ _ _ u_I0_4 u_L0_4 (rfl : Ul (14276022451) (14276022451))) (fun x1_18 x1_18' I1_18 I1_18' L1_18 L1_18' u_x1_18 u_I1_18 u_L1_18 => ?_)
        refine Sc (eq_up u_x1_18 (rfl : Ui 0 0)) (fun c4 => ?_) (fun c4 => ?_)
        · refine Sc Iff.rfl (fun c5 => ?_) (fun _ => Sn)
          refine Sb3 (ks_218 n (dp - 1) e 0 _ _ _ _ _ _ u_I1_18 u_L1_18 (rfl : Ul (20293004) (20293004))) (fun x2_32 x2_32' I2_32 I2_32' L2_32 L2_32' u_x2_32 u_I2_32 u_L2_32 => ?_)
          refine Sc (eq_up u_x2_32 (rfl : Ui 0 0)) (fun c6 => ?_) (fun c6 => ?_)
          · refine Sc (eq_up (u_I2_32 105 13) (rfl : Ui 0 0)) (fun c7 => ?_) (fun c7 => ?_)
            · refine Sc (eq_up (rfl : Ui (-1) (-1)) (rfl : Ui (-1) (-1))) (fun c8 => ?_) (fun c8 => ?_)
              · exact (ih dp e 1 _ _ _ _ _ _ _ _ _ _ u_I2_32 u_L2_32 (rfl : Ui (-1) (-1)) (rfl : Ui 0 0) (rfl : Ui 0 0))
              · refine Sc (eq_up (u_I2_32 105 14) (rfl : Ui (24) (24))) (fun c9 => ?_) (fun c9 => ?_)
                · exact (ih dp e 1 _ _ _ _ _ _ _ _ _ _ u_I2_32 u_L2_32 (rfl : Ui (-1) (-1)) (rfl : Ui 0 0) (rfl : Ui 0 0))
                · refine Sc (eq_up (rfl : Ui (-1) (-1)) (rfl : Ui (2) (2))) (fun c10 => ?_) (fun c10 => ?_)
                  · refine Sc (eq_up (u_I2_32 105 26) (rfl : Ui (16) (16))) (fun c11 => ?_) (fun c11 => ?_)
                    · exact (ih dp e 1 _ _ _ _ _ _ _ _ _ _ u_I2_32 u_L2_32 (rfl : Ui (-1) (-1)) (rfl : Ui 0 0) (rfl : Ui 0 0))
                    · exact (ih dp e 2 _ _ _ _ _ _ _ _ _ _ u_I2_32 u_L2_32 (rfl : Ui (-1) (-1)) (rfl : Ui 0 0) (rfl : Ui 0 0))
                  · exact (ih dp e 2 _ _ _ _ _ _ _ _ _ _ u_I2_32 u_L2_32 (rfl : Ui (-1) (-1)) (rfl : Ui 0 0) (rfl : Ui 0 0))
            · exact (ih dp e 2 _ _ _ _ _ _ _ _ _ _ u_I2_32 u_L2_32 (rfl : Ui (-1) (-1)) (rfl : Ui 0 0) (rfl : Ui 0 0))
          · refine Sc (eq_up (u_I2_32 105 13) (rfl : Ui 0 0)) (fun c12 => ?_) (fun c12 => ?_)
            · refine Sc (eq_up (rfl : Ui (1) (1)) (rfl : Ui (-1) (-1))) (fun c13 => ?_) (fun c13 => ?_)
              · exact (ih dp e 1 _ _ _ _ _ _ _ _ _ _ u_I2_32 u_L2_32 (rfl : Ui (1) (1)) (rfl : Ui 0 0) (rfl : Ui 0 0))
              · refine Sc (eq_up (u_I2_32 105 14) (rfl : Ui (24) (24))) (fun c14 => ?_) (fun c14 => ?_)
                · exact (ih dp e 1 _ _ _ _ _ _ _ _ _ _ u_I2_32 u_L2_32 (rfl : Ui (1) (1)) (rfl : Ui 0 0) (rfl : Ui 0 0))
                · refine Sc (eq_up (rfl : Ui (1) (1)) (rfl : Ui (2) (2))) (fun c15 => ?_) (fun c15 => ?_)
                  · refine Sc (eq_up (u_I2_32 105 26) (rfl : Ui (16) (16))) (fun c16 => ?_) (fun c16 => ?_)
                    · exact (ih dp e 1 _ _ _ _ _ _ _ _ _ _ u_I2_32 u_L2_32 (rfl : Ui (1) (1)) (rfl : Ui 0 0) (rfl : Ui 0 0))
                    · exact (ih dp e 2 _ _ _ _ _ _ _ _ _ _ u_I2_32 u_L2_32 (rfl : Ui (1) (1)) (rfl : Ui 0 0) (rfl : Ui 0 0))
                  · exact (ih dp e 2 _ _ _ _ _ _ _ _ _ _ u_I2_32 u_L2_32 (rfl : Ui (1) (1)) (rfl : Ui 0 0) (rfl : Ui 0 0))
            · exact (ih dp e 2 _ _ _ _ _ _ _ _ _ _ u_I2_32 u_L2_32 (rfl : Ui (1) (1)) (rfl : Ui 0 0) (rfl : Ui 0 0))
        · refine Sc (eq_up (u_I1_18 105 13) (rfl : Ui 0 0)) (fun c17 => ?_) (fun c17 => ?_)
          · refine Sc (eq_up (rfl : Ui (0) (0)) (rfl : Ui (-1) (-1))) (fun c18 => ?_) (fun c18 => ?_)
            · exact (ih dp e 1 _ _ _ _ _ _ _ _ _ _ u_I1_18 u_L1_18 (rfl : Ui (0) (0)) (rfl : Ui 0 0) (rfl : Ui 0 0))
            · refine Sc (eq_up (u_I1_18 105 14) (rfl : Ui (24) (24))) (fun c19 => ?_) (fun c19 => ?_)
              · exact (ih dp e 1 _ _ _ _ _ _ _ _ _ _ u_I1_18 u_L1_18 (rfl : Ui (0) (0)) (rfl : Ui 0 0) (rfl : Ui 0 0))
              · refine Sc (eq_up (rfl : Ui (0) (0)) (rfl : Ui (2) (2))) (fun c20 => ?_) (fun c20 => ?_)
                · refine Sc (eq_up (u_I1_18 105 26) (rfl : Ui (16) (16))) (fun c21 => ?_) (fun c21 => ?_)
                  · exact (ih dp e 1 _ _ _ _ _ _ _ _ _ _ u_I1_18 u_L1_18 (rfl : Ui (0) (0)) (rfl : Ui 0 0) (rfl : Ui 0 0))
                  · exact (ih dp e 2 _ _ _ _ _ _ _ _ _ _ u_I1_18 u_L1_18 (rfl : Ui (0) (0)) (rfl : Ui 0 0) (rfl : Ui 0 0))
                · exact (ih dp e 2 _ _ _ _ _ _ _ _ _ _ u_I1_18 u_L1_18 (rfl : Ui (0) (0)) (rfl : Ui 0 0) (rfl : Ui 0 0))
          · exact (ih dp e 2 _ _ _ _ _ _ _ _ _ _ u_I1_18 u_L1_18 (rfl : Ui (0) (0)) (rfl : Ui 0 0) (rfl : Ui 0 0))
      · refine Sc (eq_up (u_I0_4 105 13) (rfl : Ui 0 0)) (fun c22 => ?_) (fun c22 => ?_)
        · refine Sc (eq_up (rfl : Ui (2) (2)) (rfl : Ui (-1) (-1))) (fun c23 => ?_) (fun c23 => ?_)
          · exact (ih dp e 1 _ _ _ _ _ _ _ _ _ _ u_I0_4 u_L0_4 (rfl : Ui (2) (2)) (rfl : Ui 0 0) (rfl : Ui 0 0))
          · refine Sc (eq_up (u_I0_4 105 14) (rfl : Ui (24) (24))) (fun c24 => ?_) (fun c24 => ?_)
            · exact (ih dp e 1 _ _ _ _ _ _ _ _ _ _ u_I0_4 u_L0_4 (rfl : Ui (2) (2)) (rfl : Ui 0 0) (rfl : Ui 0 0))
            · refine Sc (eq_up (rfl : Ui (2) (2)) (rfl : Ui (2) (2))) (fun c25 => ?_) (fun c25 => ?_)
              · refine Sc (eq_up (u_I0_4 105 26) (rfl : Ui (16) (16))) (fun c26 => ?_) (fun c26 => ?_)
                · exact (ih dp e 1 _ _ _ _ _ _ _ _ _ _ u_I0_4 u_L0_4 (rfl : Ui (2) (2)) (rfl : Ui 0 0) (rfl : Ui 0 0))
                · exact (ih dp e 2 _ _ _ _ _ _ _ _ _ _ u_I0_4 u_L0_4 (rfl : Ui (2) (2)) (rfl : Ui 0 0) (rfl : Ui 0 0))
              · exact (ih dp e 2 _ _ _ _ _ _ _ _ _ _ u_I0_4 u_L0_4 (rfl : Ui (2) (2)) (rfl : Ui 0 0) (rfl : Ui 0 0))
        · exact (ih dp e 2 _ _ _ _ _ _ _ _ _ _ u_I0_4 u_L0_4 (rfl : Ui (2) (2)) (rfl : Ui 0 0) (rfl : Ui 0 0))
    refine Sc Iff.rfl (fun _ => ?_) (fun _ => ?_)
    · refine Sc Iff.rfl (fun c1 => ?_) (fun _ => Sn)
      refine Sb2 (ks_219 n (dp - 1) e 0 _ _ _ _ _ _ u_I u_L (rfl : Ui (0) (0))) (fun I0_81 I0_81' L0_81 L0_81' u_I0_81 u_L0_81 => ?_)
      exact (ih dp e 2 _ _ _ _ _ _ _ _ _ _ u_I0_81 u_L0_81 u_i1 (rfl : Ui 0 0) (rfl : Ui 0 0))
    refine Sc Iff.rfl (fun _ => ?_) (fun _ => ?_)
    · refine Sc (eq_up (u_I 105 13) (rfl : Ui 0 0)) (fun c1 => ?_) (fun c1 => ?_)
      · refine Sc Iff.rfl (fun c2 => ?_) (fun _ => Sn)
        refine Sb2 (ks_214 n (dp - 1) e 0 _ _ _ _ u_I u_L) (fun I0_93 I0_93' L0_93 L0_93' u_I0_93 u_L0_93 => ?_)
        refine Sg (fun g3 => ?_)
        refine SsI (ui_mul (rfl : Ui (8) (8)) (u_I0_93 105 14) g3) (fun v_103 v_103' u_v_103 => ?_)
        exact (ih dp e 3 _ _ _ _ _ _ _ _ _ _ u_I0_93 u_L0_93 u_i1 u_v_103 (rfl : Ui (0) (0)))
      · exact Sr ⟨u_I, u_L⟩
    refine Sc Iff.rfl (fun _ => ?_) (fun _ => ?_)
    · refine Sc (le_up (rfl : Ui (8) (8)) u_i3) (fun c1 => ?_) (fun c1 => ?_)
      · refine Sc (ix_up u_i2) (fun c2 => ?_) (fun _ => Sn)
        refine SsJ (ri_up u_I (kc_up u_i2 c2.1) u_i1) (fun I_133 I_133' u_I_133 => ?_)
        refine Sg (fun g3 => ?_)
        refine Sc (ix_up (ui_add u_i2 (rfl : Ui (1) (1)) g3)) (fun c4 => ?_) (fun _ => Sn)
        refine SsJ (ri_up u_I_133 (kc_up (ui_add u_i2 (rfl : Ui (1) (1)) g3) c4.1) (u_I_133 105 26)) (fun I_145 I_145' u_I_145 => ?_)
        refine Sg (fun g5 => ?_)
        refine SsJ (ri_up u_I_145 (rfl : ((14 : Nat) : Int) = 14) (ui_add (u_I_145 105 14) (rfl : Ui (1) (1)) g5)) (fun I_153 I_153' u_I_153 => ?_)
        refine Sg (fun g6 => ?_)
        refine Sc (ix_up (ui_add u_i2 (rfl : Ui (3) (3)) g6)) (fun c7 => ?_) (fun _ => Sn)
        refine SsJ (ri_up u_I_153 (kc_up (ui_add u_i2 (rfl : Ui (3) (3)) g6) c7.1) (u_I_153 105 16)) (fun I_167 I_167' u_I_167 => ?_)
        refine Sc (eq_up u_i1 (rfl : Ui (2) (2))) (fun c8 => ?_) (fun c8 => ?_)
        · refine Sc Iff.rfl (fun c9 => ?_) (fun _ => Sn)
          refine Sb2 (ks_220 n (dp - 1) e 0 _ _ _ _ _ _ _ _ u_I_167 u_L (rfl : Ui 0 0) (rfl : Ui 0 0)) (fun I0_174 I0_174' L0_174 L0_174' u_I0_174 u_L0_174 => ?_)
          exact (ih dp e 4 _ _ _ _ _ _ _ _ _ _ u_I0_174 u_L0_174 u_i1 u_i2 u_i3)
        · refine Sc Iff.rfl (fun c10 => ?_) (fun _ => Sn)
          refine Sb2 (ks_223 n (dp - 1) e 0 _ _ _ _ _ _ _ _ u_I_167 u_L (rfl : Ui (0) (0)) (rfl : Ui 0 0)) (fun I0_182 I0_182' L0_182 L0_182' u_I0_182 u_L0_182 => ?_)
          exact (ih dp e 4 _ _ _ _ _ _ _ _ _ _ u_I0_182 u_L0_182 u_i1 u_i2 u_i3)
      · refine Sg (fun g11 => ?_)
        refine Sc (ix_up (ui_add u_i2 u_i3 g11)) (fun c12 => ?_) (fun _ => Sn)
        refine SsJ (ri_up u_I (kc_up (ui_add u_i2 u_i3 g11) c12.1) (rfl : Ui (0) (0))) (fun I_120 I_120' u_I_120 => ?_)
        refine Sg (fun g13 => ?_)
        exact (ih dp e 3 _ _ _ _ _ _ _ _ _ _ u_I_120 u_L u_i1 u_i2 (ui_add u_i3 (rfl : Ui (Int32.ofInt (1)) (1)) g13))
    refine Sc Iff.rfl (fun _ => ?_) (fun _ => ?_)
    · refine Sg (fun g1 => ?_)
      refine Sc (ix_up (ui_add u_i2 (rfl : Ui (4) (4)) g1)) (fun c2 => ?_) (fun _ => Sn)
      refine SsJ (ri_up u_I (kc_up (ui_add u_i2 (rfl : Ui (4) (4)) g1) c2.1) (u_I 105 16)) (fun I_196 I_196' u_I_196 => ?_)
      refine Sg (fun g3 => ?_)
      refine Sc (ix_up (ui_add u_i2 (rfl : Ui (5) (5)) g3)) (fun c4 => ?_) (fun _ => Sn)
      refine SsJ (ri_up u_I_196 (kc_up (ui_add u_i2 (rfl : Ui (5) (5)) g3) c4.1) (u_I_196 105 16)) (fun I_208 I_208' u_I_208 => ?_)
      refine Sc (eq_up (u_I_208 105 13) (rfl : Ui 0 0)) (fun c5 => ?_) (fun c5 => ?_)
      · refine Sc Iff.rfl (fun c6 => ?_) (fun _ => Sn)
        refine Sb3 (ks_218 n (dp - 1) e 0 _ _ _ _ _ _ u_I_208 u_L (rfl : Ul (294) (294))) (fun x0_220 x0_220' I0_220 I0_220' L0_220 L0_220' u_x0_220 u_I0_220 u_L0_220 => ?_)
        refine Sc (eq_up u_x0_220 (rfl : Ui 0 0)) (fun c7 => ?_) (fun c7 => ?_)
        · exact (ih dp e 5 _ _ _ _ _ _ _ _ _ _ u_I0_220 u_L0_220 u_i1 u_i2 u_i3)
        · refine Sc Iff.rfl (fun c8 => ?_) (fun _ => Sn)
          refine Sb2 (ks_214 n (dp - 1) e 0 _ _ _ _ u_I0_220 u_L0_220) (fun I1_227 I1_227' L1_227 L1_227' u_I1_227 u_L1_227 => ?_)
          refine Sc Iff.rfl (fun c9 => ?_) (fun _ => Sn)
          refine Sb2 (ks_223 n (dp - 1) e 0 _ _ _ _ _ _ _ _ u_I1_227 u_L1_227 (rfl : Ui (1) (1)) (rfl : Ui 0 0)) (fun I2_232 I2_232' L2_232 L2_232' u_I2_232 u_L2_232 => ?_)
          exact (ih dp e 5 _ _ _ _ _ _ _ _ _ _ u_I2_232 u_L2_232 u_i1 u_i2 u_i3)
      · exact (ih dp e 5 _ _ _ _ _ _ _ _ _ _ u_I_208 u_L u_i1 u_i2 u_i3)
    refine Sc Iff.rfl (fun _ => ?_) (fun _ => ?_)
    · refine Sg (fun g1 => ?_)
      refine Sc (ix_up (ui_add u_i2 (rfl : Ui (6) (6)) g1)) (fun c2 => ?_) (fun _ => Sn)
      refine SsJ (ri_up u_I (kc_up (ui_add u_i2 (rfl : Ui (6) (6)) g1) c2.1) (u_I 105 16)) (fun I_247 I_247' u_I_247 => ?_)
      exact Sr ⟨u_I_247, u_L⟩
    exact Sn
set_option maxHeartbeats 4000000 in
set_option maxRecDepth 100000 in
def kf_212 : Nat → Nat → EN → Nat → JI → JI → Int → Option (Int × JI × JI)
  | 0, _, _, _, _, _, _ => none
  | n + 1, dp, e, lab, I, L, i1 =>
    if lab = 0 then (stI (w2 I 105 0 0) (fun I_2 => (if 1 ≤ dp then ((kf_213 n (dp - 1) e 0 I_2 L).bind (fun ⟨I0_6, L0_6⟩ => (stI (w2 I0_6 105 14 0) (fun I_11 => (stI (w2 I_11 105 16 0) (fun I_16 => (stI (w2 I_16 105 19 0) (fun I_21 => (stI (w2 I_21 105 26 0) (fun I_26 => (if 1 ≤ dp then ((kf_217 n (dp - 1) e 0 I_26 L0_6 0 0 0).bind (fun ⟨I1_30, L1_30⟩ => (kf_212 n dp e 1 I1_30 L1_30 0))) else none))))))))))) else none)))
    else if lab = 1 then (if (I 105 13) = 0 then (if 1 ≤ dp then ((kf_226 n (dp - 1) e 0 I L 59).bind (fun ⟨x0_43, I0_43, L0_43⟩ => (if x0_43 = 0 then (kf_212 n dp e 2 I0_43 L0_43 0) else (if 1 ≤ dp then ((kf_214 n (dp - 1) e 0 I0_43 L0_43).bind (fun ⟨I1_50, L1_50⟩ => (if 1 ≤ dp then ((kf_217 n (dp - 1) e 0 I1_50 L1_50 0 0 0).bind (fun ⟨I2_54, L2_54⟩ => (kf_212 n dp e 1 I2_54 L2_54 0))) else none))) else none)))) else none) else (kf_212 n dp e 2 I L 0))
    else if lab = 2 then (if (I 105 13) = 0 then (if (I 105 10) = 0 then (kf_212 n dp e 3 I L 0) else (if 1 ≤ dp then ((kf_219 n (dp - 1) e 0 I L 0).bind (fun ⟨I0_76, L0_76⟩ => (kf_212 n dp e 3 I0_76 L0_76 0))) else none)) else (kf_212 n dp e 3 I L 0))
    else if lab = 3 then (stI (w2 I 105 7 0) (fun I_81 => (if (I_81 105 13) = 0 then (stI (w2 I_81 107 8 (I_81 105 14)) (fun I_108 => (stI (w2 I_108 107 9 (I_108 105 26)) (fun I_119 => (kf_212 n dp e 4 I_119 L 0))))) else (if 1 ≤ dp then ((kf_194 n (dp - 1) e 0 I_81 L (-6)).bind (fun ⟨x0_94, I0_94, L0_94⟩ => (some ((x0_94 : Int), I0_94, L0_94)))) else none))))
    else if lab = 4 then (if -2147483648 ≤ 11 * (I 105 26) ∧ 11 * (I 105 26) ≤ 2147483647 then (if (11 * (I 105 26)) ≤ i1 then (stI (w2 I 107 471 (I 105 14)) (fun I_166 => (kf_212 n dp e 5 I_166 L 0))) else (if 0 ≤ i1 ∧ i1 < 176 then (if -2147483648 ≤ 290 + i1 ∧ 290 + i1 ≤ 2147483647 then (if 0 ≤ (290 + i1) ∧ (290 + i1) < 1570 then (stI (w2 I 107 (290 + i1) (I 117 i1)) (fun I_148 => (if -2147483648 ≤ i1 + 1 ∧ i1 + 1 ≤ 2147483647 then (kf_212 n dp e 4 I_148 L (i1 + 1)) else none))) else none) else none) else none)) else none)
    else if lab = 5 then (if -2147483648 ≤ 8 * (I 105 14) ∧ 8 * (I 105 14) ≤ 2147483647 then (if (8 * (I 105 14)) ≤ i1 then (kf_212 n dp e 6 I L 0) else (if 0 ≤ i1 ∧ i1 < 192 then (if -2147483648 ≤ 472 + i1 ∧ 472 + i1 ≤ 2147483647 then (if 0 ≤ (472 + i1) ∧ (472 + i1) < 1570 then (stI (w2 I 107 (472 + i1) (I 111 i1)) (fun I_195 => (if -2147483648 ≤ i1 + 1 ∧ i1 + 1 ≤ 2147483647 then (kf_212 n dp e 5 I_195 L (i1 + 1)) else none))) else none) else none) else none)) else none)
    else if lab = 6 then (if (I 105 16) ≤ i1 then (if 1 ≤ dp then ((kf_194 n (dp - 1) e 0 I L (I 105 14)).bind (fun ⟨x0_261, I0_261, L0_261⟩ => (some ((x0_261 : Int), I0_261, L0_261)))) else none) else (if 0 ≤ i1 ∧ i1 < 400 then (if (-2147483648 ≤ 2 * i1 ∧ 2 * i1 ≤ 2147483647) ∧ (-2147483648 ≤ 664 + (2 * i1) ∧ 664 + (2 * i1) ≤ 2147483647) then (if 0 ≤ (664 + (2 * i1)) ∧ (664 + (2 * i1)) < 1570 then (stI (w2 I 107 (664 + (2 * i1)) (I 112 i1)) (fun I_229 => (if 0 ≤ i1 ∧ i1 < 400 then (if -2147483648 ≤ (664 + (2 * i1)) + 1 ∧ (664 + (2 * i1)) + 1 ≤ 2147483647 then (if 0 ≤ ((664 + (2 * i1)) + 1) ∧ ((664 + (2 * i1)) + 1) < 1570 then (stI (w2 I_229 107 ((664 + (2 * i1)) + 1) (I_229 113 i1)) (fun I_249 => (if -2147483648 ≤ i1 + 1 ∧ i1 + 1 ≤ 2147483647 then (kf_212 n dp e 6 I_249 L (i1 + 1)) else none))) else none) else none) else none))) else none) else none) else none))
    else none
set_option maxRecDepth 100000 in
theorem ke_212_0 (n : Nat) (dp : Nat) (e : EN) (I : JI) (L : JI) (i1 : Int) : kf_212 (n + 1) dp e 0 I L i1 = (stI (w2 I 105 0 0) (fun I_2 => (if 1 ≤ dp then ((kf_213 n (dp - 1) e 0 I_2 L).bind (fun ⟨I0_6, L0_6⟩ => (stI (w2 I0_6 105 14 0) (fun I_11 => (stI (w2 I_11 105 16 0) (fun I_16 => (stI (w2 I_16 105 19 0) (fun I_21 => (stI (w2 I_21 105 26 0) (fun I_26 => (if 1 ≤ dp then ((kf_217 n (dp - 1) e 0 I_26 L0_6 0 0 0).bind (fun ⟨I1_30, L1_30⟩ => (kf_212 n dp e 1 I1_30 L1_30 0))) else none))))))))))) else none))) := by rw [kf_212.eq_2, if_pos (show (0 : Nat) = 0 from rfl)]
set_option maxRecDepth 100000 in
theorem ke_212_1 (n : Nat) (dp : Nat) (e : EN) (I : JI) (L : JI) (i1 : Int) : kf_212 (n + 1) dp e 1 I L i1 = (if (I 105 13) = 0 then (if 1 ≤ dp then ((kf_226 n (dp - 1) e 0 I L 59).bind (fun ⟨x0_43, I0_43, L0_43⟩ => (if x0_43 = 0 then (kf_212 n dp e 2 I0_43 L0_43 0) else (if 1 ≤ dp then ((kf_214 n (dp - 1) e 0 I0_43 L0_43).bind (fun ⟨I1_50, L1_50⟩ => (if 1 ≤ dp then ((kf_217 n (dp - 1) e 0 I1_50 L1_50 0 0 0).bind (fun ⟨I2_54, L2_54⟩ => (kf_212 n dp e 1 I2_54 L2_54 0))) else none))) else none)))) else none) else (kf_212 n dp e 2 I L 0)) := by rw [kf_212.eq_2, if_neg (show ¬ ((1 : Nat) = 0) by decide), if_pos (show (1 : Nat) = 1 from rfl)]
set_option maxRecDepth 100000 in
theorem ke_212_2 (n : Nat) (dp : Nat) (e : EN) (I : JI) (L : JI) (i1 : Int) : kf_212 (n + 1) dp e 2 I L i1 = (if (I 105 13) = 0 then (if (I 105 10) = 0 then (kf_212 n dp e 3 I L 0) else (if 1 ≤ dp then ((kf_219 n (dp - 1) e 0 I L 0).bind (fun ⟨I0_76, L0_76⟩ => (kf_212 n dp e 3 I0_76 L0_76 0))) else none)) else (kf_212 n dp e 3 I L 0)) := by rw [kf_212.eq_2, if_neg (show ¬ ((2 : Nat) = 0) by decide), if_neg (show ¬ ((2 : Nat) = 1) by decide), if_pos (show (2 : Nat) = 2 from rfl)]
set_option maxRecDepth 100000 in
theorem ke_212_3 (n : Nat) (dp : Nat) (e : EN) (I : JI) (L : JI) (i1 : Int) : kf_212 (n + 1) dp e 3 I L i1 = (stI (w2 I 105 7 0) (fun I_81 => (if (I_81 105 13) = 0 then (stI (w2 I_81 107 8 (I_81 105 14)) (fun I_108 => (stI (w2 I_108 107 9 (I_108 105 26)) (fun I_119 => (kf_212 n dp e 4 I_119 L 0))))) else (if 1 ≤ dp then ((kf_194 n (dp - 1) e 0 I_81 L (-6)).bind (fun ⟨x0_94, I0_94, L0_94⟩ => (some ((x0_94 : Int), I0_94, L0_94)))) else none)))) := by rw [kf_212.eq_2, if_neg (show ¬ ((3 : Nat) = 0) by decide), if_neg (show ¬ ((3 : Nat) = 1) by decide), if_neg (show ¬ ((3 : Nat) = 2) by decide), if_pos (show (3 : Nat) = 3 from rfl)]
set_option maxRecDepth 100000 in
theorem ke_212_4 (n : Nat) (dp : Nat) (e : EN) (I : JI) (L : JI) (i1 : Int) : kf_212 (n + 1) dp e 4 I L i1 = (if -2147483648 ≤ 11 * (I 105 26) ∧ 11 * (I 105 26) ≤ 2147483647 then (if (11 * (I 105 26)) ≤ i1 then (stI (w2 I 107 471 (I 105 14)) (fun I_166 => (kf_212 n dp e 5 I_166 L 0))) else (if 0 ≤ i1 ∧ i1 < 176 then (if -2147483648 ≤ 290 + i1 ∧ 290 + i1 ≤ 2147483647 then (if 0 ≤ (290 + i1) ∧ (290 + i1) < 1570 then (stI (w2 I 107 (290 + i1) (I 117 i1)) (fun I_148 => (if -2147483648 ≤ i1 + 1 ∧ i1 + 1 ≤ 2147483647 then (kf_212 n dp e 4 I_148 L (i1 + 1)) else none))) else none) else none) else none)) else none) := by rw [kf_212.eq_2, if_neg (show ¬ ((4 : Nat) = 0) by decide), if_neg (show ¬ ((4 : Nat) = 1) by decide), if_neg (show ¬ ((4 : Nat) = 2) by decide), if_neg (show ¬ ((4 : Nat) = 3) by decide), if_pos (show (4 : Nat) = 4 from rfl)]
set_option maxRecDepth 100000 in
theorem ke_212_5 (n : Nat) (dp : Nat) (e : EN) (I : JI) (L : JI) (i1 : Int) : kf_212 (n + 1) dp e 5 I L i1 = (if -2147483648 ≤ 8 * (I 105 14) ∧ 8 * (I 105 14) ≤ 2147483647 then (if (8 * (I 105 14)) ≤ i1 then (kf_212 n dp e 6 I L 0) else (if 0 ≤ i1 ∧ i1 < 192 then (if -2147483648 ≤ 472 + i1 ∧ 472 + i1 ≤ 2147483647 then (if 0 ≤ (472 + i1) ∧ (472 + i1) < 1570 then (stI (w2 I 107 (472 + i1) (I 111 i1)) (fun I_195 => (if -2147483648 ≤ i1 + 1 ∧ i1 + 1 ≤ 2147483647 then (kf_212 n dp e 5 I_195 L (i1 + 1)) else none))) else none) else none) else none)) else none) := by rw [kf_212.eq_2, if_neg (show ¬ ((5 : Nat) = 0) by decide), if_neg (show ¬ ((5 : Nat) = 1) by decide), if_neg (show ¬ ((5 : Nat) = 2) by decide), if_neg (show ¬ ((5 : Nat) = 3) by decide), if_neg (show ¬ ((5 : Nat) = 4) by decide), if_pos (show (5 : Nat) = 5 from rfl)]
set_option maxRecDepth 100000 in
theorem ke_212_6 (n : Nat) (dp : Nat) (e : EN) (I : JI) (L : JI) (i1 : Int) : kf_212 (n + 1) dp e 6 I L i1 = (if (I 105 16) ≤ i1 then (if 1 ≤ dp then ((kf_194 n (dp - 1) e 0 I L (I 105 14)).bind (fun ⟨x0_261, I0_261, L0_261⟩ => (some ((x0_261 : Int), I0_261, L0_261)))) else none) else (if 0 ≤ i1 ∧ i1 < 400 then (if (-2147483648 ≤ 2 * i1 ∧ 2 * i1 ≤ 2147483647) ∧ (-2147483648 ≤ 664 + (2 * i1) ∧ 664 + (2 * i1) ≤ 2147483647) then (if 0 ≤ (664 + (2 * i1)) ∧ (664 + (2 * i1)) < 1570 then (stI (w2 I 107 (664 + (2 * i1)) (I 112 i1)) (fun I_229 => (if 0 ≤ i1 ∧ i1 < 400 then (if -2147483648 ≤ (664 + (2 * i1)) + 1 ∧ (664 + (2 * i1)) + 1 ≤ 2147483647 then (if 0 ≤ ((664 + (2 * i1)) + 1) ∧ ((664 + (2 * i1)) + 1) < 1570 then (stI (w2 I_229 107 ((664 + (2 * i1)) + 1) (I_229 113 i1)) (fun I_249 => (if -2147483648 ≤ i1 + 1 ∧ i1 + 1 ≤ 2147483647 then (kf_212 n dp e 6 I_249 L (i1 + 1)) else none))) else none) else none) else none))) else none) else none) else none)) := by rw [kf_212.eq_2, if_neg (show ¬ ((6 : Nat) = 0) by decide), if_neg (show ¬ ((6 : Nat) = 1) by decide), if_neg (show ¬ ((6 : Nat) = 2) by decide), if_neg (show ¬ ((6 : Nat) = 3) by decide), if_neg (show ¬ ((6 : Nat) = 4) by decide), if_neg (show ¬ ((6 : Nat) = 5) by decide), if_pos (show (6 : Nat) = 6 from rfl)]
set_option maxHeartbeats 8000000 in
set_option maxRecDepth 100000 in
theorem ks_212 : ∀ (n : Nat) (dp : Nat) (e : EN) (lab : Nat) (I : Nat → Nat → Int32) (I' : JI) (L : Nat → Nat → Int64) (L' : JI) (i1 : Int32) (i1' : Int), Rli I I' → Rll L L' → Ui i1 i1' → Sim R3 (g_212 n dp e lab I L i1) (kf_212 n dp e lab I' L' i1') := by
  intro n
  induction n with
  | zero => intros; rw [kf_212.eq_1]; exact Sn
  | succ n ih =>
    intro dp e lab I I' L L' i1 i1' u_I u_L u_i1
    rw [g_212.eq_2, kf_212.eq_2]
    refine Sc Iff.rfl (fun _ => ?_) (fun _ => ?_)
    · refine SsJ (ri_up u_I (rfl : ((0 : Nat) : Int) = 0) (rfl : Ui (0) (0))) (fun I_2 I_2' u_I_2 => ?_)
      refine Sc Iff.rfl (fun c1 => ?_) (fun _ => Sn)
      refine Sb2 (ks_213 n (dp - 1) e 0 _ _ _ _ u_I_2 u_L) (fun I0_6 I0_6' L0_6 L0_6' u_I0_6 u_L0_6 => ?_)
      refine SsJ (ri_up u_I0_6 (rfl : ((14 : Nat) : Int) = 14) (rfl : Ui (0) (0))) (fun I_11 I_11' u_I_11 => ?_)
      refine SsJ (ri_up u_I_11 (rfl : ((16 : Nat) : Int) = 16) (rfl : Ui (0) (0))) (fun I_16 I_16' u_I_16 => ?_)
      refine SsJ (ri_up u_I_16 (rfl : ((19 : Nat) : Int) = 19) (rfl : Ui (0) (0))) (fun I_21 I_21' u_I_21 => ?_)
      refine SsJ (ri_up u_I_21 (rfl : ((26 : Nat) : Int) = 26) (rfl : Ui (0) (0))) (fun I_26 I_26' u_I_26 => ?_)
      refine Sc Iff.rfl (fun c2 => ?_) (fun _ => Sn)
      refine Sb2 (ks_217 n (dp - 1) e 0 _ _ _ _ _ _ _ _ _ _ u_I_26 u_L0_6 (rfl : Ui 0 0) (rfl : Ui 0 0) (rfl : Ui 0 0)) (fun I1_30 I1_30' L1_30 L1_30' u_I1_30 u_L1_30 => ?_)
      exact (ih dp e 1 _ _ _ _ _ _ u_I1_30 u_L1_30 (rfl : Ui 0 0))
    refine Sc Iff.rfl (fun _ => ?_) (fun _ => ?_)
    · refine Sc (eq_up (u_I 105 13) (rfl : Ui 0 0)) (fun c1 => ?_) (fun c1 => ?_)
      · refine Sc Iff.rfl (fun c2 => ?_) (fun _ => Sn)
        refine Sb3 (ks_226 n (dp - 1) e 0 _ _ _ _ _ _ u_I u_L (rfl : Ui (59) (59))) (fun x0_43 x0_43' I0_43 I0_43' L0_43 L0_43' u_x0_43 u_I0_43 u_L0_43 => ?_)
        refine Sc (eq_up u_x0_43 (rfl : Ui 0 0)) (fun c3 => ?_) (fun c3 => ?_)
        · exact (ih dp e 2 _ _ _ _ _ _ u_I0_43 u_L0_43 (rfl : Ui 0 0))
        · refine Sc Iff.rfl (fun c4 => ?_) (fun _ => Sn)
          refine Sb2 (ks_214 n (dp - 1) e 0 _ _ _ _ u_I0_43 u_L0_43) (fun I1_50 I1_50' L1_50 L1_50' u_I1_50 u_L1_50 => ?_)
          refine Sc Iff.rfl (fun c5 => ?_) (fun _ => Sn)
          refine Sb2 (ks_217 n (dp - 1) e 0 _ _ _ _ _ _ _ _ _ _ u_I1_50 u_L1_50 (rfl : Ui 0 0) (rfl : Ui 0 0) (rfl : Ui 0 0)) (fun I2_54 I2_54' L2_54 L2_54' u_I2_54 u_L2_54 => ?_)
          exact (ih dp e 1 _ _ _ _ _ _ u_I2_54 u_L2_54 (rfl : Ui 0 0))
      · exact (ih dp e 2 _ _ _ _ _ _ u_I u_L (rfl : Ui 0 0))
    refine Sc Iff.rfl (fun _ => ?_) (fun _ => ?_)
    · refine Sc (eq_up (u_I 105 13) (rfl : Ui 0 0)) (fun c1 => ?_) (fun c1 => ?_)
      · refine Sc (eq_up (u_I 105 10) (rfl : Ui 0 0)) (fun c2 => ?_) (fun c2 => ?_)
        · exact (ih dp e 3 _ _ _ _ _ _ u_I u_L (rfl : Ui 0 0))
        · refine Sc Iff.rfl (fun c3 => ?_) (fun _ => Sn)
          refine Sb2 (ks_219 n (dp - 1) e 0 _ _ _ _ _ _ u_I u_L (rfl : Ui (0) (0))) (fun I0_76 I0_76' L0_76 L0_76' u_I0_76 u_L0_76 => ?_)
          exact (ih dp e 3 _ _ _ _ _ _ u_I0_76 u_L0_76 (rfl : Ui 0 0))
      · exact (ih dp e 3 _ _ _ _ _ _ u_I u_L (rfl : Ui 0 0))
    refine Sc Iff.rfl (fun _ => ?_) (fun _ => ?_)
    · refine SsJ (ri_up u_I (rfl : ((7 : Nat) : Int) = 7) (rfl : Ui (0) (0))) (fun I_81 I_81' u_I_81 => ?_)
      refine Sc (eq_up (u_I_81 105 13) (rfl : Ui 0 0)) (fun c1 => ?_) (fun c1 => ?_)
      · refine SsJ (ri_up u_I_81 (rfl : ((8 : Nat) : Int) = 8) (u_I_81 105 14)) (fun I_108 I_108' u_I_108 => ?_)
        refine SsJ (ri_up u_I_108 (rfl : ((9 : Nat) : Int) = 9) (u_I_108 105 26)) (fun I_119 I_119' u_I_119 => ?_)
        exact (ih dp e 4 _ _ _ _ _ _ u_I_119 u_L (rfl : Ui (0) (0)))
      · refine Sc Iff.rfl (fun c2 => ?_) (fun _ => Sn)
        refine Sb3 (ks_194 n (dp - 1) e 0 _ _ _ _ _ _ u_I_81 u_L (rfl : Ui (-6) (-6))) (fun x0_94 x0_94' I0_94 I0_94' L0_94 L0_94' u_x0_94 u_I0_94 u_L0_94 => ?_)
        exact Sr ⟨u_x0_94, u_I0_94, u_L0_94⟩
    refine Sc Iff.rfl (fun _ => ?_) (fun _ => ?_)
    · refine Sg (fun g1 => ?_)
      refine Sc (le_up (ui_mul (rfl : Ui (11) (11)) (u_I 105 26) g1) u_i1) (fun c2 => ?_) (fun c2 => ?_)
      · refine SsJ (ri_up u_I (rfl : ((471 : Nat) : Int) = 471) (u_I 105 14)) (fun I_166 I_166' u_I_166 => ?_)
        exact (ih dp e 5 _ _ _ _ _ _ u_I_166 u_L (rfl : Ui (0) (0)))
      · refine Sc (ix_up u_i1) (fun c3 => ?_) (fun _ => Sn)
        refine Sg (fun g4 => ?_)
        refine Sc (ix_up (ui_add (rfl : Ui (290) (290)) u_i1 g4)) (fun c5 => ?_) (fun _ => Sn)
        refine SsJ (ri_up u_I (kc_up (ui_add (rfl : Ui (290) (290)) u_i1 g4) c5.1) (ui_rd (a := 117) u_I u_i1 c3.1)) (fun I_148 I_148' u_I_148 => ?_)
        refine Sg (fun g6 => ?_)
        exact (ih dp e 4 _ _ _ _ _ _ u_I_148 u_L (ui_add u_i1 (rfl : Ui (Int32.ofInt (1)) (1)) g6))
    refine Sc Iff.rfl (fun _ => ?_) (fun _ => ?_)
    · refine Sg (fun g1 => ?_)
      refine Sc (le_up (ui_mul (rfl : Ui (8) (8)) (u_I 105 14) g1) u_i1) (fun c2 => ?_) (fun c2 => ?_)
      · exact (ih dp e 6 _ _ _ _ _ _ u_I u_L (rfl : Ui (0) (0)))
      · refine Sc (ix_up u_i1) (fun c3 => ?_) (fun _ => Sn)
        refine Sg (fun g4 => ?_)
        refine Sc (ix_up (ui_add (rfl : Ui (472) (472)) u_i1 g4)) (fun c5 => ?_) (fun _ => Sn)
        refine SsJ (ri_up u_I (kc_up (ui_add (rfl : Ui (472) (472)) u_i1 g4) c5.1) (ui_rd (a := 111) u_I u_i1 c3.1)) (fun I_195 I_195' u_I_195 => ?_)
        refine Sg (fun g6 => ?_)
        exact (ih dp e 5 _ _ _ _ _ _ u_I_195 u_L (ui_add u_i1 (rfl : Ui (Int32.ofInt (1)) (1)) g6))
    refine Sc Iff.rfl (fun _ => ?_) (fun _ => ?_)
    · refine Sc (le_up (u_I 105 16) u_i1) (fun c1 => ?_) (fun c1 => ?_)
      · refine Sc Iff.rfl (fun c2 => ?_) (fun _ => Sn)
        refine Sb3 (ks_194 n (dp - 1) e 0 _ _ _ _ _ _ u_I u_L (u_I 105 14)) (fun x0_261 x0_261' I0_261 I0_261' L0_261 L0_261' u_x0_261 u_I0_261 u_L0_261 => ?_)
        exact Sr ⟨u_x0_261, u_I0_261, u_L0_261⟩
      · refine Sc (ix_up u_i1) (fun c3 => ?_) (fun _ => Sn)
        refine Sg (fun g4 => ?_)
        refine Sc (ix_up (ui_add (rfl : Ui (664) (664)) (ui_mul (rfl : Ui (2) (2)) u_i1 g4.1) g4.2)) (fun c5 => ?_) (fun _ => Sn)
        refine SsJ (ri_up u_I (kc_up (ui_add (rfl : Ui (664) (664)) (ui_mul (rfl : Ui (2) (2)) u_i1 g4.1) g4.2) c5.1) (ui_rd (a := 112) u_I u_i1 c3.1)) (fun I_229 I_229' u_I_229 => ?_)
        refine Sc (ix_up u_i1) (fun c6 => ?_) (fun _ => Sn)
        refine Sg (fun g7 => ?_)
        refine Sc (ix_up (ui_add (ui_add (rfl : Ui (664) (664)) (ui_mul (rfl : Ui (2) (2)) u_i1 g4.1) g4.2) (rfl : Ui (1) (1)) g7)) (fun c8 => ?_) (fun _ => Sn)
        refine SsJ (ri_up u_I_229 (kc_up (ui_add (ui_add (rfl : Ui (664) (664)) (ui_mul (rfl : Ui (2) (2)) u_i1 g4.1) g4.2) (rfl : Ui (1) (1)) g7) c8.1) (ui_rd (a := 113) u_I_229 u_i1 c6.1)) (fun I_249 I_249' u_I_249 => ?_)
        refine Sg (fun g9 => ?_)
        exact (ih dp e 6 _ _ _ _ _ _ u_I_249 u_L (ui_add u_i1 (rfl : Ui (Int32.ofInt (1)) (1)) g9))
    exact Sn
set_option maxHeartbeats 4000000 in
set_option maxRecDepth 100000 in
def kf_239 : Nat → Nat → EN → Nat → JI → JI → Int → Option (Int × JI × JI)
  | 0, _, _, _, _, _, _ => none
  | n + 1, dp, e, lab, I, L, i1 =>
    if lab = 0 then (if 1 ≤ dp then (if -9223372036854775808 ≤ (I 107 9) - 1 ∧ (I 107 9) - 1 ≤ 9223372036854775807 then ((kf_193 n (dp - 1) e 0 I L i1 0 ((I 107 9) - 1)).bind (fun ⟨x0_13, I0_13, L0_13⟩ => (if (x0_13 = 0) ∨ (x0_13 = 1) then (some ((x0_13 : Int), I0_13, L0_13)) else none))) else none) else none)
    else none
set_option maxRecDepth 100000 in
theorem ke_239_0 (n : Nat) (dp : Nat) (e : EN) (I : JI) (L : JI) (i1 : Int) : kf_239 (n + 1) dp e 0 I L i1 = (if 1 ≤ dp then (if -9223372036854775808 ≤ (I 107 9) - 1 ∧ (I 107 9) - 1 ≤ 9223372036854775807 then ((kf_193 n (dp - 1) e 0 I L i1 0 ((I 107 9) - 1)).bind (fun ⟨x0_13, I0_13, L0_13⟩ => (if (x0_13 = 0) ∨ (x0_13 = 1) then (some ((x0_13 : Int), I0_13, L0_13)) else none))) else none) else none) := by rw [kf_239.eq_2, if_pos (show (0 : Nat) = 0 from rfl)]
set_option maxHeartbeats 8000000 in
set_option maxRecDepth 100000 in
theorem ks_239 : ∀ (n : Nat) (dp : Nat) (e : EN) (lab : Nat) (I : Nat → Nat → Int32) (I' : JI) (L : Nat → Nat → Int64) (L' : JI) (i1 : Int32) (i1' : Int), Rli I I' → Rll L L' → Ui i1 i1' → Sim R3 (g_239 n dp e lab I L i1) (kf_239 n dp e lab I' L' i1') := by
  intro n
  induction n with
  | zero => intros; rw [kf_239.eq_1]; exact Sn
  | succ n ih =>
    intro dp e lab I I' L L' i1 i1' u_I u_L u_i1
    rw [g_239.eq_2, kf_239.eq_2]
    refine Sc Iff.rfl (fun _ => ?_) (fun _ => ?_)
    · refine Sc Iff.rfl (fun c1 => ?_) (fun _ => Sn)
      refine Sg (fun g2 => ?_)
      refine Sb3 (ks_193 n (dp - 1) e 0 _ _ _ _ _ _ _ _ _ _ u_I u_L (ul_i2l u_i1) (rfl : Ul (0) (0)) (ul_sub (ul_i2l (u_I 107 9)) (rfl : Ul (1) (1)) g2)) (fun x0_13 x0_13' I0_13 I0_13' L0_13 L0_13' u_x0_13 u_I0_13 u_L0_13 => ?_)
      refine Sc (or_congr (eq_up u_x0_13 (rfl : Ui 0 0)) (eq_up u_x0_13 (rfl : Ui 1 1))) (fun c3 => ?_) (fun _ => Sn)
      exact Sr ⟨u_x0_13, u_I0_13, u_L0_13⟩
    exact Sn
set_option maxHeartbeats 4000000 in
set_option maxRecDepth 100000 in
def kf_240 : Nat → Nat → EN → Nat → JI → JI → Int → Option (Int × JI × JI)
  | 0, _, _, _, _, _, _ => none
  | n + 1, dp, e, lab, I, L, i1 =>
    if lab = 0 then (if (-2147483648 ≤ 11 * i1 ∧ 11 * i1 ≤ 2147483647) ∧ (-2147483648 ≤ 290 + (11 * i1) ∧ 290 + (11 * i1) ≤ 2147483647) then (if 0 ≤ (290 + (11 * i1)) ∧ (290 + (11 * i1)) < 1570 then (some (((I 107 (290 + (11 * i1))) : Int), I, L)) else none) else none)
    else none
set_option maxRecDepth 100000 in
theorem ke_240_0 (n : Nat) (dp : Nat) (e : EN) (I : JI) (L : JI) (i1 : Int) : kf_240 (n + 1) dp e 0 I L i1 = (if (-2147483648 ≤ 11 * i1 ∧ 11 * i1 ≤ 2147483647) ∧ (-2147483648 ≤ 290 + (11 * i1) ∧ 290 + (11 * i1) ≤ 2147483647) then (if 0 ≤ (290 + (11 * i1)) ∧ (290 + (11 * i1)) < 1570 then (some (((I 107 (290 + (11 * i1))) : Int), I, L)) else none) else none) := by rw [kf_240.eq_2, if_pos (show (0 : Nat) = 0 from rfl)]
set_option maxHeartbeats 8000000 in
set_option maxRecDepth 100000 in
theorem ks_240 : ∀ (n : Nat) (dp : Nat) (e : EN) (lab : Nat) (I : Nat → Nat → Int32) (I' : JI) (L : Nat → Nat → Int64) (L' : JI) (i1 : Int32) (i1' : Int), Rli I I' → Rll L L' → Ui i1 i1' → Sim R3 (g_240 n dp e lab I L i1) (kf_240 n dp e lab I' L' i1') := by
  intro n
  induction n with
  | zero => intros; rw [kf_240.eq_1]; exact Sn
  | succ n ih =>
    intro dp e lab I I' L L' i1 i1' u_I u_L u_i1
    rw [g_240.eq_2, kf_240.eq_2]
    refine Sc Iff.rfl (fun _ => ?_) (fun _ => ?_)
    · refine Sg (fun g1 => ?_)
      refine Sc (ix_up (ui_add (rfl : Ui (290) (290)) (ui_mul (rfl : Ui (11) (11)) u_i1 g1.1) g1.2)) (fun c2 => ?_) (fun _ => Sn)
      exact Sr ⟨(ui_rd (a := 107) u_I (ui_add (rfl : Ui (290) (290)) (ui_mul (rfl : Ui (11) (11)) u_i1 g1.1) g1.2) c2.1), u_I, u_L⟩
    exact Sn
set_option maxHeartbeats 4000000 in
set_option maxRecDepth 100000 in
def kf_241 : Nat → Nat → EN → Nat → JI → JI → Int → Int → Option (Int × JI × JI)
  | 0, _, _, _, _, _, _, _ => none
  | n + 1, dp, e, lab, I, L, i1, i2 =>
    if lab = 0 then (if (-2147483648 ≤ 11 * i1 ∧ 11 * i1 ≤ 2147483647) ∧ (-2147483648 ≤ 290 + (11 * i1) ∧ 290 + (11 * i1) ≤ 2147483647) ∧ (-2147483648 ≤ (290 + (11 * i1)) + 1 ∧ (290 + (11 * i1)) + 1 ≤ 2147483647) ∧ (-2147483648 ≤ ((290 + (11 * i1)) + 1) + i2 ∧ ((290 + (11 * i1)) + 1) + i2 ≤ 2147483647) then (if 0 ≤ (((290 + (11 * i1)) + 1) + i2) ∧ (((290 + (11 * i1)) + 1) + i2) < 1570 then (some (((I 107 (((290 + (11 * i1)) + 1) + i2)) : Int), I, L)) else none) else none)
    else none
set_option maxRecDepth 100000 in
theorem ke_241_0 (n : Nat) (dp : Nat) (e : EN) (I : JI) (L : JI) (i1 : Int) (i2 : Int) : kf_241 (n + 1) dp e 0 I L i1 i2 = (if (-2147483648 ≤ 11 * i1 ∧ 11 * i1 ≤ 2147483647) ∧ (-2147483648 ≤ 290 + (11 * i1) ∧ 290 + (11 * i1) ≤ 2147483647) ∧ (-2147483648 ≤ (290 + (11 * i1)) + 1 ∧ (290 + (11 * i1)) + 1 ≤ 2147483647) ∧ (-2147483648 ≤ ((290 + (11 * i1)) + 1) + i2 ∧ ((290 + (11 * i1)) + 1) + i2 ≤ 2147483647) then (if 0 ≤ (((290 + (11 * i1)) + 1) + i2) ∧ (((290 + (11 * i1)) + 1) + i2) < 1570 then (some (((I 107 (((290 + (11 * i1)) + 1) + i2)) : Int), I, L)) else none) else none) := by rw [kf_241.eq_2, if_pos (show (0 : Nat) = 0 from rfl)]
set_option maxHeartbeats 8000000 in
set_option maxRecDepth 100000 in
theorem ks_241 : ∀ (n : Nat) (dp : Nat) (e : EN) (lab : Nat) (I : Nat → Nat → Int32) (I' : JI) (L : Nat → Nat → Int64) (L' : JI) (i1 : Int32) (i1' : Int) (i2 : Int32) (i2' : Int), Rli I I' → Rll L L' → Ui i1 i1' → Ui i2 i2' → Sim R3 (g_241 n dp e lab I L i1 i2) (kf_241 n dp e lab I' L' i1' i2') := by
  intro n
  induction n with
  | zero => intros; rw [kf_241.eq_1]; exact Sn
  | succ n ih =>
    intro dp e lab I I' L L' i1 i1' i2 i2' u_I u_L u_i1 u_i2
    rw [g_241.eq_2, kf_241.eq_2]
    refine Sc Iff.rfl (fun _ => ?_) (fun _ => ?_)
    · refine Sg (fun g1 => ?_)
      refine Sc (ix_up (ui_add (ui_add (ui_add (rfl : Ui (290) (290)) (ui_mul (rfl : Ui (11) (11)) u_i1 g1.1) g1.2.1) (rfl : Ui (1) (1)) g1.2.2.1) u_i2 g1.2.2.2)) (fun c2 => ?_) (fun _ => Sn)
      exact Sr ⟨(ui_rd (a := 107) u_I (ui_add (ui_add (ui_add (rfl : Ui (290) (290)) (ui_mul (rfl : Ui (11) (11)) u_i1 g1.1) g1.2.1) (rfl : Ui (1) (1)) g1.2.2.1) u_i2 g1.2.2.2) c2.1), u_I, u_L⟩
    exact Sn
set_option maxHeartbeats 4000000 in
set_option maxRecDepth 100000 in
def kf_238 : Nat → Nat → EN → Nat → JI → JI → Int → Int → Option (Int × JI × JI)
  | 0, _, _, _, _, _, _, _ => none
  | n + 1, dp, e, lab, I, L, i1, i2 =>
    if lab = 0 then (stI (w2 I 105 0 0) (fun I_2 => (if 1 ≤ dp then ((kf_239 n (dp - 1) e 0 I_2 L i1).bind (fun ⟨x0_7, I0_7, L0_7⟩ => (if x0_7 = 0 then (some (((-1) : Int), I0_7, L0_7)) else (if i2 = 0 then (kf_238 n dp e 1 I0_7 L0_7 i1 i2) else (if 1 ≤ dp then ((kf_193 n (dp - 1) e 0 I0_7 L0_7 i2 10 19).bind (fun ⟨x1_25, I1_25, L1_25⟩ => (if x1_25 = 0 then (some (((-1) : Int), I1_25, L1_25)) else (kf_238 n dp e 1 I1_25 L1_25 i1 i2)))) else none))))) else none)))
    else if lab = 1 then (if i2 = 0 then (if 1 ≤ dp then ((kf_240 n (dp - 1) e 0 I L i1).bind (fun ⟨x0_39, I0_39, L0_39⟩ => (some ((x0_39 : Int), I0_39, L0_39)))) else none) else (if 1 ≤ dp then (if -2147483648 ≤ i2 - 10 ∧ i2 - 10 ≤ 2147483647 then ((kf_241 n (dp - 1) e 0 I L i1 (i2 - 10)).bind (fun ⟨x0_51, I0_51, L0_51⟩ => (some ((x0_51 : Int), I0_51, L0_51)))) else none) else none))
    else none
set_option maxRecDepth 100000 in
theorem ke_238_0 (n : Nat) (dp : Nat) (e : EN) (I : JI) (L : JI) (i1 : Int) (i2 : Int) : kf_238 (n + 1) dp e 0 I L i1 i2 = (stI (w2 I 105 0 0) (fun I_2 => (if 1 ≤ dp then ((kf_239 n (dp - 1) e 0 I_2 L i1).bind (fun ⟨x0_7, I0_7, L0_7⟩ => (if x0_7 = 0 then (some (((-1) : Int), I0_7, L0_7)) else (if i2 = 0 then (kf_238 n dp e 1 I0_7 L0_7 i1 i2) else (if 1 ≤ dp then ((kf_193 n (dp - 1) e 0 I0_7 L0_7 i2 10 19).bind (fun ⟨x1_25, I1_25, L1_25⟩ => (if x1_25 = 0 then (some (((-1) : Int), I1_25, L1_25)) else (kf_238 n dp e 1 I1_25 L1_25 i1 i2)))) else none))))) else none))) := by rw [kf_238.eq_2, if_pos (show (0 : Nat) = 0 from rfl)]
set_option maxRecDepth 100000 in
theorem ke_238_1 (n : Nat) (dp : Nat) (e : EN) (I : JI) (L : JI) (i1 : Int) (i2 : Int) : kf_238 (n + 1) dp e 1 I L i1 i2 = (if i2 = 0 then (if 1 ≤ dp then ((kf_240 n (dp - 1) e 0 I L i1).bind (fun ⟨x0_39, I0_39, L0_39⟩ => (some ((x0_39 : Int), I0_39, L0_39)))) else none) else (if 1 ≤ dp then (if -2147483648 ≤ i2 - 10 ∧ i2 - 10 ≤ 2147483647 then ((kf_241 n (dp - 1) e 0 I L i1 (i2 - 10)).bind (fun ⟨x0_51, I0_51, L0_51⟩ => (some ((x0_51 : Int), I0_51, L0_51)))) else none) else none)) := by rw [kf_238.eq_2, if_neg (show ¬ ((1 : Nat) = 0) by decide), if_pos (show (1 : Nat) = 1 from rfl)]
set_option maxHeartbeats 8000000 in
set_option maxRecDepth 100000 in
theorem ks_238 : ∀ (n : Nat) (dp : Nat) (e : EN) (lab : Nat) (I : Nat → Nat → Int32) (I' : JI) (L : Nat → Nat → Int64) (L' : JI) (i1 : Int32) (i1' : Int) (i2 : Int32) (i2' : Int), Rli I I' → Rll L L' → Ui i1 i1' → Ui i2 i2' → Sim R3 (g_238 n dp e lab I L i1 i2) (kf_238 n dp e lab I' L' i1' i2') := by
  intro n
  induction n with
  | zero => intros; rw [kf_238.eq_1]; exact Sn
  | succ n ih =>
    intro dp e lab I I' L L' i1 i1' i2 i2' u_I u_L u_i1 u_i2
    rw [g_238.eq_2, kf_238.eq_2]
    refine Sc Iff.rfl (fun _ => ?_) (fun _ => ?_)
    · refine SsJ (ri_up u_I (rfl : ((0 : Nat) : Int) = 0) (rfl : Ui (0) (0))) (fun I_2 I_2' u_I_2 => ?_)
      refine Sc Iff.rfl (fun c1 => ?_) (fun _ => Sn)
      refine Sb3 (ks_239 n (dp - 1) e 0 _ _ _ _ _ _ u_I_2 u_L u_i1) (fun x0_7 x0_7' I0_7 I0_7' L0_7 L0_7' u_x0_7 u_I0_7 u_L0_7 => ?_)
      refine Sc (eq_up u_x0_7 (rfl : Ui 0 0)) (fun c2 => ?_) (fun c2 => ?_)
      · exact Sr ⟨(rfl : Ui (-1) (-1)), u_I0_7, u_L0_7⟩
      · refine Sc (eq_up u_i2 (rfl : Ui 0 0)) (fun c3 => ?_) (fun c3 => ?_)
        · exact (ih dp e 1 _ _ _ _ _ _ _ _ u_I0_7 u_L0_7 u_i1 u_i2)
        · refine Sc Iff.rfl (fun c4 => ?_) (fun _ => Sn)
          refine Sb3 (ks_193 n (dp - 1) e 0 _ _ _ _ _ _ _ _ _ _ u_I0_7 u_L0_7 (ul_i2l u_i2) (rfl : Ul (10) (10)) (rfl : Ul (19) (19))) (fun x1_25 x1_25' I1_25 I1_25' L1_25 L1_25' u_x1_25 u_I1_25 u_L1_25 => ?_)
          refine Sc (eq_up u_x1_25 (rfl : Ui 0 0)) (fun c5 => ?_) (fun c5 => ?_)
          · exact Sr ⟨(rfl : Ui (-1) (-1)), u_I1_25, u_L1_25⟩
          · exact (ih dp e 1 _ _ _ _ _ _ _ _ u_I1_25 u_L1_25 u_i1 u_i2)
    refine Sc Iff.rfl (fun _ => ?_) (fun _ => ?_)
    · refine Sc (eq_up u_i2 (rfl : Ui 0 0)) (fun c1 => ?_) (fun c1 => ?_)
      · refine Sc Iff.rfl (fun c2 => ?_) (fun _ => Sn)
        refine Sb3 (ks_240 n (dp - 1) e 0 _ _ _ _ _ _ u_I u_L u_i1) (fun x0_39 x0_39' I0_39 I0_39' L0_39 L0_39' u_x0_39 u_I0_39 u_L0_39 => ?_)
        exact Sr ⟨u_x0_39, u_I0_39, u_L0_39⟩
      · refine Sc Iff.rfl (fun c3 => ?_) (fun _ => Sn)
        refine Sg (fun g4 => ?_)
        refine Sb3 (ks_241 n (dp - 1) e 0 _ _ _ _ _ _ _ _ u_I u_L u_i1 (ui_sub u_i2 (rfl : Ui (10) (10)) g4)) (fun x0_51 x0_51' I0_51 I0_51' L0_51 L0_51' u_x0_51 u_I0_51 u_L0_51 => ?_)
        exact Sr ⟨u_x0_51, u_I0_51, u_L0_51⟩
    exact Sn
set_option maxHeartbeats 4000000 in
set_option maxRecDepth 100000 in
def kf_244 : Nat → Nat → EN → Nat → JI → JI → Int → Int → Option (Int × JI × JI)
  | 0, _, _, _, _, _, _, _ => none
  | n + 1, dp, e, lab, I, L, i1, i2 =>
    if lab = 0 then (if (-2147483648 ≤ 3 * i1 ∧ 3 * i1 ≤ 2147483647) ∧ (-2147483648 ≤ 10 + (3 * i1) ∧ 10 + (3 * i1) ≤ 2147483647) ∧ (-2147483648 ≤ (10 + (3 * i1)) + i2 ∧ (10 + (3 * i1)) + i2 ≤ 2147483647) then (if 0 ≤ ((10 + (3 * i1)) + i2) ∧ ((10 + (3 * i1)) + i2) < 1570 then (some (((I 107 ((10 + (3 * i1)) + i2)) : Int), I, L)) else none) else none)
    else none
set_option maxRecDepth 100000 in
theorem ke_244_0 (n : Nat) (dp : Nat) (e : EN) (I : JI) (L : JI) (i1 : Int) (i2 : Int) : kf_244 (n + 1) dp e 0 I L i1 i2 = (if (-2147483648 ≤ 3 * i1 ∧ 3 * i1 ≤ 2147483647) ∧ (-2147483648 ≤ 10 + (3 * i1) ∧ 10 + (3 * i1) ≤ 2147483647) ∧ (-2147483648 ≤ (10 + (3 * i1)) + i2 ∧ (10 + (3 * i1)) + i2 ≤ 2147483647) then (if 0 ≤ ((10 + (3 * i1)) + i2) ∧ ((10 + (3 * i1)) + i2) < 1570 then (some (((I 107 ((10 + (3 * i1)) + i2)) : Int), I, L)) else none) else none) := by rw [kf_244.eq_2, if_pos (show (0 : Nat) = 0 from rfl)]
set_option maxHeartbeats 8000000 in
set_option maxRecDepth 100000 in
theorem ks_244 : ∀ (n : Nat) (dp : Nat) (e : EN) (lab : Nat) (I : Nat → Nat → Int32) (I' : JI) (L : Nat → Nat → Int64) (L' : JI) (i1 : Int32) (i1' : Int) (i2 : Int32) (i2' : Int), Rli I I' → Rll L L' → Ui i1 i1' → Ui i2 i2' → Sim R3 (g_244 n dp e lab I L i1 i2) (kf_244 n dp e lab I' L' i1' i2') := by
  intro n
  induction n with
  | zero => intros; rw [kf_244.eq_1]; exact Sn
  | succ n ih =>
    intro dp e lab I I' L L' i1 i1' i2 i2' u_I u_L u_i1 u_i2
    rw [g_244.eq_2, kf_244.eq_2]
    refine Sc Iff.rfl (fun _ => ?_) (fun _ => ?_)
    · refine Sg (fun g1 => ?_)
      refine Sc (ix_up (ui_add (ui_add (rfl : Ui (10) (10)) (ui_mul (rfl : Ui (3) (3)) u_i1 g1.1) g1.2.1) u_i2 g1.2.2)) (fun c2 => ?_) (fun _ => Sn)
      exact Sr ⟨(ui_rd (a := 107) u_I (ui_add (ui_add (rfl : Ui (10) (10)) (ui_mul (rfl : Ui (3) (3)) u_i1 g1.1) g1.2.1) u_i2 g1.2.2) c2.1), u_I, u_L⟩
    exact Sn
set_option maxHeartbeats 4000000 in
set_option maxRecDepth 100000 in
def kf_243 : Nat → Nat → EN → Nat → JI → JI → Int → Int → Int → Int → Option (Int × JI × JI)
  | 0, _, _, _, _, _, _, _, _, _ => none
  | n + 1, dp, e, lab, I, L, i1, i2, i3, i4 =>
    if lab = 0 then (if 1 ≤ dp then ((kf_240 n (dp - 1) e 0 I L i1).bind (fun ⟨x0_3, I0_3, L0_3⟩ => (if 1 ≤ dp then ((kf_244 n (dp - 1) e 0 I0_3 L0_3 x0_3 i2).bind (fun ⟨x1_7, I1_7, L1_7⟩ => (kf_243 n dp e 1 I1_7 L1_7 i1 i2 x1_7 0))) else none))) else none)
    else if lab = 1 then (if 10 ≤ i4 then (some ((i3 : Int), I, L)) else (if 1 ≤ dp then ((kf_241 n (dp - 1) e 0 I L i1 i4).bind (fun ⟨x0_26, I0_26, L0_26⟩ => (if 1 ≤ dp then ((kf_244 n (dp - 1) e 0 I0_26 L0_26 i4 i2).bind (fun ⟨x1_33, I1_33, L1_33⟩ => (if (-2147483648 ≤ x0_26 * x1_33 ∧ x0_26 * x1_33 ≤ 2147483647) ∧ (-2147483648 ≤ i3 - (x0_26 * x1_33) ∧ i3 - (x0_26 * x1_33) ≤ 2147483647) ∧ (-2147483648 ≤ i4 + 1 ∧ i4 + 1 ≤ 2147483647) then (kf_243 n dp e 1 I1_33 L1_33 i1 i2 (i3 - (x0_26 * x1_33)) (i4 + 1)) else none))) else none))) else none))
    else none
set_option maxRecDepth 100000 in
theorem ke_243_0 (n : Nat) (dp : Nat) (e : EN) (I : JI) (L : JI) (i1 : Int) (i2 : Int) (i3 : Int) (i4 : Int) : kf_243 (n + 1) dp e 0 I L i1 i2 i3 i4 = (if 1 ≤ dp then ((kf_240 n (dp - 1) e 0 I L i1).bind (fun ⟨x0_3, I0_3, L0_3⟩ => (if 1 ≤ dp then ((kf_244 n (dp - 1) e 0 I0_3 L0_3 x0_3 i2).bind (fun ⟨x1_7, I1_7, L1_7⟩ => (kf_243 n dp e 1 I1_7 L1_7 i1 i2 x1_7 0))) else none))) else none) := by rw [kf_243.eq_2, if_pos (show (0 : Nat) = 0 from rfl)]
set_option maxRecDepth 100000 in
theorem ke_243_1 (n : Nat) (dp : Nat) (e : EN) (I : JI) (L : JI) (i1 : Int) (i2 : Int) (i3 : Int) (i4 : Int) : kf_243 (n + 1) dp e 1 I L i1 i2 i3 i4 = (if 10 ≤ i4 then (some ((i3 : Int), I, L)) else (if 1 ≤ dp then ((kf_241 n (dp - 1) e 0 I L i1 i4).bind (fun ⟨x0_26, I0_26, L0_26⟩ => (if 1 ≤ dp then ((kf_244 n (dp - 1) e 0 I0_26 L0_26 i4 i2).bind (fun ⟨x1_33, I1_33, L1_33⟩ => (if (-2147483648 ≤ x0_26 * x1_33 ∧ x0_26 * x1_33 ≤ 2147483647) ∧ (-2147483648 ≤ i3 - (x0_26 * x1_33) ∧ i3 - (x0_26 * x1_33) ≤ 2147483647) ∧ (-2147483648 ≤ i4 + 1 ∧ i4 + 1 ≤ 2147483647) then (kf_243 n dp e 1 I1_33 L1_33 i1 i2 (i3 - (x0_26 * x1_33)) (i4 + 1)) else none))) else none))) else none)) := by rw [kf_243.eq_2, if_neg (show ¬ ((1 : Nat) = 0) by decide), if_pos (show (1 : Nat) = 1 from rfl)]
set_option maxHeartbeats 8000000 in
set_option maxRecDepth 100000 in
theorem ks_243 : ∀ (n : Nat) (dp : Nat) (e : EN) (lab : Nat) (I : Nat → Nat → Int32) (I' : JI) (L : Nat → Nat → Int64) (L' : JI) (i1 : Int32) (i1' : Int) (i2 : Int32) (i2' : Int) (i3 : Int32) (i3' : Int) (i4 : Int32) (i4' : Int), Rli I I' → Rll L L' → Ui i1 i1' → Ui i2 i2' → Ui i3 i3' → Ui i4 i4' → Sim R3 (g_243 n dp e lab I L i1 i2 i3 i4) (kf_243 n dp e lab I' L' i1' i2' i3' i4') := by
  intro n
  induction n with
  | zero => intros; rw [kf_243.eq_1]; exact Sn
  | succ n ih =>
    intro dp e lab I I' L L' i1 i1' i2 i2' i3 i3' i4 i4' u_I u_L u_i1 u_i2 u_i3 u_i4
    rw [g_243.eq_2, kf_243.eq_2]
    refine Sc Iff.rfl (fun _ => ?_) (fun _ => ?_)
    · refine Sc Iff.rfl (fun c1 => ?_) (fun _ => Sn)
      refine Sb3 (ks_240 n (dp - 1) e 0 _ _ _ _ _ _ u_I u_L u_i1) (fun x0_3 x0_3' I0_3 I0_3' L0_3 L0_3' u_x0_3 u_I0_3 u_L0_3 => ?_)
      refine Sc Iff.rfl (fun c2 => ?_) (fun _ => Sn)
      refine Sb3 (ks_244 n (dp - 1) e 0 _ _ _ _ _ _ _ _ u_I0_3 u_L0_3 u_x0_3 u_i2) (fun x1_7 x1_7' I1_7 I1_7' L1_7 L1_7' u_x1_7 u_I1_7 u_L1_7 => ?_)
      exact (ih dp e 1 _ _ _ _ _ _ _ _ _ _ _ _ u_I1_7 u_L1_7 u_i1 u_i2 u_x1_7 (rfl : Ui (0) (0)))
    refine Sc Iff.rfl (fun _ => ?_) (fun _ => ?_)
    · refine Sc (le_up (rfl : Ui (10) (10)) u_i4) (fun c1 => ?_) (fun c1 => ?_)
      · exact Sr ⟨u_i3, u_I, u_L⟩
      · refine Sc Iff.rfl (fun c2 => ?_) (fun _ => Sn)
        refine Sb3 (ks_241 n (dp - 1) e 0 _ _ _ _ _ _ _ _ u_I u_L u_i1 u_i4) (fun x0_26 x0_26' I0_26 I0_26' L0_26 L0_26' u_x0_26 u_I0_26 u_L0_26 => ?_)
        refine Sc Iff.rfl (fun c3 => ?_) (fun _ => Sn)
        refine Sb3 (ks_244 n (dp - 1) e 0 _ _ _ _ _ _ _ _ u_I0_26 u_L0_26 u_i4 u_i2) (fun x1_33 x1_33' I1_33 I1_33' L1_33 L1_33' u_x1_33 u_I1_33 u_L1_33 => ?_)
        refine Sg (fun g4 => ?_)
        exact (ih dp e 1 _ _ _ _ _ _ _ _ _ _ _ _ u_I1_33 u_L1_33 u_i1 u_i2 (ui_sub u_i3 (ui_mul u_x0_26 u_x1_33 g4.1) g4.2.1) (ui_add u_i4 (rfl : Ui (Int32.ofInt (1)) (1)) g4.2.2))
    exact Sn
set_option maxHeartbeats 4000000 in
set_option maxRecDepth 100000 in
def kf_249 : Nat → Nat → EN → Nat → JI → JI → Int → Int → Int → Option (Int × JI × JI)
  | 0, _, _, _, _, _, _, _, _ => none
  | n + 1, dp, e, lab, I, L, i1, j2, j4 =>
    if lab = 0 then (if i1 = 20 then (if -9223372036854775808 ≤ j2 + j4 ∧ j2 + j4 ≤ 9223372036854775807 then (some (((j2 + j4) : Int), I, L)) else none) else (if i1 = 21 then (if -9223372036854775808 ≤ j2 - j4 ∧ j2 - j4 ≤ 9223372036854775807 then (some (((j2 - j4) : Int), I, L)) else none) else (if i1 = 22 then (if -9223372036854775808 ≤ j2 * j4 ∧ j2 * j4 ≤ 9223372036854775807 then (some (((j2 * j4) : Int), I, L)) else none) else (if i1 = 23 then (if j4 = 0 then (stI (w2 I 105 29 1) (fun I_68 => (if (I_68 105 29) = 0 then (if ¬ (j4 = 0) then (if -9223372036854775807 ≤ j2 then (some (((Int.tdiv j2 j4) : Int), I_68, L)) else none) else none) else (some ((0 : Int), I_68, L))))) else (stI (w2 I 105 29 0) (fun I_68 => (if (I_68 105 29) = 0 then (if ¬ (j4 = 0) then (if -9223372036854775807 ≤ j2 then (some (((Int.tdiv j2 j4) : Int), I_68, L)) else none) else none) else (some ((0 : Int), I_68, L)))))) else (if i1 = 24 then (if j4 ≤ j2 then (some ((0 : Int), I, L)) else (some ((1 : Int), I, L))) else (if i1 = 25 then (if j2 ≤ j4 then (some ((0 : Int), I, L)) else (some ((1 : Int), I, L))) else (if j2 = j4 then (some ((1 : Int), I, L)) else (some ((0 : Int), I, L)))))))))
    else none
set_option maxRecDepth 100000 in
theorem ke_249_0 (n : Nat) (dp : Nat) (e : EN) (I : JI) (L : JI) (i1 : Int) (j2 : Int) (j4 : Int) : kf_249 (n + 1) dp e 0 I L i1 j2 j4 = (if i1 = 20 then (if -9223372036854775808 ≤ j2 + j4 ∧ j2 + j4 ≤ 9223372036854775807 then (some (((j2 + j4) : Int), I, L)) else none) else (if i1 = 21 then (if -9223372036854775808 ≤ j2 - j4 ∧ j2 - j4 ≤ 9223372036854775807 then (some (((j2 - j4) : Int), I, L)) else none) else (if i1 = 22 then (if -9223372036854775808 ≤ j2 * j4 ∧ j2 * j4 ≤ 9223372036854775807 then (some (((j2 * j4) : Int), I, L)) else none) else (if i1 = 23 then (if j4 = 0 then (stI (w2 I 105 29 1) (fun I_68 => (if (I_68 105 29) = 0 then (if ¬ (j4 = 0) then (if -9223372036854775807 ≤ j2 then (some (((Int.tdiv j2 j4) : Int), I_68, L)) else none) else none) else (some ((0 : Int), I_68, L))))) else (stI (w2 I 105 29 0) (fun I_68 => (if (I_68 105 29) = 0 then (if ¬ (j4 = 0) then (if -9223372036854775807 ≤ j2 then (some (((Int.tdiv j2 j4) : Int), I_68, L)) else none) else none) else (some ((0 : Int), I_68, L)))))) else (if i1 = 24 then (if j4 ≤ j2 then (some ((0 : Int), I, L)) else (some ((1 : Int), I, L))) else (if i1 = 25 then (if j2 ≤ j4 then (some ((0 : Int), I, L)) else (some ((1 : Int), I, L))) else (if j2 = j4 then (some ((1 : Int), I, L)) else (some ((0 : Int), I, L))))))))) := by rw [kf_249.eq_2, if_pos (show (0 : Nat) = 0 from rfl)]
set_option maxHeartbeats 8000000 in
set_option maxRecDepth 100000 in
theorem ks_249 : ∀ (n : Nat) (dp : Nat) (e : EN) (lab : Nat) (I : Nat → Nat → Int32) (I' : JI) (L : Nat → Nat → Int64) (L' : JI) (i1 : Int32) (i1' : Int) (j2 : Int64) (j2' : Int) (j4 : Int64) (j4' : Int), Rli I I' → Rll L L' → Ui i1 i1' → Ul j2 j2' → Ul j4 j4' → Sim R3l (g_249 n dp e lab I L i1 j2 j4) (kf_249 n dp e lab I' L' i1' j2' j4') := by
  intro n
  induction n with
  | zero => intros; rw [kf_249.eq_1]; exact Sn
  | succ n ih =>
    intro dp e lab I I' L L' i1 i1' j2 j2' j4 j4' u_I u_L u_i1 u_j2 u_j4
    rw [g_249.eq_2, kf_249.eq_2]
    refine Sc Iff.rfl (fun _ => ?_) (fun _ => ?_)
    · refine Sc (eq_up u_i1 (rfl : Ui (20) (20))) (fun c1 => ?_) (fun c1 => ?_)
      · refine Sg (fun g2 => ?_)
        exact Sr ⟨(ul_add u_j2 u_j4 g2), u_I, u_L⟩
      · refine Sc (eq_up u_i1 (rfl : Ui (21) (21))) (fun c3 => ?_) (fun c3 => ?_)
        · refine Sg (fun g4 => ?_)
          exact Sr ⟨(ul_sub u_j2 u_j4 g4), u_I, u_L⟩
        · refine Sc (eq_up u_i1 (rfl : Ui (22) (22))) (fun c5 => ?_) (fun c5 => ?_)
          · refine Sg (fun g6 => ?_)
            exact Sr ⟨(ul_mul u_j2 u_j4 g6), u_I, u_L⟩
          · refine Sc (eq_up u_i1 (rfl : Ui (23) (23))) (fun c7 => ?_) (fun c7 => ?_)
            · refine Sc (lce_up u_j4 (rfl : Ul (0) (0))) (fun c8 => ?_) (fun c8 => ?_)
              · refine SsJ (ri_up u_I (rfl : ((29 : Nat) : Int) = 29) (rfl : Ui (1) (1))) (fun I_68 I_68' u_I_68 => ?_)
                refine Sc (eq_up (u_I_68 105 29) (rfl : Ui 0 0)) (fun c9 => ?_) (fun c9 => ?_)
                · refine Sc (not_congr (leq_up u_j4 (rfl : Ul 0 0))) (fun c10 => ?_) (fun _ => Sn)
                  refine Sg (fun g11 => ?_)
                  exact Sr ⟨(ul_div u_j2 u_j4 g11), u_I_68, u_L⟩
                · exact Sr ⟨(rfl : Ul (0) (0)), u_I_68, u_L⟩
              · refine SsJ (ri_up u_I (rfl : ((29 : Nat) : Int) = 29) (rfl : Ui (0) (0))) (fun I_68 I_68' u_I_68 => ?_)
                refine Sc (eq_up (u_I_68 105 29) (rfl : Ui 0 0)) (fun c12 => ?_) (fun c12 => ?_)
                · refine Sc (not_congr (leq_up u_j4 (rfl : Ul 0 0))) (fun c13 => ?_) (fun _ => Sn)
                  refine Sg (fun g14 => ?_)
                  exact Sr ⟨(ul_div u_j2 u_j4 g14), u_I_68, u_L⟩
                · exact Sr ⟨(rfl : Ul (0) (0)), u_I_68, u_L⟩
            · refine Sc (eq_up u_i1 (rfl : Ui (24) (24))) (fun c15 => ?_) (fun c15 => ?_)
              · refine Sc (lcge_up u_j2 u_j4) (fun c16 => ?_) (fun c16 => ?_)
                · exact Sr ⟨(rfl : Ul (0) (0)), u_I, u_L⟩
                · exact Sr ⟨(rfl : Ul (1) (1)), u_I, u_L⟩
              · refine Sc (eq_up u_i1 (rfl : Ui (25) (25))) (fun c17 => ?_) (fun c17 => ?_)
                · refine Sc (lcle_up u_j2 u_j4) (fun c18 => ?_) (fun c18 => ?_)
                  · exact Sr ⟨(rfl : Ul (0) (0)), u_I, u_L⟩
                  · exact Sr ⟨(rfl : Ul (1) (1)), u_I, u_L⟩
                · refine Sc (lce_up u_j2 u_j4) (fun c19 => ?_) (fun c19 => ?_)
                  · exact Sr ⟨(rfl : Ul (1) (1)), u_I, u_L⟩
                  · exact Sr ⟨(rfl : Ul (0) (0)), u_I, u_L⟩
    exact Sn
set_option maxHeartbeats 4000000 in
set_option maxRecDepth 100000 in
def kf_248 : Nat → Nat → EN → Nat → JI → JI → Int → Int → Int → Int → Int → Int → Option (JI × JI)
  | 0, _, _, _, _, _, _, _, _, _, _, _ => none
  | n + 1, dp, e, lab, I, L, i1, i2, i3, i4, i5, i6 =>
    if lab = 0 then (stI (w2 I 105 29 0) (fun I_2 => (kf_248 n dp e 1 I_2 L i1 i2 0 i1 0 0)))
    else if lab = 1 then (if i2 ≤ i4 then (kf_248 n dp e 3 I L i1 i2 i3 i4 0 0) else (if (I 105 29) = 0 then (if (-2147483648 ≤ 2 * i4 ∧ 2 * i4 ≤ 2147483647) ∧ (-2147483648 ≤ 664 + (2 * i4) ∧ 664 + (2 * i4) ≤ 2147483647) then (if 0 ≤ (664 + (2 * i4)) ∧ (664 + (2 * i4)) < 1570 then (stI (I 107 (664 + (2 * i4))) (fun v_36 => (if -2147483648 ≤ (664 + (2 * i4)) + 1 ∧ (664 + (2 * i4)) + 1 ≤ 2147483647 then (if 0 ≤ ((664 + (2 * i4)) + 1) ∧ ((664 + (2 * i4)) + 1) < 1570 then (stI (I 107 ((664 + (2 * i4)) + 1)) (fun v_53 => (if 20 ≤ v_36 then (if 27 ≤ v_36 then (if v_36 = 27 then (if -2147483648 ≤ i3 - 1 ∧ i3 - 1 ≤ 2147483647 then (if 0 ≤ (i3 - 1) ∧ (i3 - 1) < 400 then (if 0 ≤ (i3 - 1) ∧ (i3 - 1) < 400 then (if -9223372036854775808 ≤ 1 - (L 119 (i3 - 1)) ∧ 1 - (L 119 (i3 - 1)) ≤ 9223372036854775807 then (stI (w2 L 119 (i3 - 1) (1 - (L 119 (i3 - 1)))) (fun L_196 => (if -2147483648 ≤ i4 + 1 ∧ i4 + 1 ≤ 2147483647 then (kf_248 n dp e 2 I L_196 i1 i2 i3 (i4 + 1) v_36 v_53) else none))) else none) else none) else none) else none) else (if -2147483648 ≤ i3 - 1 ∧ i3 - 1 ≤ 2147483647 then (if 0 ≤ (i3 - 1) ∧ (i3 - 1) < 400 then (if v_36 = 28 then (if (L 119 (i3 - 1)) = 0 then (kf_248 n dp e 2 I L i1 i2 i3 v_53 v_36 v_53) else (if (-2147483648 ≤ i3 + (-1) ∧ i3 + (-1) ≤ 2147483647) ∧ (-2147483648 ≤ i4 + 1 ∧ i4 + 1 ≤ 2147483647) then (kf_248 n dp e 2 I L i1 i2 (i3 + (-1)) (i4 + 1) v_36 v_53) else none)) else (if (L 119 (i3 - 1)) = 1 then (kf_248 n dp e 2 I L i1 i2 i3 v_53 v_36 v_53) else (if (-2147483648 ≤ i3 + (-1) ∧ i3 + (-1) ≤ 2147483647) ∧ (-2147483648 ≤ i4 + 1 ∧ i4 + 1 ≤ 2147483647) then (kf_248 n dp e 2 I L i1 i2 (i3 + (-1)) (i4 + 1) v_36 v_53) else none))) else none) else none)) else (if (-2147483648 ≤ i3 + (-1) ∧ i3 + (-1) ≤ 2147483647) ∧ (-2147483648 ≤ (i3 + (-1)) - 1 ∧ (i3 + (-1)) - 1 ≤ 2147483647) then (if 0 ≤ ((i3 + (-1)) - 1) ∧ ((i3 + (-1)) - 1) < 400 then (if 0 ≤ (i3 + (-1)) ∧ (i3 + (-1)) < 400 then (if 1 ≤ dp then ((kf_249 n (dp - 1) e 0 I L v_36 (L 119 ((i3 + (-1)) - 1)) (L 119 (i3 + (-1)))).bind (fun ⟨x0_129, I0_129, L0_129⟩ => (if 0 ≤ ((i3 + (-1)) - 1) ∧ ((i3 + (-1)) - 1) < 400 then (stI (w2 L0_129 119 ((i3 + (-1)) - 1) x0_129) (fun L_132 => (if (I0_129 105 29) = 0 then (if 0 ≤ ((i3 + (-1)) - 1) ∧ ((i3 + (-1)) - 1) < 400 then (if 1 ≤ dp then ((kf_193 n (dp - 1) e 0 I0_129 L_132 (L_132 119 ((i3 + (-1)) - 1)) (-1000000000) 1000000000).bind (fun ⟨x1_155, I1_155, L1_155⟩ => (if x1_155 = 0 then (stI (w2 I1_155 105 29 1) (fun I_166 => (if -2147483648 ≤ i4 + 1 ∧ i4 + 1 ≤ 2147483647 then (kf_248 n dp e 2 I_166 L1_155 i1 i2 (i3 + (-1)) (i4 + 1) v_36 v_53) else none))) else (stI (w2 I1_155 105 29 0) (fun I_166 => (if -2147483648 ≤ i4 + 1 ∧ i4 + 1 ≤ 2147483647 then (kf_248 n dp e 2 I_166 L1_155 i1 i2 (i3 + (-1)) (i4 + 1) v_36 v_53) else none)))))) else none) else none) else (stI (w2 I0_129 105 29 1) (fun I_166 => (if -2147483648 ≤ i4 + 1 ∧ i4 + 1 ≤ 2147483647 then (kf_248 n dp e 2 I_166 L_132 i1 i2 (i3 + (-1)) (i4 + 1) v_36 v_53) else none)))))) else none))) else none) else none) else none) else none)) else (if v_36 = 0 then (if 0 ≤ i3 ∧ i3 < 400 then (stI (w2 L 119 i3 v_53) (fun L_88 => (if (-2147483648 ≤ i3 + 1 ∧ i3 + 1 ≤ 2147483647) ∧ (-2147483648 ≤ i4 + 1 ∧ i4 + 1 ≤ 2147483647) then (kf_248 n dp e 2 I L_88 i1 i2 (i3 + 1) (i4 + 1) v_36 v_53) else none))) else none) else (if 0 ≤ v_36 ∧ v_36 < 13 then (if 0 ≤ i3 ∧ i3 < 400 then (stI (w2 L 119 i3 (L 118 v_36)) (fun L_88 => (if (-2147483648 ≤ i3 + 1 ∧ i3 + 1 ≤ 2147483647) ∧ (-2147483648 ≤ i4 + 1 ∧ i4 + 1 ≤ 2147483647) then (kf_248 n dp e 2 I L_88 i1 i2 (i3 + 1) (i4 + 1) v_36 v_53) else none))) else none) else none))))) else none) else none))) else none) else none) else (kf_248 n dp e 3 I L i1 i2 i3 i4 0 0)))
    else if lab = 2 then (kf_248 n dp e 1 I L i1 i2 i3 i4 0 0)
    else if lab = 3 then (if i3 ≤ 0 then (stI (w2 L 105 30 0) (fun L_252 => (some (I, L_252)))) else (stI (w2 L 105 30 (L 119 0)) (fun L_252 => (some (I, L_252)))))
    else none
set_option maxRecDepth 100000 in
theorem ke_248_0 (n : Nat) (dp : Nat) (e : EN) (I : JI) (L : JI) (i1 : Int) (i2 : Int) (i3 : Int) (i4 : Int) (i5 : Int) (i6 : Int) : kf_248 (n + 1) dp e 0 I L i1 i2 i3 i4 i5 i6 = (stI (w2 I 105 29 0) (fun I_2 => (kf_248 n dp e 1 I_2 L i1 i2 0 i1 0 0))) := by rw [kf_248.eq_2, if_pos (show (0 : Nat) = 0 from rfl)]
set_option maxRecDepth 100000 in
theorem ke_248_1 (n : Nat) (dp : Nat) (e : EN) (I : JI) (L : JI) (i1 : Int) (i2 : Int) (i3 : Int) (i4 : Int) (i5 : Int) (i6 : Int) : kf_248 (n + 1) dp e 1 I L i1 i2 i3 i4 i5 i6 = (if i2 ≤ i4 then (kf_248 n dp e 3 I L i1 i2 i3 i4 0 0) else (if (I 105 29) = 0 then (if (-2147483648 ≤ 2 * i4 ∧ 2 * i4 ≤ 2147483647) ∧ (-2147483648 ≤ 664 + (2 * i4) ∧ 664 + (2 * i4) ≤ 2147483647) then (if 0 ≤ (664 + (2 * i4)) ∧ (664 + (2 * i4)) < 1570 then (stI (I 107 (664 + (2 * i4))) (fun v_36 => (if -2147483648 ≤ (664 + (2 * i4)) + 1 ∧ (664 + (2 * i4)) + 1 ≤ 2147483647 then (if 0 ≤ ((664 + (2 * i4)) + 1) ∧ ((664 + (2 * i4)) + 1) < 1570 then (stI (I 107 ((664 + (2 * i4)) + 1)) (fun v_53 => (if 20 ≤ v_36 then (if 27 ≤ v_36 then (if v_36 = 27 then (if -2147483648 ≤ i3 - 1 ∧ i3 - 1 ≤ 2147483647 then (if 0 ≤ (i3 - 1) ∧ (i3 - 1) < 400 then (if 0 ≤ (i3 - 1) ∧ (i3 - 1) < 400 then (if -9223372036854775808 ≤ 1 - (L 119 (i3 - 1)) ∧ 1 - (L 119 (i3 - 1)) ≤ 9223372036854775807 then (stI (w2 L 119 (i3 - 1) (1 - (L 119 (i3 - 1)))) (fun L_196 => (if -2147483648 ≤ i4 + 1 ∧ i4 + 1 ≤ 2147483647 then (kf_248 n dp e 2 I L_196 i1 i2 i3 (i4 + 1) v_36 v_53) else none))) else none) else none) else none) else none) else (if -2147483648 ≤ i3 - 1 ∧ i3 - 1 ≤ 2147483647 then (if 0 ≤ (i3 - 1) ∧ (i3 - 1) < 400 then (if v_36 = 28 then (if (L 119 (i3 - 1)) = 0 then (kf_248 n dp e 2 I L i1 i2 i3 v_53 v_36 v_53) else (if (-2147483648 ≤ i3 + (-1) ∧ i3 + (-1) ≤ 2147483647) ∧ (-2147483648 ≤ i4 + 1 ∧ i4 + 1 ≤ 2147483647) then (kf_248 n dp e 2 I L i1 i2 (i3 + (-1)) (i4 + 1) v_36 v_53) else none)) else (if (L 119 (i3 - 1)) = 1 then (kf_248 n dp e 2 I L i1 i2 i3 v_53 v_36 v_53) else (if (-2147483648 ≤ i3 + (-1) ∧ i3 + (-1) ≤ 2147483647) ∧ (-2147483648 ≤ i4 + 1 ∧ i4 + 1 ≤ 2147483647) then (kf_248 n dp e 2 I L i1 i2 (i3 + (-1)) (i4 + 1) v_36 v_53) else none))) else none) else none)) else (if (-2147483648 ≤ i3 + (-1) ∧ i3 + (-1) ≤ 2147483647) ∧ (-2147483648 ≤ (i3 + (-1)) - 1 ∧ (i3 + (-1)) - 1 ≤ 2147483647) then (if 0 ≤ ((i3 + (-1)) - 1) ∧ ((i3 + (-1)) - 1) < 400 then (if 0 ≤ (i3 + (-1)) ∧ (i3 + (-1)) < 400 then (if 1 ≤ dp then ((kf_249 n (dp - 1) e 0 I L v_36 (L 119 ((i3 + (-1)) - 1)) (L 119 (i3 + (-1)))).bind (fun ⟨x0_129, I0_129, L0_129⟩ => (if 0 ≤ ((i3 + (-1)) - 1) ∧ ((i3 + (-1)) - 1) < 400 then (stI (w2 L0_129 119 ((i3 + (-1)) - 1) x0_129) (fun L_132 => (if (I0_129 105 29) = 0 then (if 0 ≤ ((i3 + (-1)) - 1) ∧ ((i3 + (-1)) - 1) < 400 then (if 1 ≤ dp then ((kf_193 n (dp - 1) e 0 I0_129 L_132 (L_132 119 ((i3 + (-1)) - 1)) (-1000000000) 1000000000).bind (fun ⟨x1_155, I1_155, L1_155⟩ => (if x1_155 = 0 then (stI (w2 I1_155 105 29 1) (fun I_166 => (if -2147483648 ≤ i4 + 1 ∧ i4 + 1 ≤ 2147483647 then (kf_248 n dp e 2 I_166 L1_155 i1 i2 (i3 + (-1)) (i4 + 1) v_36 v_53) else none))) else (stI (w2 I1_155 105 29 0) (fun I_166 => (if -2147483648 ≤ i4 + 1 ∧ i4 + 1 ≤ 2147483647 then (kf_248 n dp e 2 I_166 L1_155 i1 i2 (i3 + (-1)) (i4 + 1) v_36 v_53) else none)))))) else none) else none) else (stI (w2 I0_129 105 29 1) (fun I_166 => (if -2147483648 ≤ i4 + 1 ∧ i4 + 1 ≤ 2147483647 then (kf_248 n dp e 2 I_166 L_132 i1 i2 (i3 + (-1)) (i4 + 1) v_36 v_53) else none)))))) else none))) else none) else none) else none) else none)) else (if v_36 = 0 then (if 0 ≤ i3 ∧ i3 < 400 then (stI (w2 L 119 i3 v_53) (fun L_88 => (if (-2147483648 ≤ i3 + 1 ∧ i3 + 1 ≤ 2147483647) ∧ (-2147483648 ≤ i4 + 1 ∧ i4 + 1 ≤ 2147483647) then (kf_248 n dp e 2 I L_88 i1 i2 (i3 + 1) (i4 + 1) v_36 v_53) else none))) else none) else (if 0 ≤ v_36 ∧ v_36 < 13 then (if 0 ≤ i3 ∧ i3 < 400 then (stI (w2 L 119 i3 (L 118 v_36)) (fun L_88 => (if (-2147483648 ≤ i3 + 1 ∧ i3 + 1 ≤ 2147483647) ∧ (-2147483648 ≤ i4 + 1 ∧ i4 + 1 ≤ 2147483647) then (kf_248 n dp e 2 I L_88 i1 i2 (i3 + 1) (i4 + 1) v_36 v_53) else none))) else none) else none))))) else none) else none))) else none) else none) else (kf_248 n dp e 3 I L i1 i2 i3 i4 0 0))) := by rw [kf_248.eq_2, if_neg (show ¬ ((1 : Nat) = 0) by decide), if_pos (show (1 : Nat) = 1 from rfl)]
set_option maxRecDepth 100000 in
theorem ke_248_2 (n : Nat) (dp : Nat) (e : EN) (I : JI) (L : JI) (i1 : Int) (i2 : Int) (i3 : Int) (i4 : Int) (i5 : Int) (i6 : Int) : kf_248 (n + 1) dp e 2 I L i1 i2 i3 i4 i5 i6 = (kf_248 n dp e 1 I L i1 i2 i3 i4 0 0) := by rw [kf_248.eq_2, if_neg (show ¬ ((2 : Nat) = 0) by decide), if_neg (show ¬ ((2 : Nat) = 1) by decide), if_pos (show (2 : Nat) = 2 from rfl)]
set_option maxRecDepth 100000 in
theorem ke_248_3 (n : Nat) (dp : Nat) (e : EN) (I : JI) (L : JI) (i1 : Int) (i2 : Int) (i3 : Int) (i4 : Int) (i5 : Int) (i6 : Int) : kf_248 (n + 1) dp e 3 I L i1 i2 i3 i4 i5 i6 = (if i3 ≤ 0 then (stI (w2 L 105 30 0) (fun L_252 => (some (I, L_252)))) else (stI (w2 L 105 30 (L 119 0)) (fun L_252 => (some (I, L_252))))) := by rw [kf_248.eq_2, if_neg (show ¬ ((3 : Nat) = 0) by decide), if_neg (show ¬ ((3 : Nat) = 1) by decide), if_neg (show ¬ ((3 : Nat) = 2) by decide), if_pos (show (3 : Nat) = 3 from rfl)]
set_option maxHeartbeats 8000000 in
set_option maxRecDepth 100000 in
theorem ks_248 : ∀ (n : Nat) (dp : Nat) (e : EN) (lab : Nat) (I : Nat → Nat → Int32) (I' : JI) (L : Nat → Nat → Int64) (L' : JI) (i1 : Int32) (i1' : Int) (i2 : Int32) (i2' : Int) (i3 : Int32) (i3' : Int) (i4 : Int32) (i4' : Int) (i5 : Int32) (i5' : Int) (i6 : Int32) (i6' : Int), Rli I I' → Rll L L' → Ui i1 i1' → Ui i2 i2' → Ui i3 i3' → Ui i4 i4' → Ui i5 i5' → Ui i6 i6' → Sim R2 (g_248 n dp e lab I L i1 i2 i3 i4 i5 i6) (kf_248 n dp e lab I' L' i1' i2' i3' i4' i5' i6') := by
  intro n
  induction n with
  | zero => intros; rw [kf_248.eq_1]; exact Sn
  | succ n ih =>
    intro dp e lab I I' L L' i1 i1' i2 i2' i3 i3' i4 i4' i5 i5' i6 i6' u_I u_L u_i1 u_i2 u_i3 u_i4 u_i5 u_i6
    rw [g_248.eq_2, kf_248.eq_2]
    refine Sc Iff.rfl (fun _ => ?_) (fun _ => ?_)
    · refine SsJ (ri_up u_I (rfl : ((29 : Nat) : Int) = 29) (rfl : Ui (0) (0))) (fun I_2 I_2' u_I_2 => ?_)
      exact (ih dp e 1 _ _ _ _ _ _ _ _ _ _ _ _ _ _ _ _ u_I_2 u_L u_i1 u_i2 (rfl : Ui (0) (0)) u_i1 (rfl : Ui 0 0) (rfl : Ui 0 0))
    refine Sc Iff.rfl (fun _ => ?_) (fun _ => ?_)
    · refine Sc (le_up u_i2 u_i4) (fun c1 => ?_) (fun c1 => ?_)
      · exact (ih dp e 3 _ _ _ _ _ _ _ _ _ _ _ _ _ _ _ _ u_I u_L u_i1 u_i2 u_i3 u_i4 (rfl : Ui 0 0) (rfl : Ui 0 0))
      · refine Sc (eq_up (u_I 105 29) (rfl : Ui 0 0)) (fun c2 => ?_) (fun c2 => ?_)
        · refine Sg (fun g3 => ?_)
          refine Sc (ix_up (ui_add (rfl : Ui (664) (664)) (ui_mul (rfl : Ui (2) (2)) u_i4 g3.1) g3.2)) (fun c4 => ?_) (fun _ => Sn)
          refine SsI (ui_rd (a := 107) u_I (ui_add (rfl : Ui (664) (664)) (ui_mul (rfl : Ui (2) (2)) u_i4 g3.1) g3.2) c4.1) (fun v_36 v_36' u_v_36 => ?_)
          refine Sg (fun g5 => ?_)
          refine Sc (ix_up (ui_add (ui_add (rfl : Ui (664) (664)) (ui_mul (rfl : Ui (2) (2)) u_i4 g3.1) g3.2) (rfl : Ui (1) (1)) g5)) (fun c6 => ?_) (fun _ => Sn)
          refine SsI (ui_rd (a := 107) u_I (ui_add (ui_add (rfl : Ui (664) (664)) (ui_mul (rfl : Ui (2) (2)) u_i4 g3.1) g3.2) (rfl : Ui (1) (1)) g5) c6.1) (fun v_53 v_53' u_v_53 => ?_)
          refine Sc (le_up (rfl : Ui (20) (20)) u_v_36) (fun c7 => ?_) (fun c7 => ?_)
          · refine Sc (le_up (rfl : Ui (27) (27)) u_v_36) (fun c8 => ?_) (fun c8 => ?_)
            · refine Sc (eq_up u_v_36 (rfl : Ui (27) (27))) (fun c9 => ?_) (fun c9 => ?_)
              · refine Sg (fun g10 => ?_)
                refine Sc (ix_up (ui_sub u_i3 (rfl : Ui (1) (1)) g10)) (fun c11 => ?_) (fun _ => Sn)
                refine Sc (ix_up (ui_sub u_i3 (rfl : Ui (1) (1)) g10)) (fun c12 => ?_) (fun _ => Sn)
                refine Sg (fun g13 => ?_)
                refine SsM (rl_up u_L (kc_up (ui_sub u_i3 (rfl : Ui (1) (1)) g10) c12.1) (ul_sub (rfl : Ul (1) (1)) (ul_rd (a := 119) u_L (ui_sub u_i3 (rfl : Ui (1) (1)) g10) c12.1) g13)) (fun L_196 L_196' u_L_196 => ?_)
                refine Sg (fun g14 => ?_)
                exact (ih dp e 2 _ _ _ _ _ _ _ _ _ _ _ _ _ _ _ _ u_I u_L_196 u_i1 u_i2 u_i3 (ui_add u_i4 (rfl : Ui (Int32.ofInt (1)) (1)) g14) u_v_36 u_v_53)
              · refine Sg (fun g15 => ?_)
                refine Sc (ix_up (ui_sub u_i3 (rfl : Ui (1) (1)) g15)) (fun c16 => ?_) (fun _ => Sn)
                refine Sc (eq_up u_v_36 (rfl : Ui (28) (28))) (fun c17 => ?_) (fun c17 => ?_)
                · refine Sc (lce_up (ul_rd (a := 119) u_L (ui_sub u_i3 (rfl : Ui (1) (1)) g15) c16.1) (rfl : Ul (0) (0))) (fun c18 => ?_) (fun c18 => ?_)
                  · exact (ih dp e 2 _ _ _ _ _ _ _ _ _ _ _ _ _ _ _ _ u_I u_L u_i1 u_i2 u_i3 u_v_53 u_v_36 u_v_53)
                  · refine Sg (fun g19 => ?_)
                    exact (ih dp e 2 _ _ _ _ _ _ _ _ _ _ _ _ _ _ _ _ u_I u_L u_i1 u_i2 (ui_add u_i3 (rfl : Ui (Int32.ofInt (-1)) (-1)) g19.1) (ui_add u_i4 (rfl : Ui (Int32.ofInt (1)) (1)) g19.2) u_v_36 u_v_53)
                · refine Sc (lce_up (ul_rd (a := 119) u_L (ui_sub u_i3 (rfl : Ui (1) (1)) g15) c16.1) (rfl : Ul (1) (1))) (fun c20 => ?_) (fun c20 => ?_)
                  · exact (ih dp e 2 _ _ _ _ _ _ _ _ _ _ _ _ _ _ _ _ u_I u_L u_i1 u_i2 u_i3 u_v_53 u_v_36 u_v_53)
                  · refine Sg (fun g21 => ?_)
                    exact (ih dp e 2 _ _ _ _ _ _ _ _ _ _ _ _ _ _ _ _ u_I u_L u_i1 u_i2 (ui_add u_i3 (rfl : Ui (Int32.ofInt (-1)) (-1)) g21.1) (ui_add u_i4 (rfl : Ui (Int32.ofInt (1)) (1)) g21.2) u_v_36 u_v_53)
            · refine Sg (fun g22 => ?_)
              refine Sc (ix_up (ui_sub (ui_add u_i3 (rfl : Ui (Int32.ofInt (-1)) (-1)) g22.1) (rfl : Ui (1) (1)) g22.2)) (fun c23 => ?_) (fun _ => Sn)
              refine Sc (ix_up (ui_add u_i3 (rfl : Ui (Int32.ofInt (-1)) (-1)) g22.1)) (fun c24 => ?_) (fun _ => Sn)
              refine Sc Iff.rfl (fun c25 => ?_) (fun _ => Sn)
              refine Sb3l (ks_249 n (dp - 1) e 0 _ _ _ _ _ _ _ _ _ _ u_I u_L u_v_36 (ul_rd (a := 119) u_L (ui_sub (ui_add u_i3 (rfl : Ui (Int32.ofInt (-1)) (-1)) g22.1) (rfl : Ui (1) (1)) g22.2) c23.1) (ul_rd (a := 119) u_L (ui_add u_i3 (rfl : Ui (Int32.ofInt (-1)) (-1)) g22.1) c24.1)) (fun x0_129 x0_129' I0_129 I0_129' L0_129 L0_129' u_x0_129 u_I0_129 u_L0_129 => ?_)
              refine Sc (ix_up (ui_sub (ui_add u_i3 (rfl : Ui (Int32.ofInt (-1)) (-1)) g22.1) (rfl : Ui (1) (1)) g22.2)) (fun c26 => ?_) (fun _ => Sn)
              refine SsM (rl_up u_L0_129 (kc_up (ui_sub (ui_add u_i3 (rfl : Ui (Int32.ofInt (-1)) (-1)) g22.1) (rfl : Ui (1) (1)) g22.2) c26.1) u_x0_129) (fun L_132 L_132' u_L_132 => ?_)
              refine Sc (eq_up (u_I0_129 105 29) (rfl : Ui 0 0)) (fun c27 => ?_) (fun c27 => ?_)
              · refine Sc (ix_up (ui_sub (ui_add u_i3 (rfl : Ui (Int32.ofInt (-1)) (-1)) g22.1) (rfl : Ui (1) (1)) g22.2)) (fun c28 => ?_) (fun _ => Sn)
                refine Sc Iff.rfl (fun c29 => ?_) (fun _ => Sn)
                refine Sb3 (ks_193 n (dp - 1) e 0 _ _ _ _ _ _ _ _ _ _ u_I0_129 u_L_132 (ul_rd (a := 119) u_L_132 (ui_sub (ui_add u_i3 (rfl : Ui (Int32.ofInt (-1)) (-1)) g22.1) (rfl : Ui (1) (1)) g22.2) c28.1) (rfl : Ul (-1000000000) (-1000000000)) (rfl : Ul (1000000000) (1000000000))) (fun x1_155 x1_155' I1_155 I1_155' L1_155 L1_155' u_x1_155 u_I1_155 u_L1_155 => ?_)
                refine Sc (eq_up u_x1_155 (rfl : Ui 0 0)) (fun c30 => ?_) (fun c30 => ?_)
                · refine SsJ (ri_up u_I1_155 (rfl : ((29 : Nat) : Int) = 29) (rfl : Ui (1) (1))) (fun I_166 I_166' u_I_166 => ?_)
                  refine Sg (fun g31 => ?_)
                  exact (ih dp e 2 _ _ _ _ _ _ _ _ _ _ _ _ _ _ _ _ u_I_166 u_L1_155 u_i1 u_i2 (ui_add u_i3 (rfl : Ui (Int32.ofInt (-1)) (-1)) g22.1) (ui_add u_i4 (rfl : Ui (Int32.ofInt (1)) (1)) g31) u_v_36 u_v_53)
                · refine SsJ (ri_up u_I1_155 (rfl : ((29 : Nat) : Int) = 29) (rfl : Ui (0) (0))) (fun I_166 I_166' u_I_166 => ?_)
                  refine Sg (fun g32 => ?_)
                  exact (ih dp e 2 _ _ _ _ _ _ _ _ _ _ _ _ _ _ _ _ u_I_166 u_L1_155 u_i1 u_i2 (ui_add u_i3 (rfl : Ui (Int32.ofInt (-1)) (-1)) g22.1) (ui_add u_i4 (rfl : Ui (Int32.ofInt (1)) (1)) g32) u_v_36 u_v_53)
              · refine SsJ (ri_up u_I0_129 (rfl : ((29 : Nat) : Int) = 29) (rfl : Ui (1) (1))) (fun I_166 I_166' u_I_166 => ?_)
                refine Sg (fun g33 => ?_)
                exact (ih dp e 2 _ _ _ _ _ _ _ _ _ _ _ _ _ _ _ _ u_I_166 u_L_132 u_i1 u_i2 (ui_add u_i3 (rfl : Ui (Int32.ofInt (-1)) (-1)) g22.1) (ui_add u_i4 (rfl : Ui (Int32.ofInt (1)) (1)) g33) u_v_36 u_v_53)
          · refine Sc (eq_up u_v_36 (rfl : Ui 0 0)) (fun c34 => ?_) (fun c34 => ?_)
            · refine Sc (ix_up u_i3) (fun c35 => ?_) (fun _ => Sn)
              refine SsM (rl_up u_L (kc_up u_i3 c35.1) (ul_i2l u_v_53)) (fun L_88 L_88' u_L_88 => ?_)
              refine Sg (fun g36 => ?_)
              exact (ih dp e 2 _ _ _ _ _ _ _ _ _ _ _ _ _ _ _ _ u_I u_L_88 u_i1 u_i2 (ui_add u_i3 (rfl : Ui (Int32.ofInt (1)) (1)) g36.1) (ui_add u_i4 (rfl : Ui (Int32.ofInt (1)) (1)) g36.2) u_v_36 u_v_53)
            · refine Sc (ix_up u_v_36) (fun c37 => ?_) (fun _ => Sn)
              refine Sc (ix_up u_i3) (fun c38 => ?_) (fun _ => Sn)
              refine SsM (rl_up u_L (kc_up u_i3 c38.1) (ul_rd (a := 118) u_L u_v_36 c37.1)) (fun L_88 L_88' u_L_88 => ?_)
              refine Sg (fun g39 => ?_)
              exact (ih dp e 2 _ _ _ _ _ _ _ _ _ _ _ _ _ _ _ _ u_I u_L_88 u_i1 u_i2 (ui_add u_i3 (rfl : Ui (Int32.ofInt (1)) (1)) g39.1) (ui_add u_i4 (rfl : Ui (Int32.ofInt (1)) (1)) g39.2) u_v_36 u_v_53)
        · exact (ih dp e 3 _ _ _ _ _ _ _ _ _ _ _ _ _ _ _ _ u_I u_L u_i1 u_i2 u_i3 u_i4 (rfl : Ui 0 0) (rfl : Ui 0 0))
    refine Sc Iff.rfl (fun _ => ?_) (fun _ => ?_)
    · exact (ih dp e 1 _ _ _ _ _ _ _ _ _ _ _ _ _ _ _ _ u_I u_L u_i1 u_i2 u_i3 u_i4 (rfl : Ui 0 0) (rfl : Ui 0 0))
    refine Sc Iff.rfl (fun _ => ?_) (fun _ => ?_)
    · refine Sc (le_up u_i3 (rfl : Ui 0 0)) (fun c1 => ?_) (fun c1 => ?_)
      · refine SsM (rl_up u_L (rfl : ((30 : Nat) : Int) = 30) (rfl : Ul (0) (0))) (fun L_252 L_252' u_L_252 => ?_)
        exact Sr ⟨u_I, u_L_252⟩
      · refine SsM (rl_up u_L (rfl : ((30 : Nat) : Int) = 30) (u_L 119 0)) (fun L_252 L_252' u_L_252 => ?_)
        exact Sr ⟨u_I, u_L_252⟩
    exact Sn
set_option maxHeartbeats 4000000 in
set_option maxRecDepth 100000 in
def kf_247 : Nat → Nat → EN → Nat → JI → JI → Int → Option (Int × JI × JI)
  | 0, _, _, _, _, _, _ => none
  | n + 1, dp, e, lab, I, L, i1 =>
    if lab = 0 then (if -2147483648 ≤ i1 + 5 ∧ i1 + 5 ≤ 2147483647 then (if 0 ≤ (i1 + 5) ∧ (i1 + 5) < 1570 then (if -2147483648 ≤ i1 + 6 ∧ i1 + 6 ≤ 2147483647 then (if 0 ≤ (i1 + 6) ∧ (i1 + 6) < 1570 then (if (I 107 (i1 + 6)) ≤ (I 107 (i1 + 5)) then (kf_247 n dp e 1 I L i1) else (if 0 ≤ (i1 + 5) ∧ (i1 + 5) < 1570 then (if 0 ≤ (i1 + 6) ∧ (i1 + 6) < 1570 then (if 1 ≤ dp then ((kf_248 n (dp - 1) e 0 I L (I 107 (i1 + 5)) (I 107 (i1 + 6)) 0 0 0 0).bind (fun ⟨I0_38, L0_38⟩ => (if (I0_38 105 29) = 0 then (if (L0_38 105 30) = 0 then (some ((0 : Int), I0_38, L0_38)) else (kf_247 n dp e 1 I0_38 L0_38 i1)) else (some ((0 : Int), I0_38, L0_38))))) else none) else none) else none)) else none) else none) else none) else none)
    else if lab = 1 then (if 0 ≤ i1 ∧ i1 < 1570 then (if (I 107 i1) = 2 then (some ((1 : Int), I, L)) else (if -2147483648 ≤ i1 + 3 ∧ i1 + 3 ≤ 2147483647 then (if 0 ≤ (i1 + 3) ∧ (i1 + 3) < 1570 then (if -2147483648 ≤ i1 + 4 ∧ i1 + 4 ≤ 2147483647 then (if 0 ≤ (i1 + 4) ∧ (i1 + 4) < 1570 then (if 1 ≤ dp then ((kf_248 n (dp - 1) e 0 I L (I 107 (i1 + 3)) (I 107 (i1 + 4)) 0 0 0 0).bind (fun ⟨I0_86, L0_86⟩ => (stI (w2 L0_86 105 31 (L0_86 105 30)) (fun L_94 => (if (I0_86 105 29) = 0 then (some ((1 : Int), I0_86, L_94)) else (some ((0 : Int), I0_86, L_94))))))) else none) else none) else none) else none) else none)) else none)
    else none
set_option maxRecDepth 100000 in
theorem ke_247_0 (n : Nat) (dp : Nat) (e : EN) (I : JI) (L : JI) (i1 : Int) : kf_247 (n + 1) dp e 0 I L i1 = (if -2147483648 ≤ i1 + 5 ∧ i1 + 5 ≤ 2147483647 then (if 0 ≤ (i1 + 5) ∧ (i1 + 5) < 1570 then (if -2147483648 ≤ i1 + 6 ∧ i1 + 6 ≤ 2147483647 then (if 0 ≤ (i1 + 6) ∧ (i1 + 6) < 1570 then (if (I 107 (i1 + 6)) ≤ (I 107 (i1 + 5)) then (kf_247 n dp e 1 I L i1) else (if 0 ≤ (i1 + 5) ∧ (i1 + 5) < 1570 then (if 0 ≤ (i1 + 6) ∧ (i1 + 6) < 1570 then (if 1 ≤ dp then ((kf_248 n (dp - 1) e 0 I L (I 107 (i1 + 5)) (I 107 (i1 + 6)) 0 0 0 0).bind (fun ⟨I0_38, L0_38⟩ => (if (I0_38 105 29) = 0 then (if (L0_38 105 30) = 0 then (some ((0 : Int), I0_38, L0_38)) else (kf_247 n dp e 1 I0_38 L0_38 i1)) else (some ((0 : Int), I0_38, L0_38))))) else none) else none) else none)) else none) else none) else none) else none) := by rw [kf_247.eq_2, if_pos (show (0 : Nat) = 0 from rfl)]
set_option maxRecDepth 100000 in
theorem ke_247_1 (n : Nat) (dp : Nat) (e : EN) (I : JI) (L : JI) (i1 : Int) : kf_247 (n + 1) dp e 1 I L i1 = (if 0 ≤ i1 ∧ i1 < 1570 then (if (I 107 i1) = 2 then (some ((1 : Int), I, L)) else (if -2147483648 ≤ i1 + 3 ∧ i1 + 3 ≤ 2147483647 then (if 0 ≤ (i1 + 3) ∧ (i1 + 3) < 1570 then (if -2147483648 ≤ i1 + 4 ∧ i1 + 4 ≤ 2147483647 then (if 0 ≤ (i1 + 4) ∧ (i1 + 4) < 1570 then (if 1 ≤ dp then ((kf_248 n (dp - 1) e 0 I L (I 107 (i1 + 3)) (I 107 (i1 + 4)) 0 0 0 0).bind (fun ⟨I0_86, L0_86⟩ => (stI (w2 L0_86 105 31 (L0_86 105 30)) (fun L_94 => (if (I0_86 105 29) = 0 then (some ((1 : Int), I0_86, L_94)) else (some ((0 : Int), I0_86, L_94))))))) else none) else none) else none) else none) else none)) else none) := by rw [kf_247.eq_2, if_neg (show ¬ ((1 : Nat) = 0) by decide), if_pos (show (1 : Nat) = 1 from rfl)]
set_option maxHeartbeats 8000000 in
set_option maxRecDepth 100000 in
theorem ks_247 : ∀ (n : Nat) (dp : Nat) (e : EN) (lab : Nat) (I : Nat → Nat → Int32) (I' : JI) (L : Nat → Nat → Int64) (L' : JI) (i1 : Int32) (i1' : Int), Rli I I' → Rll L L' → Ui i1 i1' → Sim R3 (g_247 n dp e lab I L i1) (kf_247 n dp e lab I' L' i1') := by
  intro n
  induction n with
  | zero => intros; rw [kf_247.eq_1]; exact Sn
  | succ n ih =>
    intro dp e lab I I' L L' i1 i1' u_I u_L u_i1
    rw [g_247.eq_2, kf_247.eq_2]
    refine Sc Iff.rfl (fun _ => ?_) (fun _ => ?_)
    · refine Sg (fun g1 => ?_)
      refine Sc (ix_up (ui_add u_i1 (rfl : Ui (5) (5)) g1)) (fun c2 => ?_) (fun _ => Sn)
      refine Sg (fun g3 => ?_)
      refine Sc (ix_up (ui_add u_i1 (rfl : Ui (6) (6)) g3)) (fun c4 => ?_) (fun _ => Sn)
      refine Sc (le_up (ui_rd (a := 107) u_I (ui_add u_i1 (rfl : Ui (6) (6)) g3) c4.1) (ui_rd (a := 107) u_I (ui_add u_i1 (rfl : Ui (5) (5)) g1) c2.1)) (fun c5 => ?_) (fun c5 => ?_)
      · exact (ih dp e 1 _ _ _ _ _ _ u_I u_L u_i1)
      · refine Sc (ix_up (ui_add u_i1 (rfl : Ui (5) (5)) g1)) (fun c6 => ?_) (fun _ => Sn)
        refine Sc (ix_up (ui_add u_i1 (rfl : Ui (6) (6)) g3)) (fun c7 => ?_) (fun _ => Sn)
        refine Sc Iff.rfl (fun c8 => ?_) (fun _ => Sn)
        refine Sb2 (ks_248 n (dp - 1) e 0 _ _ _ _ _ _ _ _ _ _ _ _ _ _ _ _ u_I u_L (ui_rd (a := 107) u_I (ui_add u_i1 (rfl : Ui (5) (5)) g1) c6.1) (ui_rd (a := 107) u_I (ui_add u_i1 (rfl : Ui (6) (6)) g3) c7.1) (rfl : Ui 0 0) (rfl : Ui 0 0) (rfl : Ui 0 0) (rfl : Ui 0 0)) (fun I0_38 I0_38' L0_38 L0_38' u_I0_38 u_L0_38 => ?_)
        refine Sc (eq_up (u_I0_38 105 29) (rfl : Ui 0 0)) (fun c9 => ?_) (fun c9 => ?_)
        · refine Sc (lce_up (u_L0_38 105 30) (rfl : Ul (0) (0))) (fun c10 => ?_) (fun c10 => ?_)
          · exact Sr ⟨(rfl : Ui (0) (0)), u_I0_38, u_L0_38⟩
          · exact (ih dp e 1 _ _ _ _ _ _ u_I0_38 u_L0_38 u_i1)
        · exact Sr ⟨(rfl : Ui (0) (0)), u_I0_38, u_L0_38⟩
    refine Sc Iff.rfl (fun _ => ?_) (fun _ => ?_)
    · refine Sc (ix_up u_i1) (fun c1 => ?_) (fun _ => Sn)
      refine Sc (eq_up (ui_rd (a := 107) u_I u_i1 c1.1) (rfl : Ui (2) (2))) (fun c2 => ?_) (fun c2 => ?_)
      · exact Sr ⟨(rfl : Ui (1) (1)), u_I, u_L⟩
      · refine Sg (fun g3 => ?_)
        refine Sc (ix_up (ui_add u_i1 (rfl : Ui (3) (3)) g3)) (fun c4 => ?_) (fun _ => Sn)
        refine Sg (fun g5 => ?_)
        refine Sc (ix_up (ui_add u_i1 (rfl : Ui (4) (4)) g5)) (fun c6 => ?_) (fun _ => Sn)
        refine Sc Iff.rfl (fun c7 => ?_) (fun _ => Sn)
        refine Sb2 (ks_248 n (dp - 1) e 0 _ _ _ _ _ _ _ _ _ _ _ _ _ _ _ _ u_I u_L (ui_rd (a := 107) u_I (ui_add u_i1 (rfl : Ui (3) (3)) g3) c4.1) (ui_rd (a := 107) u_I (ui_add u_i1 (rfl : Ui (4) (4)) g5) c6.1) (rfl : Ui 0 0) (rfl : Ui 0 0) (rfl : Ui 0 0) (rfl : Ui 0 0)) (fun I0_86 I0_86' L0_86 L0_86' u_I0_86 u_L0_86 => ?_)
        refine SsM (rl_up u_L0_86 (rfl : ((31 : Nat) : Int) = 31) (u_L0_86 105 30)) (fun L_94 L_94' u_L_94 => ?_)
        refine Sc (eq_up (u_I0_86 105 29) (rfl : Ui 0 0)) (fun c8 => ?_) (fun c8 => ?_)
        · exact Sr ⟨(rfl : Ui (1) (1)), u_I0_86, u_L_94⟩
        · exact Sr ⟨(rfl : Ui (0) (0)), u_I0_86, u_L_94⟩
    exact Sn
set_option maxHeartbeats 4000000 in
set_option maxRecDepth 100000 in
def kf_246 : Nat → Nat → EN → Nat → JI → JI → Int → Int → Int → Int → Int → Int → Int → Int → Int → Option (Int × JI × JI)
  | 0, _, _, _, _, _, _, _, _, _, _, _, _, _, _ => none
  | n + 1, dp, e, lab, I, L, i1, i2, i3, i4, i5, i8, i9, i10, j6 =>
    if lab = 0 then (stI (w2 L 118 1 i3) (fun L_7 => (if 1 ≤ dp then ((kf_240 n (dp - 1) e 0 I L_7 i2).bind (fun ⟨x0_15, I0_15, L0_15⟩ => (stI (w2 L0_15 118 2 x0_15) (fun L_19 => (stI (w2 L_19 118 3 i2) (fun L_27 => (stI (w2 L_27 118 4 (I0_15 107 4)) (fun L_40 => (if 1 ≤ dp then ((kf_240 n (dp - 1) e 0 I0_15 L_40 i2).bind (fun ⟨x1_49, I1_49, L1_49⟩ => (if 1 ≤ dp then ((kf_244 n (dp - 1) e 0 I1_49 L1_49 x1_49 i3).bind (fun ⟨x2_53, I2_53, L2_53⟩ => (stI (w2 L2_53 118 5 x2_53) (fun L_57 => (kf_246 n dp e 1 I2_53 L_57 i1 i2 i3 i4 i5 0 0 0 i4))))) else none))) else none))))))))) else none)))
    else if lab = 1 then (if (I 107 471) ≤ i8 then (if 0 ≤ j6 then (if j6 ≤ i5 then (if -2147483648 ≤ j6 ∧ j6 ≤ 2147483647 then (some ((j6 : Int), I, L)) else none) else (some ((i5 : Int), I, L))) else (some ((0 : Int), I, L))) else (if (-2147483648 ≤ 8 * i8 ∧ 8 * i8 ≤ 2147483647) ∧ (-2147483648 ≤ 472 + (8 * i8) ∧ 472 + (8 * i8) ≤ 2147483647) then (stI (472 + (8 * i8)) (fun v_88 => (if 0 ≤ v_88 ∧ v_88 < 1570 then (if (I 107 v_88) = i1 then (if i1 = 2 then (if -2147483648 ≤ v_88 + 1 ∧ v_88 + 1 ≤ 2147483647 then (if 0 ≤ (v_88 + 1) ∧ (v_88 + 1) < 1570 then (if (I 107 (v_88 + 1)) = i2 then (kf_246 n dp e 2 I L i1 i2 i3 i4 i5 i8 v_88 0 j6) else (kf_246 n dp e 3 I L i1 i2 i3 i4 i5 i8 v_88 0 j6)) else none) else none) else (kf_246 n dp e 2 I L i1 i2 i3 i4 i5 i8 v_88 0 j6)) else (kf_246 n dp e 3 I L i1 i2 i3 i4 i5 i8 v_88 0 j6)) else none))) else none))
    else if lab = 2 then (if (1 : Int) = 0 then (kf_246 n dp e 4 I L i1 i2 i3 i4 i5 i8 i9 1 j6) else (if 1 ≤ dp then ((kf_247 n (dp - 1) e 0 I L i9).bind (fun ⟨x0_134, I0_134, L0_134⟩ => (if x0_134 = 0 then (kf_246 n dp e 4 I0_134 L0_134 i1 i2 i3 i4 i5 i8 i9 1 j6) else (if i1 = 2 then (kf_246 n dp e 4 I0_134 L0_134 i1 i2 i3 i4 i5 i8 i9 1 1) else (kf_246 n dp e 4 I0_134 L0_134 i1 i2 i3 i4 i5 i8 i9 1 (L0_134 105 31)))))) else none))
    else if lab = 3 then (if (0 : Int) = 0 then (kf_246 n dp e 4 I L i1 i2 i3 i4 i5 i8 i9 0 j6) else (if 1 ≤ dp then ((kf_247 n (dp - 1) e 0 I L i9).bind (fun ⟨x0_134, I0_134, L0_134⟩ => (if x0_134 = 0 then (kf_246 n dp e 4 I0_134 L0_134 i1 i2 i3 i4 i5 i8 i9 0 j6) else (if i1 = 2 then (kf_246 n dp e 4 I0_134 L0_134 i1 i2 i3 i4 i5 i8 i9 0 1) else (kf_246 n dp e 4 I0_134 L0_134 i1 i2 i3 i4 i5 i8 i9 0 (L0_134 105 31)))))) else none))
    else if lab = 4 then (if -2147483648 ≤ i8 + 1 ∧ i8 + 1 ≤ 2147483647 then (kf_246 n dp e 1 I L i1 i2 i3 i4 i5 (i8 + 1) 0 0 j6) else none)
    else none
set_option maxRecDepth 100000 in
theorem ke_246_0 (n : Nat) (dp : Nat) (e : EN) (I : JI) (L : JI) (i1 : Int) (i2 : Int) (i3 : Int) (i4 : Int) (i5 : Int) (i8 : Int) (i9 : Int) (i10 : Int) (j6 : Int) : kf_246 (n + 1) dp e 0 I L i1 i2 i3 i4 i5 i8 i9 i10 j6 = (stI (w2 L 118 1 i3) (fun L_7 => (if 1 ≤ dp then ((kf_240 n (dp - 1) e 0 I L_7 i2).bind (fun ⟨x0_15, I0_15, L0_15⟩ => (stI (w2 L0_15 118 2 x0_15) (fun L_19 => (stI (w2 L_19 118 3 i2) (fun L_27 => (stI (w2 L_27 118 4 (I0_15 107 4)) (fun L_40 => (if 1 ≤ dp then ((kf_240 n (dp - 1) e 0 I0_15 L_40 i2).bind (fun ⟨x1_49, I1_49, L1_49⟩ => (if 1 ≤ dp then ((kf_244 n (dp - 1) e 0 I1_49 L1_49 x1_49 i3).bind (fun ⟨x2_53, I2_53, L2_53⟩ => (stI (w2 L2_53 118 5 x2_53) (fun L_57 => (kf_246 n dp e 1 I2_53 L_57 i1 i2 i3 i4 i5 0 0 0 i4))))) else none))) else none))))))))) else none))) := by rw [kf_246.eq_2, if_pos (show (0 : Nat) = 0 from rfl)]
set_option maxRecDepth 100000 in
theorem ke_246_1 (n : Nat) (dp : Nat) (e : EN) (I : JI) (L : JI) (i1 : Int) (i2 : Int) (i3 : Int) (i4 : Int) (i5 : Int) (i8 : Int) (i9 : Int) (i10 : Int) (j6 : Int) : kf_246 (n + 1) dp e 1 I L i1 i2 i3 i4 i5 i8 i9 i10 j6 = (if (I 107 471) ≤ i8 then (if 0 ≤ j6 then (if j6 ≤ i5 then (if -2147483648 ≤ j6 ∧ j6 ≤ 2147483647 then (some ((j6 : Int), I, L)) else none) else (some ((i5 : Int), I, L))) else (some ((0 : Int), I, L))) else (if (-2147483648 ≤ 8 * i8 ∧ 8 * i8 ≤ 2147483647) ∧ (-2147483648 ≤ 472 + (8 * i8) ∧ 472 + (8 * i8) ≤ 2147483647) then (stI (472 + (8 * i8)) (fun v_88 => (if 0 ≤ v_88 ∧ v_88 < 1570 then (if (I 107 v_88) = i1 then (if i1 = 2 then (if -2147483648 ≤ v_88 + 1 ∧ v_88 + 1 ≤ 2147483647 then (if 0 ≤ (v_88 + 1) ∧ (v_88 + 1) < 1570 then (if (I 107 (v_88 + 1)) = i2 then (kf_246 n dp e 2 I L i1 i2 i3 i4 i5 i8 v_88 0 j6) else (kf_246 n dp e 3 I L i1 i2 i3 i4 i5 i8 v_88 0 j6)) else none) else none) else (kf_246 n dp e 2 I L i1 i2 i3 i4 i5 i8 v_88 0 j6)) else (kf_246 n dp e 3 I L i1 i2 i3 i4 i5 i8 v_88 0 j6)) else none))) else none)) := by rw [kf_246.eq_2, if_neg (show ¬ ((1 : Nat) = 0) by decide), if_pos (show (1 : Nat) = 1 from rfl)]
set_option maxRecDepth 100000 in
theorem ke_246_2 (n : Nat) (dp : Nat) (e : EN) (I : JI) (L : JI) (i1 : Int) (i2 : Int) (i3 : Int) (i4 : Int) (i5 : Int) (i8 : Int) (i9 : Int) (i10 : Int) (j6 : Int) : kf_246 (n + 1) dp e 2 I L i1 i2 i3 i4 i5 i8 i9 i10 j6 = (if (1 : Int) = 0 then (kf_246 n dp e 4 I L i1 i2 i3 i4 i5 i8 i9 1 j6) else (if 1 ≤ dp then ((kf_247 n (dp - 1) e 0 I L i9).bind (fun ⟨x0_134, I0_134, L0_134⟩ => (if x0_134 = 0 then (kf_246 n dp e 4 I0_134 L0_134 i1 i2 i3 i4 i5 i8 i9 1 j6) else (if i1 = 2 then (kf_246 n dp e 4 I0_134 L0_134 i1 i2 i3 i4 i5 i8 i9 1 1) else (kf_246 n dp e 4 I0_134 L0_134 i1 i2 i3 i4 i5 i8 i9 1 (L0_134 105 31)))))) else none)) := by rw [kf_246.eq_2, if_neg (show ¬ ((2 : Nat) = 0) by decide), if_neg (show ¬ ((2 : Nat) = 1) by decide), if_pos (show (2 : Nat) = 2 from rfl)]
set_option maxRecDepth 100000 in
theorem ke_246_3 (n : Nat) (dp : Nat) (e : EN) (I : JI) (L : JI) (i1 : Int) (i2 : Int) (i3 : Int) (i4 : Int) (i5 : Int) (i8 : Int) (i9 : Int) (i10 : Int) (j6 : Int) : kf_246 (n + 1) dp e 3 I L i1 i2 i3 i4 i5 i8 i9 i10 j6 = (if (0 : Int) = 0 then (kf_246 n dp e 4 I L i1 i2 i3 i4 i5 i8 i9 0 j6) else (if 1 ≤ dp then ((kf_247 n (dp - 1) e 0 I L i9).bind (fun ⟨x0_134, I0_134, L0_134⟩ => (if x0_134 = 0 then (kf_246 n dp e 4 I0_134 L0_134 i1 i2 i3 i4 i5 i8 i9 0 j6) else (if i1 = 2 then (kf_246 n dp e 4 I0_134 L0_134 i1 i2 i3 i4 i5 i8 i9 0 1) else (kf_246 n dp e 4 I0_134 L0_134 i1 i2 i3 i4 i5 i8 i9 0 (L0_134 105 31)))))) else none)) := by rw [kf_246.eq_2, if_neg (show ¬ ((3 : Nat) = 0) by decide), if_neg (show ¬ ((3 : Nat) = 1) by decide), if_neg (show ¬ ((3 : Nat) = 2) by decide), if_pos (show (3 : Nat) = 3 from rfl)]
set_option maxRecDepth 100000 in
theorem ke_246_4 (n : Nat) (dp : Nat) (e : EN) (I : JI) (L : JI) (i1 : Int) (i2 : Int) (i3 : Int) (i4 : Int) (i5 : Int) (i8 : Int) (i9 : Int) (i10 : Int) (j6 : Int) : kf_246 (n + 1) dp e 4 I L i1 i2 i3 i4 i5 i8 i9 i10 j6 = (if -2147483648 ≤ i8 + 1 ∧ i8 + 1 ≤ 2147483647 then (kf_246 n dp e 1 I L i1 i2 i3 i4 i5 (i8 + 1) 0 0 j6) else none) := by rw [kf_246.eq_2, if_neg (show ¬ ((4 : Nat) = 0) by decide), if_neg (show ¬ ((4 : Nat) = 1) by decide), if_neg (show ¬ ((4 : Nat) = 2) by decide), if_neg (show ¬ ((4 : Nat) = 3) by decide), if_pos (show (4 : Nat) = 4 from rfl)]
set_option maxHeartbeats 8000000 in
set_option maxRecDepth 100000 in
theorem ks_246 : ∀ (n : Nat) (dp : Nat) (e : EN) (lab : Nat) (I : Nat → Nat → Int32) (I' : JI) (L : Nat → Nat → Int64) (L' : JI) (i1 : Int32) (i1' : Int) (i2 : Int32) (i2' : Int) (i3 : Int32) (i3' : Int) (i4 : Int32) (i4' : Int) (i5 : Int32) (i5' : Int) (i8 : Int32) (i8' : Int) (i9 : Int32) (i9' : Int) (i10 : Int32) (i10' : Int) (j6 : Int64) (j6' : Int), Rli I I' → Rll L L' → Ui i1 i1' → Ui i2 i2' → Ui i3 i3' → Ui i4 i4' → Ui i5 i5' → Ui i8 i8' → Ui i9 i9' → Ui i10 i10' → Ul j6 j6' → Sim R3 (g_246 n dp e lab I L i1 i2 i3 i4 i5 i8 i9 i10 j6) (kf_246 n dp e lab I' L' i1' i2' i3' i4' i5' i8' i9' i10' j6') := by
  intro n
  induction n with
  | zero => intros; rw [kf_246.eq_1]; exact Sn
  | succ n ih =>
    intro dp e lab I I' L L' i1 i1' i2 i2' i3 i3' i4 i4' i5 i5' i8 i8' i9 i9' i10 i10' j6 j6' u_I u_L u_i1 u_i2 u_i3 u_i4 u_i5 u_i8 u_i9 u_i10 u_j6
    rw [g_246.eq_2, kf_246.eq_2]
    refine Sc Iff.rfl (fun _ => ?_) (fun _ => ?_)
    · refine SsM (rl_up u_L (rfl : ((1 : Nat) : Int) = 1) (ul_i2l u_i3)) (fun L_7 L_7' u_L_7 => ?_)
      refine Sc Iff.rfl (fun c1 => ?_) (fun _ => Sn)
      refine Sb3 (ks_240 n (dp - 1) e 0 _ _ _ _ _ _ u_I u_L_7 u_i2) (fun x0_15 x0_15' I0_15 I0_15' L0_15 L0_15' u_x0_15 u_I0_15 u_L0_15 => ?_)
      refine SsM (rl_up u_L0_15 (rfl : ((2 : Nat) : Int) = 2) (ul_i2l u_x0_15)) (fun L_19 L_19' u_L_19 => ?_)
      refine SsM (rl_up u_L_19 (rfl : ((3 : Nat) : Int) = 3) (ul_i2l u_i2)) (fun L_27 L_27' u_L_27 => ?_)
      refine SsM (rl_up u_L_27 (rfl : ((4 : Nat) : Int) = 4) (ul_i2l (u_I0_15 107 4))) (fun L_40 L_40' u_L_40 => ?_)
      refine Sc Iff.rfl (fun c2 => ?_) (fun _ => Sn)
      refine Sb3 (ks_240 n (dp - 1) e 0 _ _ _ _ _ _ u_I0_15 u_L_40 u_i2) (fun x1_49 x1_49' I1_49 I1_49' L1_49 L1_49' u_x1_49 u_I1_49 u_L1_49 => ?_)
      refine Sc Iff.rfl (fun c3 => ?_) (fun _ => Sn)
      refine Sb3 (ks_244 n (dp - 1) e 0 _ _ _ _ _ _ _ _ u_I1_49 u_L1_49 u_x1_49 u_i3) (fun x2_53 x2_53' I2_53 I2_53' L2_53 L2_53' u_x2_53 u_I2_53 u_L2_53 => ?_)
      refine SsM (rl_up u_L2_53 (rfl : ((5 : Nat) : Int) = 5) (ul_i2l u_x2_53)) (fun L_57 L_57' u_L_57 => ?_)
      exact (ih dp e 1 _ _ _ _ _ _ _ _ _ _ _ _ _ _ _ _ _ _ _ _ _ _ u_I2_53 u_L_57 u_i1 u_i2 u_i3 u_i4 u_i5 (rfl : Ui (0) (0)) (rfl : Ui 0 0) (rfl : Ui 0 0) (ul_i2l u_i4))
    refine Sc Iff.rfl (fun _ => ?_) (fun _ => ?_)
    · refine Sc (le_up (u_I 107 471) u_i8) (fun c1 => ?_) (fun c1 => ?_)
      · refine Sc (lcge_up u_j6 (rfl : Ul (0) (0))) (fun c2 => ?_) (fun c2 => ?_)
        · refine Sc (lcle_up u_j6 (ul_i2l u_i5)) (fun c3 => ?_) (fun c3 => ?_)
          · refine Sg (fun g4 => ?_)
            exact Sr ⟨(ui_l2i u_j6 g4), u_I, u_L⟩
          · exact Sr ⟨u_i5, u_I, u_L⟩
        · exact Sr ⟨(rfl : Ui (0) (0)), u_I, u_L⟩
      · refine Sg (fun g5 => ?_)
        refine SsI (ui_add (rfl : Ui (472) (472)) (ui_mul (rfl : Ui (8) (8)) u_i8 g5.1) g5.2) (fun v_88 v_88' u_v_88 => ?_)
        refine Sc (ix_up u_v_88) (fun c6 => ?_) (fun _ => Sn)
        refine Sc (eq_up (ui_rd (a := 107) u_I u_v_88 c6.1) u_i1) (fun c7 => ?_) (fun c7 => ?_)
        · refine Sc (eq_up u_i1 (rfl : Ui (2) (2))) (fun c8 => ?_) (fun c8 => ?_)
          · refine Sg (fun g9 => ?_)
            refine Sc (ix_up (ui_add u_v_88 (rfl : Ui (1) (1)) g9)) (fun c10 => ?_) (fun _ => Sn)
            refine Sc (eq_up (ui_rd (a := 107) u_I (ui_add u_v_88 (rfl : Ui (1) (1)) g9) c10.1) u_i2) (fun c11 => ?_) (fun c11 => ?_)
            · exact (ih dp e 2 _ _ _ _ _ _ _ _ _ _ _ _ _ _ _ _ _ _ _ _ _ _ u_I u_L u_i1 u_i2 u_i3 u_i4 u_i5 u_i8 u_v_88 (rfl : Ui 0 0) u_j6)
            · exact (ih dp e 3 _ _ _ _ _ _ _ _ _ _ _ _ _ _ _ _ _ _ _ _ _ _ u_I u_L u_i1 u_i2 u_i3 u_i4 u_i5 u_i8 u_v_88 (rfl : Ui 0 0) u_j6)
          · exact (ih dp e 2 _ _ _ _ _ _ _ _ _ _ _ _ _ _ _ _ _ _ _ _ _ _ u_I u_L u_i1 u_i2 u_i3 u_i4 u_i5 u_i8 u_v_88 (rfl : Ui 0 0) u_j6)
        · exact (ih dp e 3 _ _ _ _ _ _ _ _ _ _ _ _ _ _ _ _ _ _ _ _ _ _ u_I u_L u_i1 u_i2 u_i3 u_i4 u_i5 u_i8 u_v_88 (rfl : Ui 0 0) u_j6)
    refine Sc Iff.rfl (fun _ => ?_) (fun _ => ?_)
    · refine Sc (eq_up (rfl : Ui (1) (1)) (rfl : Ui 0 0)) (fun c1 => ?_) (fun c1 => ?_)
      · exact (ih dp e 4 _ _ _ _ _ _ _ _ _ _ _ _ _ _ _ _ _ _ _ _ _ _ u_I u_L u_i1 u_i2 u_i3 u_i4 u_i5 u_i8 u_i9 (rfl : Ui (1) (1)) u_j6)
      · refine Sc Iff.rfl (fun c2 => ?_) (fun _ => Sn)
        refine Sb3 (ks_247 n (dp - 1) e 0 _ _ _ _ _ _ u_I u_L u_i9) (fun x0_134 x0_134' I0_134 I0_134' L0_134 L0_134' u_x0_134 u_I0_134 u_L0_134 => ?_)
        refine Sc (eq_up u_x0_134 (rfl : Ui 0 0)) (fun c3 => ?_) (fun c3 => ?_)
        · exact (ih dp e 4 _ _ _ _ _ _ _ _ _ _ _ _ _ _ _ _ _ _ _ _ _ _ u_I0_134 u_L0_134 u_i1 u_i2 u_i3 u_i4 u_i5 u_i8 u_i9 (rfl : Ui (1) (1)) u_j6)
        · refine Sc (eq_up u_i1 (rfl : Ui (2) (2))) (fun c4 => ?_) (fun c4 => ?_)
          · exact (ih dp e 4 _ _ _ _ _ _ _ _ _ _ _ _ _ _ _ _ _ _ _ _ _ _ u_I0_134 u_L0_134 u_i1 u_i2 u_i3 u_i4 u_i5 u_i8 u_i9 (rfl : Ui (1) (1)) (rfl : Ul (1) (1)))
          · exact (ih dp e 4 _ _ _ _ _ _ _ _ _ _ _ _ _ _ _ _ _ _ _ _ _ _ u_I0_134 u_L0_134 u_i1 u_i2 u_i3 u_i4 u_i5 u_i8 u_i9 (rfl : Ui (1) (1)) (u_L0_134 105 31))
    refine Sc Iff.rfl (fun _ => ?_) (fun _ => ?_)
    · refine Sc (eq_up (rfl : Ui (0) (0)) (rfl : Ui 0 0)) (fun c1 => ?_) (fun c1 => ?_)
      · exact (ih dp e 4 _ _ _ _ _ _ _ _ _ _ _ _ _ _ _ _ _ _ _ _ _ _ u_I u_L u_i1 u_i2 u_i3 u_i4 u_i5 u_i8 u_i9 (rfl : Ui (0) (0)) u_j6)
      · refine Sc Iff.rfl (fun c2 => ?_) (fun _ => Sn)
        refine Sb3 (ks_247 n (dp - 1) e 0 _ _ _ _ _ _ u_I u_L u_i9) (fun x0_134 x0_134' I0_134 I0_134' L0_134 L0_134' u_x0_134 u_I0_134 u_L0_134 => ?_)
        refine Sc (eq_up u_x0_134 (rfl : Ui 0 0)) (fun c3 => ?_) (fun c3 => ?_)
        · exact (ih dp e 4 _ _ _ _ _ _ _ _ _ _ _ _ _ _ _ _ _ _ _ _ _ _ u_I0_134 u_L0_134 u_i1 u_i2 u_i3 u_i4 u_i5 u_i8 u_i9 (rfl : Ui (0) (0)) u_j6)
        · refine Sc (eq_up u_i1 (rfl : Ui (2) (2))) (fun c4 => ?_) (fun c4 => ?_)
          · exact (ih dp e 4 _ _ _ _ _ _ _ _ _ _ _ _ _ _ _ _ _ _ _ _ _ _ u_I0_134 u_L0_134 u_i1 u_i2 u_i3 u_i4 u_i5 u_i8 u_i9 (rfl : Ui (0) (0)) (rfl : Ul (1) (1)))
          · exact (ih dp e 4 _ _ _ _ _ _ _ _ _ _ _ _ _ _ _ _ _ _ _ _ _ _ u_I0_134 u_L0_134 u_i1 u_i2 u_i3 u_i4 u_i5 u_i8 u_i9 (rfl : Ui (0) (0)) (u_L0_134 105 31))
    refine Sc Iff.rfl (fun _ => ?_) (fun _ => ?_)
    · refine Sg (fun g1 => ?_)
      exact (ih dp e 1 _ _ _ _ _ _ _ _ _ _ _ _ _ _ _ _ _ _ _ _ _ _ u_I u_L u_i1 u_i2 u_i3 u_i4 u_i5 (ui_add u_i8 (rfl : Ui (Int32.ofInt (1)) (1)) g1) (rfl : Ui 0 0) (rfl : Ui 0 0) u_j6)
    exact Sn
set_option maxHeartbeats 4000000 in
set_option maxRecDepth 100000 in
def kf_245 : Nat → Nat → EN → Nat → JI → JI → Int → Int → Option (Int × JI × JI)
  | 0, _, _, _, _, _, _, _ => none
  | n + 1, dp, e, lab, I, L, i1, i2 =>
    if lab = 0 then (if 1 ≤ dp then ((kf_246 n (dp - 1) e 0 I L 2 i1 i2 0 1 0 0 0 0).bind (fun ⟨x0_6, I0_6, L0_6⟩ => (if x0_6 = 1 then (some ((1 : Int), I0_6, L0_6)) else (some ((0 : Int), I0_6, L0_6))))) else none)
    else none
set_option maxRecDepth 100000 in
theorem ke_245_0 (n : Nat) (dp : Nat) (e : EN) (I : JI) (L : JI) (i1 : Int) (i2 : Int) : kf_245 (n + 1) dp e 0 I L i1 i2 = (if 1 ≤ dp then ((kf_246 n (dp - 1) e 0 I L 2 i1 i2 0 1 0 0 0 0).bind (fun ⟨x0_6, I0_6, L0_6⟩ => (if x0_6 = 1 then (some ((1 : Int), I0_6, L0_6)) else (some ((0 : Int), I0_6, L0_6))))) else none) := by rw [kf_245.eq_2, if_pos (show (0 : Nat) = 0 from rfl)]
set_option maxHeartbeats 8000000 in
set_option maxRecDepth 100000 in
theorem ks_245 : ∀ (n : Nat) (dp : Nat) (e : EN) (lab : Nat) (I : Nat → Nat → Int32) (I' : JI) (L : Nat → Nat → Int64) (L' : JI) (i1 : Int32) (i1' : Int) (i2 : Int32) (i2' : Int), Rli I I' → Rll L L' → Ui i1 i1' → Ui i2 i2' → Sim R3 (g_245 n dp e lab I L i1 i2) (kf_245 n dp e lab I' L' i1' i2') := by
  intro n
  induction n with
  | zero => intros; rw [kf_245.eq_1]; exact Sn
  | succ n ih =>
    intro dp e lab I I' L L' i1 i1' i2 i2' u_I u_L u_i1 u_i2
    rw [g_245.eq_2, kf_245.eq_2]
    refine Sc Iff.rfl (fun _ => ?_) (fun _ => ?_)
    · refine Sc Iff.rfl (fun c1 => ?_) (fun _ => Sn)
      refine Sb3 (ks_246 n (dp - 1) e 0 _ _ _ _ _ _ _ _ _ _ _ _ _ _ _ _ _ _ _ _ _ _ u_I u_L (rfl : Ui (2) (2)) u_i1 u_i2 (rfl : Ui (0) (0)) (rfl : Ui (1) (1)) (rfl : Ui 0 0) (rfl : Ui 0 0) (rfl : Ui 0 0) (rfl : Ul 0 0)) (fun x0_6 x0_6' I0_6 I0_6' L0_6 L0_6' u_x0_6 u_I0_6 u_L0_6 => ?_)
      refine Sc (eq_up u_x0_6 (rfl : Ui (1) (1))) (fun c2 => ?_) (fun c2 => ?_)
      · exact Sr ⟨(rfl : Ui (1) (1)), u_I0_6, u_L0_6⟩
      · exact Sr ⟨(rfl : Ui (0) (0)), u_I0_6, u_L0_6⟩
    exact Sn
set_option maxHeartbeats 4000000 in
set_option maxRecDepth 100000 in
def kf_250 : Nat → Nat → EN → Nat → JI → JI → Int → Int → Option (Int × JI × JI)
  | 0, _, _, _, _, _, _, _ => none
  | n + 1, dp, e, lab, I, L, i1, i2 =>
    if lab = 0 then (if 1 ≤ dp then ((kf_246 n (dp - 1) e 0 I L 0 i1 i2 1 60 0 0 0 0).bind (fun ⟨x0_7, I0_7, L0_7⟩ => (some ((x0_7 : Int), I0_7, L0_7)))) else none)
    else none
set_option maxRecDepth 100000 in
theorem ke_250_0 (n : Nat) (dp : Nat) (e : EN) (I : JI) (L : JI) (i1 : Int) (i2 : Int) : kf_250 (n + 1) dp e 0 I L i1 i2 = (if 1 ≤ dp then ((kf_246 n (dp - 1) e 0 I L 0 i1 i2 1 60 0 0 0 0).bind (fun ⟨x0_7, I0_7, L0_7⟩ => (some ((x0_7 : Int), I0_7, L0_7)))) else none) := by rw [kf_250.eq_2, if_pos (show (0 : Nat) = 0 from rfl)]
set_option maxHeartbeats 8000000 in
set_option maxRecDepth 100000 in
theorem ks_250 : ∀ (n : Nat) (dp : Nat) (e : EN) (lab : Nat) (I : Nat → Nat → Int32) (I' : JI) (L : Nat → Nat → Int64) (L' : JI) (i1 : Int32) (i1' : Int) (i2 : Int32) (i2' : Int), Rli I I' → Rll L L' → Ui i1 i1' → Ui i2 i2' → Sim R3 (g_250 n dp e lab I L i1 i2) (kf_250 n dp e lab I' L' i1' i2') := by
  intro n
  induction n with
  | zero => intros; rw [kf_250.eq_1]; exact Sn
  | succ n ih =>
    intro dp e lab I I' L L' i1 i1' i2 i2' u_I u_L u_i1 u_i2
    rw [g_250.eq_2, kf_250.eq_2]
    refine Sc Iff.rfl (fun _ => ?_) (fun _ => ?_)
    · refine Sc Iff.rfl (fun c1 => ?_) (fun _ => Sn)
      refine Sb3 (ks_246 n (dp - 1) e 0 _ _ _ _ _ _ _ _ _ _ _ _ _ _ _ _ _ _ _ _ _ _ u_I u_L (rfl : Ui (0) (0)) u_i1 u_i2 (rfl : Ui (1) (1)) (rfl : Ui (60) (60)) (rfl : Ui 0 0) (rfl : Ui 0 0) (rfl : Ui 0 0) (rfl : Ul 0 0)) (fun x0_7 x0_7' I0_7 I0_7' L0_7 L0_7' u_x0_7 u_I0_7 u_L0_7 => ?_)
      exact Sr ⟨u_x0_7, u_I0_7, u_L0_7⟩
    exact Sn
set_option maxHeartbeats 4000000 in
set_option maxRecDepth 100000 in
def kf_251 : Nat → Nat → EN → Nat → JI → JI → Int → Int → Option (Int × JI × JI)
  | 0, _, _, _, _, _, _, _ => none
  | n + 1, dp, e, lab, I, L, i1, i2 =>
    if lab = 0 then (if 1 ≤ dp then ((kf_246 n (dp - 1) e 0 I L 1 i1 i2 0 3 0 0 0 0).bind (fun ⟨x0_6, I0_6, L0_6⟩ => (some ((x0_6 : Int), I0_6, L0_6)))) else none)
    else none
set_option maxRecDepth 100000 in
theorem ke_251_0 (n : Nat) (dp : Nat) (e : EN) (I : JI) (L : JI) (i1 : Int) (i2 : Int) : kf_251 (n + 1) dp e 0 I L i1 i2 = (if 1 ≤ dp then ((kf_246 n (dp - 1) e 0 I L 1 i1 i2 0 3 0 0 0 0).bind (fun ⟨x0_6, I0_6, L0_6⟩ => (some ((x0_6 : Int), I0_6, L0_6)))) else none) := by rw [kf_251.eq_2, if_pos (show (0 : Nat) = 0 from rfl)]
set_option maxHeartbeats 8000000 in
set_option maxRecDepth 100000 in
theorem ks_251 : ∀ (n : Nat) (dp : Nat) (e : EN) (lab : Nat) (I : Nat → Nat → Int32) (I' : JI) (L : Nat → Nat → Int64) (L' : JI) (i1 : Int32) (i1' : Int) (i2 : Int32) (i2' : Int), Rli I I' → Rll L L' → Ui i1 i1' → Ui i2 i2' → Sim R3 (g_251 n dp e lab I L i1 i2) (kf_251 n dp e lab I' L' i1' i2') := by
  intro n
  induction n with
  | zero => intros; rw [kf_251.eq_1]; exact Sn
  | succ n ih =>
    intro dp e lab I I' L L' i1 i1' i2 i2' u_I u_L u_i1 u_i2
    rw [g_251.eq_2, kf_251.eq_2]
    refine Sc Iff.rfl (fun _ => ?_) (fun _ => ?_)
    · refine Sc Iff.rfl (fun c1 => ?_) (fun _ => Sn)
      refine Sb3 (ks_246 n (dp - 1) e 0 _ _ _ _ _ _ _ _ _ _ _ _ _ _ _ _ _ _ _ _ _ _ u_I u_L (rfl : Ui (1) (1)) u_i1 u_i2 (rfl : Ui (0) (0)) (rfl : Ui (3) (3)) (rfl : Ui 0 0) (rfl : Ui 0 0) (rfl : Ui 0 0) (rfl : Ul 0 0)) (fun x0_6 x0_6' I0_6 I0_6' L0_6 L0_6' u_x0_6 u_I0_6 u_L0_6 => ?_)
      exact Sr ⟨u_x0_6, u_I0_6, u_L0_6⟩
    exact Sn
set_option maxHeartbeats 4000000 in
set_option maxRecDepth 100000 in
def kf_242 : Nat → Nat → EN → Nat → JI → JI → Int → Int → Int → Int → Option (Int × JI × JI)
  | 0, _, _, _, _, _, _, _, _, _ => none
  | n + 1, dp, e, lab, I, L, i1, i2, i3, i4 =>
    if lab = 0 then (stI (w2 I 105 0 0) (fun I_2 => (if 1 ≤ dp then ((kf_239 n (dp - 1) e 0 I_2 L i1).bind (fun ⟨x0_7, I0_7, L0_7⟩ => (if x0_7 = 0 then (some (((-100000) : Int), I0_7, L0_7)) else (if 1 ≤ dp then ((kf_197 n (dp - 1) e 0 I0_7 L0_7 i2).bind (fun ⟨x1_14, I1_14, L1_14⟩ => (if x1_14 = 0 then (some (((-100000) : Int), I1_14, L1_14)) else (if 1 ≤ dp then ((kf_243 n (dp - 1) e 0 I1_14 L1_14 i1 i2 0 0).bind (fun ⟨x2_27, I2_27, L2_27⟩ => (if i3 = 0 then (if 1 ≤ dp then ((kf_245 n (dp - 1) e 0 I2_27 L2_27 i1 i2).bind (fun ⟨x3_71, I3_71, L3_71⟩ => (if x3_71 = 0 then (some ((0 : Int), I3_71, L3_71)) else (some ((1 : Int), I3_71, L3_71))))) else none) else (if i3 = 1 then (if 1 ≤ dp then ((kf_250 n (dp - 1) e 0 I2_27 L2_27 i1 i2).bind (fun ⟨x3_86, I3_86, L3_86⟩ => (some ((x3_86 : Int), I3_86, L3_86)))) else none) else (if i3 = 2 then (if 1 ≤ dp then ((kf_251 n (dp - 1) e 0 I2_27 L2_27 i1 i2).bind (fun ⟨x3_93, I3_93, L3_93⟩ => (some ((x3_93 : Int), I3_93, L3_93)))) else none) else (if i3 = 3 then (some ((x2_27 : Int), I2_27, L2_27)) else (if i3 = 4 then (if x2_27 < 0 then (kf_242 n dp e 1 I2_27 L2_27 i1 i2 i3 x2_27) else (if 1 ≤ dp then ((kf_240 n (dp - 1) e 0 I2_27 L2_27 i1).bind (fun ⟨x3_122, I3_122, L3_122⟩ => (if 1 ≤ dp then ((kf_244 n (dp - 1) e 0 I3_122 L3_122 x3_122 i2).bind (fun ⟨x4_126, I4_126, L4_126⟩ => (if (-9223372036854775808 ≤ x2_27 * 100 ∧ x2_27 * 100 ≤ 9223372036854775807) ∧ (-9223372036854775808 ≤ (I2_27 107 5) * x4_126 ∧ (I2_27 107 5) * x4_126 ≤ 9223372036854775807) then (if (x2_27 * 100) ≤ ((I2_27 107 5) * x4_126) then (some ((0 : Int), I4_126, L4_126)) else (kf_242 n dp e 1 I4_126 L4_126 i1 i2 i3 x2_27)) else none))) else none))) else none)) else (some (((-100000) : Int), I2_27, L2_27))))))))) else none)))) else none)))) else none)))
    else if lab = 1 then (some ((1 : Int), I, L))
    else none
set_option maxRecDepth 100000 in
theorem ke_242_0 (n : Nat) (dp : Nat) (e : EN) (I : JI) (L : JI) (i1 : Int) (i2 : Int) (i3 : Int) (i4 : Int) : kf_242 (n + 1) dp e 0 I L i1 i2 i3 i4 = (stI (w2 I 105 0 0) (fun I_2 => (if 1 ≤ dp then ((kf_239 n (dp - 1) e 0 I_2 L i1).bind (fun ⟨x0_7, I0_7, L0_7⟩ => (if x0_7 = 0 then (some (((-100000) : Int), I0_7, L0_7)) else (if 1 ≤ dp then ((kf_197 n (dp - 1) e 0 I0_7 L0_7 i2).bind (fun ⟨x1_14, I1_14, L1_14⟩ => (if x1_14 = 0 then (some (((-100000) : Int), I1_14, L1_14)) else (if 1 ≤ dp then ((kf_243 n (dp - 1) e 0 I1_14 L1_14 i1 i2 0 0).bind (fun ⟨x2_27, I2_27, L2_27⟩ => (if i3 = 0 then (if 1 ≤ dp then ((kf_245 n (dp - 1) e 0 I2_27 L2_27 i1 i2).bind (fun ⟨x3_71, I3_71, L3_71⟩ => (if x3_71 = 0 then (some ((0 : Int), I3_71, L3_71)) else (some ((1 : Int), I3_71, L3_71))))) else none) else (if i3 = 1 then (if 1 ≤ dp then ((kf_250 n (dp - 1) e 0 I2_27 L2_27 i1 i2).bind (fun ⟨x3_86, I3_86, L3_86⟩ => (some ((x3_86 : Int), I3_86, L3_86)))) else none) else (if i3 = 2 then (if 1 ≤ dp then ((kf_251 n (dp - 1) e 0 I2_27 L2_27 i1 i2).bind (fun ⟨x3_93, I3_93, L3_93⟩ => (some ((x3_93 : Int), I3_93, L3_93)))) else none) else (if i3 = 3 then (some ((x2_27 : Int), I2_27, L2_27)) else (if i3 = 4 then (if x2_27 < 0 then (kf_242 n dp e 1 I2_27 L2_27 i1 i2 i3 x2_27) else (if 1 ≤ dp then ((kf_240 n (dp - 1) e 0 I2_27 L2_27 i1).bind (fun ⟨x3_122, I3_122, L3_122⟩ => (if 1 ≤ dp then ((kf_244 n (dp - 1) e 0 I3_122 L3_122 x3_122 i2).bind (fun ⟨x4_126, I4_126, L4_126⟩ => (if (-9223372036854775808 ≤ x2_27 * 100 ∧ x2_27 * 100 ≤ 9223372036854775807) ∧ (-9223372036854775808 ≤ (I2_27 107 5) * x4_126 ∧ (I2_27 107 5) * x4_126 ≤ 9223372036854775807) then (if (x2_27 * 100) ≤ ((I2_27 107 5) * x4_126) then (some ((0 : Int), I4_126, L4_126)) else (kf_242 n dp e 1 I4_126 L4_126 i1 i2 i3 x2_27)) else none))) else none))) else none)) else (some (((-100000) : Int), I2_27, L2_27))))))))) else none)))) else none)))) else none))) := by rw [kf_242.eq_2, if_pos (show (0 : Nat) = 0 from rfl)]
set_option maxRecDepth 100000 in
theorem ke_242_1 (n : Nat) (dp : Nat) (e : EN) (I : JI) (L : JI) (i1 : Int) (i2 : Int) (i3 : Int) (i4 : Int) : kf_242 (n + 1) dp e 1 I L i1 i2 i3 i4 = (some ((1 : Int), I, L)) := by rw [kf_242.eq_2, if_neg (show ¬ ((1 : Nat) = 0) by decide), if_pos (show (1 : Nat) = 1 from rfl)]
set_option maxHeartbeats 8000000 in
set_option maxRecDepth 100000 in
theorem ks_242 : ∀ (n : Nat) (dp : Nat) (e : EN) (lab : Nat) (I : Nat → Nat → Int32) (I' : JI) (L : Nat → Nat → Int64) (L' : JI) (i1 : Int32) (i1' : Int) (i2 : Int32) (i2' : Int) (i3 : Int32) (i3' : Int) (i4 : Int32) (i4' : Int), Rli I I' → Rll L L' → Ui i1 i1' → Ui i2 i2' → Ui i3 i3' → Ui i4 i4' → Sim R3 (g_242 n dp e lab I L i1 i2 i3 i4) (kf_242 n dp e lab I' L' i1' i2' i3' i4') := by
  intro n
  induction n with
  | zero => intros; rw [kf_242.eq_1]; exact Sn
  | succ n ih =>
    intro dp e lab I I' L L' i1 i1' i2 i2' i3 i3' i4 i4' u_I u_L u_i1 u_i2 u_i3 u_i4
    rw [g_242.eq_2, kf_242.eq_2]
    refine Sc Iff.rfl (fun _ => ?_) (fun _ => ?_)
    · refine SsJ (ri_up u_I (rfl : ((0 : Nat) : Int) = 0) (rfl : Ui (0) (0))) (fun I_2 I_2' u_I_2 => ?_)
      refine Sc Iff.rfl (fun c1 => ?_) (fun _ => Sn)
      refine Sb3 (ks_239 n (dp - 1) e 0 _ _ _ _ _ _ u_I_2 u_L u_i1) (fun x0_7 x0_7' I0_7 I0_7' L0_7 L0_7' u_x0_7 u_I0_7 u_L0_7 => ?_)
      refine Sc (eq_up u_x0_7 (rfl : Ui 0 0)) (fun c2 => ?_) (fun c2 => ?_)
      · exact Sr ⟨(rfl : Ui (-100000) (-100000)), u_I0_7, u_L0_7⟩
      · refine Sc Iff.rfl (fun c3 => ?_) (fun _ => Sn)
        refine Sb3 (ks_197 n (dp - 1) e 0 _ _ _ _ _ _ u_I0_7 u_L0_7 u_i2) (fun x1_14 x1_14' I1_14 I1_14' L1_14 L1_14' u_x1_14 u_I1_14 u_L1_14 => ?_)
        refine Sc (eq_up u_x1_14 (rfl : Ui 0 0)) (fun c4 => ?_) (fun c4 => ?_)
        · exact Sr ⟨(rfl : Ui (-100000) (-100000)), u_I1_14, u_L1_14⟩
        · refine Sc Iff.rfl (fun c5 => ?_) (fun _ => Sn)
          refine Sb3 (ks_243 n (dp - 1) e 0 _ _ _ _ _ _ _ _ _ _ _ _ u_I1_14 u_L1_14 u_i1 u_i2 (rfl : Ui 0 0) (rfl : Ui 0 0)) (fun x2_27 x2_27' I2_27 I2_27' L2_27 L2_27' u_x2_27 u_I2_27 u_L2_27 => ?_)
          refine Sc (eq_up u_i3 (rfl : Ui (0) (0))) (fun c6 => ?_) (fun c6 => ?_)
          · refine Sc Iff.rfl (fun c7 => ?_) (fun _ => Sn)
            refine Sb3 (ks_245 n (dp - 1) e 0 _ _ _ _ _ _ _ _ u_I2_27 u_L2_27 u_i1 u_i2) (fun x3_71 x3_71' I3_71 I3_71' L3_71 L3_71' u_x3_71 u_I3_71 u_L3_71 => ?_)
            refine Sc (eq_up u_x3_71 (rfl : Ui 0 0)) (fun c8 => ?_) (fun c8 => ?_)
            · exact Sr ⟨(rfl : Ui (0) (0)), u_I3_71, u_L3_71⟩
            · exact Sr ⟨(rfl : Ui (1) (1)), u_I3_71, u_L3_71⟩
          · refine Sc (eq_up u_i3 (rfl : Ui (1) (1))) (fun c9 => ?_) (fun c9 => ?_)
            · refine Sc Iff.rfl (fun c10 => ?_) (fun _ => Sn)
              refine Sb3 (ks_250 n (dp - 1) e 0 _ _ _ _ _ _ _ _ u_I2_27 u_L2_27 u_i1 u_i2) (fun x3_86 x3_86' I3_86 I3_86' L3_86 L3_86' u_x3_86 u_I3_86 u_L3_86 => ?_)
              exact Sr ⟨u_x3_86, u_I3_86, u_L3_86⟩
            · refine Sc (eq_up u_i3 (rfl : Ui (2) (2))) (fun c11 => ?_) (fun c11 => ?_)
              · refine Sc Iff.rfl (fun c12 => ?_) (fun _ => Sn)
                refine Sb3 (ks_251 n (dp - 1) e 0 _ _ _ _ _ _ _ _ u_I2_27 u_L2_27 u_i1 u_i2) (fun x3_93 x3_93' I3_93 I3_93' L3_93 L3_93' u_x3_93 u_I3_93 u_L3_93 => ?_)
                exact Sr ⟨u_x3_93, u_I3_93, u_L3_93⟩
              · refine Sc (eq_up u_i3 (rfl : Ui (3) (3))) (fun c13 => ?_) (fun c13 => ?_)
                · exact Sr ⟨u_x2_27, u_I2_27, u_L2_27⟩
                · refine Sc (eq_up u_i3 (rfl : Ui (4) (4))) (fun c14 => ?_) (fun c14 => ?_)
                  · refine Sc (lt_up u_x2_27 (rfl : Ui 0 0)) (fun c15 => ?_) (fun c15 => ?_)
                    · exact (ih dp e 1 _ _ _ _ _ _ _ _ _ _ _ _ u_I2_27 u_L2_27 u_i1 u_i2 u_i3 u_x2_27)
                    · refine Sc Iff.rfl (fun c16 => ?_) (fun _ => Sn)
                      refine Sb3 (ks_240 n (dp - 1) e 0 _ _ _ _ _ _ u_I2_27 u_L2_27 u_i1) (fun x3_122 x3_122' I3_122 I3_122' L3_122 L3_122' u_x3_122 u_I3_122 u_L3_122 => ?_)
                      refine Sc Iff.rfl (fun c17 => ?_) (fun _ => Sn)
                      refine Sb3 (ks_244 n (dp - 1) e 0 _ _ _ _ _ _ _ _ u_I3_122 u_L3_122 u_x3_122 u_i2) (fun x4_126 x4_126' I4_126 I4_126' L4_126 L4_126' u_x4_126 u_I4_126 u_L4_126 => ?_)
                      refine Sg (fun g18 => ?_)
                      refine Sc (lcle_up (ul_mul (ul_i2l u_x2_27) (rfl : Ul (100) (100)) g18.1) (ul_mul (ul_i2l (u_I2_27 107 5)) (ul_i2l u_x4_126) g18.2)) (fun c19 => ?_) (fun c19 => ?_)
                      · exact Sr ⟨(rfl : Ui (0) (0)), u_I4_126, u_L4_126⟩
                      · exact (ih dp e 1 _ _ _ _ _ _ _ _ _ _ _ _ u_I4_126 u_L4_126 u_i1 u_i2 u_i3 u_x2_27)
                  · exact Sr ⟨(rfl : Ui (-100000) (-100000)), u_I2_27, u_L2_27⟩
    refine Sc Iff.rfl (fun _ => ?_) (fun _ => ?_)
    · exact Sr ⟨(rfl : Ui (1) (1)), u_I, u_L⟩
    exact Sn
set_option maxHeartbeats 4000000 in
set_option maxRecDepth 100000 in
def kf_255 : Nat → Nat → EN → Nat → JI → JI → Int → Int → Int → Option (JI × JI)
  | 0, _, _, _, _, _, _, _, _ => none
  | n + 1, dp, e, lab, I, L, i1, i2, i3 =>
    if lab = 0 then (if 0 ≤ i1 ∧ i1 < 3 then (if 64 ≤ (I 120 i1) then (kf_255 n dp e 2 I L i1 0 0) else (if 0 ≤ i1 ∧ i1 < 3 then (if (-2147483648 ≤ 640 * i1 ∧ 640 * i1 ≤ 2147483647) ∧ (-2147483648 ≤ 10 * (I 120 i1) ∧ 10 * (I 120 i1) ≤ 2147483647) ∧ (-2147483648 ≤ (640 * i1) + (10 * (I 120 i1)) ∧ (640 * i1) + (10 * (I 120 i1)) ≤ 2147483647) then (stI ((640 * i1) + (10 * (I 120 i1))) (fun v_26 => (kf_255 n dp e 1 I L i1 v_26 0))) else none) else none)) else none)
    else if lab = 1 then (if 10 ≤ i3 then (kf_255 n dp e 2 I L i1 0 0) else (if 0 ≤ i3 ∧ i3 < 10 then (if -2147483648 ≤ i2 + i3 ∧ i2 + i3 ≤ 2147483647 then (if 0 ≤ (i2 + i3) ∧ (i2 + i3) < 1920 then (stI (w2 I 121 (i2 + i3) (I 123 i3)) (fun I_48 => (if -2147483648 ≤ 100 + i3 ∧ 100 + i3 ≤ 2147483647 then (if 0 ≤ (100 + i3) ∧ (100 + i3) < 110 then (if 0 ≤ (i2 + i3) ∧ (i2 + i3) < 1920 then (stI (w2 I_48 122 (i2 + i3) (I_48 124 (100 + i3))) (fun I_65 => (if -2147483648 ≤ i3 + 1 ∧ i3 + 1 ≤ 2147483647 then (kf_255 n dp e 1 I_65 L i1 i2 (i3 + 1)) else none))) else none) else none) else none))) else none) else none) else none))
    else if lab = 2 then (if 0 ≤ i1 ∧ i1 < 3 then (if 0 ≤ i1 ∧ i1 < 3 then (if -2147483648 ≤ (I 120 i1) + 1 ∧ (I 120 i1) + 1 ≤ 2147483647 then (stI (w2 I 120 i1 ((I 120 i1) + 1)) (fun I_81 => (some (I_81, L)))) else none) else none) else none)
    else none
set_option maxRecDepth 100000 in
theorem ke_255_0 (n : Nat) (dp : Nat) (e : EN) (I : JI) (L : JI) (i1 : Int) (i2 : Int) (i3 : Int) : kf_255 (n + 1) dp e 0 I L i1 i2 i3 = (if 0 ≤ i1 ∧ i1 < 3 then (if 64 ≤ (I 120 i1) then (kf_255 n dp e 2 I L i1 0 0) else (if 0 ≤ i1 ∧ i1 < 3 then (if (-2147483648 ≤ 640 * i1 ∧ 640 * i1 ≤ 2147483647) ∧ (-2147483648 ≤ 10 * (I 120 i1) ∧ 10 * (I 120 i1) ≤ 2147483647) ∧ (-2147483648 ≤ (640 * i1) + (10 * (I 120 i1)) ∧ (640 * i1) + (10 * (I 120 i1)) ≤ 2147483647) then (stI ((640 * i1) + (10 * (I 120 i1))) (fun v_26 => (kf_255 n dp e 1 I L i1 v_26 0))) else none) else none)) else none) := by rw [kf_255.eq_2, if_pos (show (0 : Nat) = 0 from rfl)]
set_option maxRecDepth 100000 in
theorem ke_255_1 (n : Nat) (dp : Nat) (e : EN) (I : JI) (L : JI) (i1 : Int) (i2 : Int) (i3 : Int) : kf_255 (n + 1) dp e 1 I L i1 i2 i3 = (if 10 ≤ i3 then (kf_255 n dp e 2 I L i1 0 0) else (if 0 ≤ i3 ∧ i3 < 10 then (if -2147483648 ≤ i2 + i3 ∧ i2 + i3 ≤ 2147483647 then (if 0 ≤ (i2 + i3) ∧ (i2 + i3) < 1920 then (stI (w2 I 121 (i2 + i3) (I 123 i3)) (fun I_48 => (if -2147483648 ≤ 100 + i3 ∧ 100 + i3 ≤ 2147483647 then (if 0 ≤ (100 + i3) ∧ (100 + i3) < 110 then (if 0 ≤ (i2 + i3) ∧ (i2 + i3) < 1920 then (stI (w2 I_48 122 (i2 + i3) (I_48 124 (100 + i3))) (fun I_65 => (if -2147483648 ≤ i3 + 1 ∧ i3 + 1 ≤ 2147483647 then (kf_255 n dp e 1 I_65 L i1 i2 (i3 + 1)) else none))) else none) else none) else none))) else none) else none) else none)) := by rw [kf_255.eq_2, if_neg (show ¬ ((1 : Nat) = 0) by decide), if_pos (show (1 : Nat) = 1 from rfl)]
set_option maxRecDepth 100000 in
theorem ke_255_2 (n : Nat) (dp : Nat) (e : EN) (I : JI) (L : JI) (i1 : Int) (i2 : Int) (i3 : Int) : kf_255 (n + 1) dp e 2 I L i1 i2 i3 = (if 0 ≤ i1 ∧ i1 < 3 then (if 0 ≤ i1 ∧ i1 < 3 then (if -2147483648 ≤ (I 120 i1) + 1 ∧ (I 120 i1) + 1 ≤ 2147483647 then (stI (w2 I 120 i1 ((I 120 i1) + 1)) (fun I_81 => (some (I_81, L)))) else none) else none) else none) := by rw [kf_255.eq_2, if_neg (show ¬ ((2 : Nat) = 0) by decide), if_neg (show ¬ ((2 : Nat) = 1) by decide), if_pos (show (2 : Nat) = 2 from rfl)]
set_option maxHeartbeats 8000000 in
set_option maxRecDepth 100000 in
theorem ks_255 : ∀ (n : Nat) (dp : Nat) (e : EN) (lab : Nat) (I : Nat → Nat → Int32) (I' : JI) (L : Nat → Nat → Int64) (L' : JI) (i1 : Int32) (i1' : Int) (i2 : Int32) (i2' : Int) (i3 : Int32) (i3' : Int), Rli I I' → Rll L L' → Ui i1 i1' → Ui i2 i2' → Ui i3 i3' → Sim R2 (g_255 n dp e lab I L i1 i2 i3) (kf_255 n dp e lab I' L' i1' i2' i3') := by
  intro n
  induction n with
  | zero => intros; rw [kf_255.eq_1]; exact Sn
  | succ n ih =>
    intro dp e lab I I' L L' i1 i1' i2 i2' i3 i3' u_I u_L u_i1 u_i2 u_i3
    rw [g_255.eq_2, kf_255.eq_2]
    refine Sc Iff.rfl (fun _ => ?_) (fun _ => ?_)
    · refine Sc (ix_up u_i1) (fun c1 => ?_) (fun _ => Sn)
      refine Sc (le_up (rfl : Ui (64) (64)) (ui_rd (a := 120) u_I u_i1 c1.1)) (fun c2 => ?_) (fun c2 => ?_)
      · exact (ih dp e 2 _ _ _ _ _ _ _ _ _ _ u_I u_L u_i1 (rfl : Ui 0 0) (rfl : Ui 0 0))
      · refine Sc (ix_up u_i1) (fun c3 => ?_) (fun _ => Sn)
        refine Sg (fun g4 => ?_)
        refine SsI (ui_add (ui_mul (rfl : Ui (640) (640)) u_i1 g4.1) (ui_mul (rfl : Ui (10) (10)) (ui_rd (a := 120) u_I u_i1 c3.1) g4.2.1) g4.2.2) (fun v_26 v_26' u_v_26 => ?_)
        exact (ih dp e 1 _ _ _ _ _ _ _ _ _ _ u_I u_L u_i1 u_v_26 (rfl : Ui (0) (0)))
    refine Sc Iff.rfl (fun _ => ?_) (fun _ => ?_)
    · refine Sc (le_up (rfl : Ui (10) (10)) u_i3) (fun c1 => ?_) (fun c1 => ?_)
      · exact (ih dp e 2 _ _ _ _ _ _ _ _ _ _ u_I u_L u_i1 (rfl : Ui 0 0) (rfl : Ui 0 0))
      · refine Sc (ix_up u_i3) (fun c2 => ?_) (fun _ => Sn)
        refine Sg (fun g3 => ?_)
        refine Sc (ix_up (ui_add u_i2 u_i3 g3)) (fun c4 => ?_) (fun _ => Sn)
        refine SsJ (ri_up u_I (kc_up (ui_add u_i2 u_i3 g3) c4.1) (ui_rd (a := 123) u_I u_i3 c2.1)) (fun I_48 I_48' u_I_48 => ?_)
        refine Sg (fun g5 => ?_)
        refine Sc (ix_up (ui_add (rfl : Ui (100) (100)) u_i3 g5)) (fun c6 => ?_) (fun _ => Sn)
        refine Sc (ix_up (ui_add u_i2 u_i3 g3)) (fun c7 => ?_) (fun _ => Sn)
        refine SsJ (ri_up u_I_48 (kc_up (ui_add u_i2 u_i3 g3) c7.1) (ui_rd (a := 124) u_I_48 (ui_add (rfl : Ui (100) (100)) u_i3 g5) c6.1)) (fun I_65 I_65' u_I_65 => ?_)
        refine Sg (fun g8 => ?_)
        exact (ih dp e 1 _ _ _ _ _ _ _ _ _ _ u_I_65 u_L u_i1 u_i2 (ui_add u_i3 (rfl : Ui (Int32.ofInt (1)) (1)) g8))
    refine Sc Iff.rfl (fun _ => ?_) (fun _ => ?_)
    · refine Sc (ix_up u_i1) (fun c1 => ?_) (fun _ => Sn)
      refine Sc (ix_up u_i1) (fun c2 => ?_) (fun _ => Sn)
      refine Sg (fun g3 => ?_)
      refine SsJ (ri_up u_I (kc_up u_i1 c2.1) (ui_add (ui_rd (a := 120) u_I u_i1 c2.1) (rfl : Ui (1) (1)) g3)) (fun I_81 I_81' u_I_81 => ?_)
      exact Sr ⟨u_I_81, u_L⟩
    exact Sn
set_option maxHeartbeats 4000000 in
set_option maxRecDepth 100000 in
def kf_256 : Nat → Nat → EN → Nat → JI → JI → Int → Int → Int → Int → Int → Int → Int → Option (Int × JI × JI)
  | 0, _, _, _, _, _, _, _, _, _, _, _, _ => none
  | n + 1, dp, e, lab, I, L, i1, i2, i3, i4, i5, i6, i7 =>
    if lab = 0 then (if -2147483648 ≤ 10 * i2 ∧ 10 * i2 ≤ 2147483647 then (kf_256 n dp e 1 I L i1 i2 (10 * i2) 0 0 0 0) else none)
    else if lab = 1 then (if i4 = 0 then (if 0 ≤ i2 ∧ i2 < 10 then (if (I 107 9) ≤ (I 123 i2) then (if (i4 = 0) ∨ (i4 = 1) then (some ((i4 : Int), I, L)) else none) else (if 0 ≤ i2 ∧ i2 < 10 then (if 0 ≤ i2 ∧ i2 < 10 then (if -2147483648 ≤ (I 123 i2) + 1 ∧ (I 123 i2) + 1 ≤ 2147483647 then (stI (w2 I 123 i2 ((I 123 i2) + 1)) (fun I_38 => (if 0 ≤ i2 ∧ i2 < 10 then (stI (I_38 123 i2) (fun v_45 => (if v_45 = (-1) then (kf_256 n dp e 2 I_38 L i1 i2 i3 i4 v_45 0 0) else (if (I_38 107 9) ≤ v_45 then (kf_256 n dp e 4 I_38 L i1 i2 i3 i4 v_45 0 0) else (if -2147483648 ≤ i3 + i2 ∧ i3 + i2 ≤ 2147483647 then (if 0 ≤ (i3 + i2) ∧ (i3 + i2) < 110 then (if (I_38 124 (i3 + i2)) ≤ 0 then (kf_256 n dp e 4 I_38 L i1 i2 i3 i4 v_45 0 0) else (if (-2147483648 ≤ 16 * i1 ∧ 16 * i1 ≤ 2147483647) ∧ (-2147483648 ≤ (16 * i1) + v_45 ∧ (16 * i1) + v_45 ≤ 2147483647) then (if 0 ≤ ((16 * i1) + v_45) ∧ ((16 * i1) + v_45) < 48 then (if (I_38 125 ((16 * i1) + v_45)) = 0 then (kf_256 n dp e 4 I_38 L i1 i2 i3 i4 v_45 0 0) else (if 1 ≤ dp then ((kf_240 n (dp - 1) e 0 I_38 L v_45).bind (fun ⟨x0_137, I0_137, L0_137⟩ => (if x0_137 = i2 then (kf_256 n dp e 3 I0_137 L0_137 i1 i2 i3 i4 v_45 0 0) else (kf_256 n dp e 4 I0_137 L0_137 i1 i2 i3 i4 v_45 0 0)))) else none)) else none) else none)) else none) else none))))) else none))) else none) else none) else none)) else none) else (if (i4 = 0) ∨ (i4 = 1) then (some ((i4 : Int), I, L)) else none))
    else if lab = 2 then (if 10 ≤ i6 then (kf_256 n dp e 4 I L i1 i2 i3 1 i5 0 0) else (if -2147483648 ≤ i3 + i6 ∧ i3 + i6 ≤ 2147483647 then (if 0 ≤ (i3 + i6) ∧ (i3 + i6) < 110 then (if (-2147483648 ≤ i3 + 10 ∧ i3 + 10 ≤ 2147483647) ∧ (-2147483648 ≤ (i3 + 10) + i6 ∧ (i3 + 10) + i6 ≤ 2147483647) then (if 0 ≤ ((i3 + 10) + i6) ∧ ((i3 + 10) + i6) < 110 then (stI (w2 I 124 ((i3 + 10) + i6) (I 124 (i3 + i6))) (fun I_83 => (if -2147483648 ≤ i6 + 1 ∧ i6 + 1 ≤ 2147483647 then (kf_256 n dp e 2 I_83 L i1 i2 i3 i4 i5 (i6 + 1) 0) else none))) else none) else none) else none) else none))
    else if lab = 3 then (if 10 ≤ i7 then (if 200 < i6 then (kf_256 n dp e 4 I L i1 i2 i3 0 i5 0 0) else (kf_256 n dp e 4 I L i1 i2 i3 1 i5 0 0)) else (if i7 = i2 then (if (-2147483648 ≤ i3 + 10 ∧ i3 + 10 ≤ 2147483647) ∧ (-2147483648 ≤ (i3 + 10) + i7 ∧ (i3 + 10) + i7 ≤ 2147483647) then (if 0 ≤ ((i3 + 10) + i7) ∧ ((i3 + 10) + i7) < 110 then (stI (w2 I 124 ((i3 + 10) + i7) 0) (fun I_209 => (if (-2147483648 ≤ i6 + 0 ∧ i6 + 0 ≤ 2147483647) ∧ (-2147483648 ≤ i7 + 1 ∧ i7 + 1 ≤ 2147483647) then (kf_256 n dp e 3 I_209 L i1 i2 i3 i4 i5 (i6 + 0) (i7 + 1)) else none))) else none) else none) else (if -2147483648 ≤ i3 + i7 ∧ i3 + i7 ≤ 2147483647 then (if 0 ≤ (i3 + i7) ∧ (i3 + i7) < 110 then (if -2147483648 ≤ i3 + i2 ∧ i3 + i2 ≤ 2147483647 then (if 0 ≤ (i3 + i2) ∧ (i3 + i2) < 110 then (if 1 ≤ dp then ((kf_241 n (dp - 1) e 0 I L i5 i7).bind (fun ⟨x0_189, I0_189, L0_189⟩ => (if (-2147483648 ≤ (I 124 (i3 + i2)) * x0_189 ∧ (I 124 (i3 + i2)) * x0_189 ≤ 2147483647) ∧ (-2147483648 ≤ (I 124 (i3 + i7)) + ((I 124 (i3 + i2)) * x0_189) ∧ (I 124 (i3 + i7)) + ((I 124 (i3 + i2)) * x0_189) ≤ 2147483647) then (stI ((I 124 (i3 + i7)) + ((I 124 (i3 + i2)) * x0_189)) (fun v_194 => (if (-2147483648 ≤ i3 + 10 ∧ i3 + 10 ≤ 2147483647) ∧ (-2147483648 ≤ (i3 + 10) + i7 ∧ (i3 + 10) + i7 ≤ 2147483647) then (if 0 ≤ ((i3 + 10) + i7) ∧ ((i3 + 10) + i7) < 110 then (stI (w2 I0_189 124 ((i3 + 10) + i7) v_194) (fun I_209 => (if (-2147483648 ≤ i6 + v_194 ∧ i6 + v_194 ≤ 2147483647) ∧ (-2147483648 ≤ i7 + 1 ∧ i7 + 1 ≤ 2147483647) then (kf_256 n dp e 3 I_209 L0_189 i1 i2 i3 i4 i5 (i6 + v_194) (i7 + 1)) else none))) else none) else none))) else none))) else none) else none) else none) else none) else none)))
    else if lab = 4 then (kf_256 n dp e 1 I L i1 i2 i3 i4 0 0 0)
    else none
set_option maxRecDepth 100000 in
theorem ke_256_0 (n : Nat) (dp : Nat) (e : EN) (I : JI) (L : JI) (i1 : Int) (i2 : Int) (i3 : Int) (i4 : Int) (i5 : Int) (i6 : Int) (i7 : Int) : kf_256 (n + 1) dp e 0 I L i1 i2 i3 i4 i5 i6 i7 = (if -2147483648 ≤ 10 * i2 ∧ 10 * i2 ≤ 2147483647 then (kf_256 n dp e 1 I L i1 i2 (10 * i2) 0 0 0 0) else none) := by rw [kf_256.eq_2, if_pos (show (0 : Nat) = 0 from rfl)]
set_option maxRecDepth 100000 in
theorem ke_256_1 (n : Nat) (dp : Nat) (e : EN) (I : JI) (L : JI) (i1 : Int) (i2 : Int) (i3 : Int) (i4 : Int) (i5 : Int) (i6 : Int) (i7 : Int) : kf_256 (n + 1) dp e 1 I L i1 i2 i3 i4 i5 i6 i7 = (if i4 = 0 then (if 0 ≤ i2 ∧ i2 < 10 then (if (I 107 9) ≤ (I 123 i2) then (if (i4 = 0) ∨ (i4 = 1) then (some ((i4 : Int), I, L)) else none) else (if 0 ≤ i2 ∧ i2 < 10 then (if 0 ≤ i2 ∧ i2 < 10 then (if -2147483648 ≤ (I 123 i2) + 1 ∧ (I 123 i2) + 1 ≤ 2147483647 then (stI (w2 I 123 i2 ((I 123 i2) + 1)) (fun I_38 => (if 0 ≤ i2 ∧ i2 < 10 then (stI (I_38 123 i2) (fun v_45 => (if v_45 = (-1) then (kf_256 n dp e 2 I_38 L i1 i2 i3 i4 v_45 0 0) else (if (I_38 107 9) ≤ v_45 then (kf_256 n dp e 4 I_38 L i1 i2 i3 i4 v_45 0 0) else (if -2147483648 ≤ i3 + i2 ∧ i3 + i2 ≤ 2147483647 then (if 0 ≤ (i3 + i2) ∧ (i3 + i2) < 110 then (if (I_38 124 (i3 + i2)) ≤ 0 then (kf_256 n dp e 4 I_38 L i1 i2 i3 i4 v_45 0 0) else (if (-2147483648 ≤ 16 * i1 ∧ 16 * i1 ≤ 2147483647) ∧ (-2147483648 ≤ (16 * i1) + v_45 ∧ (16 * i1) + v_45 ≤ 2147483647) then (if 0 ≤ ((16 * i1) + v_45) ∧ ((16 * i1) + v_45) < 48 then (if (I_38 125 ((16 * i1) + v_45)) = 0 then (kf_256 n dp e 4 I_38 L i1 i2 i3 i4 v_45 0 0) else (if 1 ≤ dp then ((kf_240 n (dp - 1) e 0 I_38 L v_45).bind (fun ⟨x0_137, I0_137, L0_137⟩ => (if x0_137 = i2 then (kf_256 n dp e 3 I0_137 L0_137 i1 i2 i3 i4 v_45 0 0) else (kf_256 n dp e 4 I0_137 L0_137 i1 i2 i3 i4 v_45 0 0)))) else none)) else none) else none)) else none) else none))))) else none))) else none) else none) else none)) else none) else (if (i4 = 0) ∨ (i4 = 1) then (some ((i4 : Int), I, L)) else none)) := by rw [kf_256.eq_2, if_neg (show ¬ ((1 : Nat) = 0) by decide), if_pos (show (1 : Nat) = 1 from rfl)]
set_option maxRecDepth 100000 in
theorem ke_256_2 (n : Nat) (dp : Nat) (e : EN) (I : JI) (L : JI) (i1 : Int) (i2 : Int) (i3 : Int) (i4 : Int) (i5 : Int) (i6 : Int) (i7 : Int) : kf_256 (n + 1) dp e 2 I L i1 i2 i3 i4 i5 i6 i7 = (if 10 ≤ i6 then (kf_256 n dp e 4 I L i1 i2 i3 1 i5 0 0) else (if -2147483648 ≤ i3 + i6 ∧ i3 + i6 ≤ 2147483647 then (if 0 ≤ (i3 + i6) ∧ (i3 + i6) < 110 then (if (-2147483648 ≤ i3 + 10 ∧ i3 + 10 ≤ 2147483647) ∧ (-2147483648 ≤ (i3 + 10) + i6 ∧ (i3 + 10) + i6 ≤ 2147483647) then (if 0 ≤ ((i3 + 10) + i6) ∧ ((i3 + 10) + i6) < 110 then (stI (w2 I 124 ((i3 + 10) + i6) (I 124 (i3 + i6))) (fun I_83 => (if -2147483648 ≤ i6 + 1 ∧ i6 + 1 ≤ 2147483647 then (kf_256 n dp e 2 I_83 L i1 i2 i3 i4 i5 (i6 + 1) 0) else none))) else none) else none) else none) else none)) := by rw [kf_256.eq_2, if_neg (show ¬ ((2 : Nat) = 0) by decide), if_neg (show ¬ ((2 : Nat) = 1) by decide), if_pos (show (2 : Nat) = 2 from rfl)]
set_option maxRecDepth 100000 in
theorem ke_256_3 (n : Nat) (dp : Nat) (e : EN) (I : JI) (L : JI) (i1 : Int) (i2 : Int) (i3 : Int) (i4 : Int) (i5 : Int) (i6 : Int) (i7 : Int) : kf_256 (n + 1) dp e 3 I L i1 i2 i3 i4 i5 i6 i7 = (if 10 ≤ i7 then (if 200 < i6 then (kf_256 n dp e 4 I L i1 i2 i3 0 i5 0 0) else (kf_256 n dp e 4 I L i1 i2 i3 1 i5 0 0)) else (if i7 = i2 then (if (-2147483648 ≤ i3 + 10 ∧ i3 + 10 ≤ 2147483647) ∧ (-2147483648 ≤ (i3 + 10) + i7 ∧ (i3 + 10) + i7 ≤ 2147483647) then (if 0 ≤ ((i3 + 10) + i7) ∧ ((i3 + 10) + i7) < 110 then (stI (w2 I 124 ((i3 + 10) + i7) 0) (fun I_209 => (if (-2147483648 ≤ i6 + 0 ∧ i6 + 0 ≤ 2147483647) ∧ (-2147483648 ≤ i7 + 1 ∧ i7 + 1 ≤ 2147483647) then (kf_256 n dp e 3 I_209 L i1 i2 i3 i4 i5 (i6 + 0) (i7 + 1)) else none))) else none) else none) else (if -2147483648 ≤ i3 + i7 ∧ i3 + i7 ≤ 2147483647 then (if 0 ≤ (i3 + i7) ∧ (i3 + i7) < 110 then (if -2147483648 ≤ i3 + i2 ∧ i3 + i2 ≤ 2147483647 then (if 0 ≤ (i3 + i2) ∧ (i3 + i2) < 110 then (if 1 ≤ dp then ((kf_241 n (dp - 1) e 0 I L i5 i7).bind (fun ⟨x0_189, I0_189, L0_189⟩ => (if (-2147483648 ≤ (I 124 (i3 + i2)) * x0_189 ∧ (I 124 (i3 + i2)) * x0_189 ≤ 2147483647) ∧ (-2147483648 ≤ (I 124 (i3 + i7)) + ((I 124 (i3 + i2)) * x0_189) ∧ (I 124 (i3 + i7)) + ((I 124 (i3 + i2)) * x0_189) ≤ 2147483647) then (stI ((I 124 (i3 + i7)) + ((I 124 (i3 + i2)) * x0_189)) (fun v_194 => (if (-2147483648 ≤ i3 + 10 ∧ i3 + 10 ≤ 2147483647) ∧ (-2147483648 ≤ (i3 + 10) + i7 ∧ (i3 + 10) + i7 ≤ 2147483647) then (if 0 ≤ ((i3 + 10) + i7) ∧ ((i3 + 10) + i7) < 110 then (stI (w2 I0_189 124 ((i3 + 10) + i7) v_194) (fun I_209 => (if (-2147483648 ≤ i6 + v_194 ∧ i6 + v_194 ≤ 2147483647) ∧ (-2147483648 ≤ i7 + 1 ∧ i7 + 1 ≤ 2147483647) then (kf_256 n dp e 3 I_209 L0_189 i1 i2 i3 i4 i5 (i6 + v_194) (i7 + 1)) else none))) else none) else none))) else none))) else none) else none) else none) else none) else none))) := by rw [kf_256.eq_2, if_neg (show ¬ ((3 : Nat) = 0) by decide), if_neg (show ¬ ((3 : Nat) = 1) by decide), if_neg (show ¬ ((3 : Nat) = 2) by decide), if_pos (show (3 : Nat) = 3 from rfl)]
set_option maxRecDepth 100000 in
theorem ke_256_4 (n : Nat) (dp : Nat) (e : EN) (I : JI) (L : JI) (i1 : Int) (i2 : Int) (i3 : Int) (i4 : Int) (i5 : Int) (i6 : Int) (i7 : Int) : kf_256 (n + 1) dp e 4 I L i1 i2 i3 i4 i5 i6 i7 = (kf_256 n dp e 1 I L i1 i2 i3 i4 0 0 0) := by rw [kf_256.eq_2, if_neg (show ¬ ((4 : Nat) = 0) by decide), if_neg (show ¬ ((4 : Nat) = 1) by decide), if_neg (show ¬ ((4 : Nat) = 2) by decide), if_neg (show ¬ ((4 : Nat) = 3) by decide), if_pos (show (4 : Nat) = 4 from rfl)]
set_option maxHeartbeats 8000000 in
set_option maxRecDepth 100000 in
theorem ks_256 : ∀ (n : Nat) (dp : Nat) (e : EN) (lab : Nat) (I : Nat → Nat → Int32) (I' : JI) (L : Nat → Nat → Int64) (L' : JI) (i1 : Int32) (i1' : Int) (i2 : Int32) (i2' : Int) (i3 : Int32) (i3' : Int) (i4 : Int32) (i4' : Int) (i5 : Int32) (i5' : Int) (i6 : Int32) (i6' : Int) (i7 : Int32) (i7' : Int), Rli I I' → Rll L L' → Ui i1 i1' → Ui i2 i2' → Ui i3 i3' → Ui i4 i4' → Ui i5 i5' → Ui i6 i6' → Ui i7 i7' → Sim R3 (g_256 n dp e lab I L i1 i2 i3 i4 i5 i6 i7) (kf_256 n dp e lab I' L' i1' i2' i3' i4' i5' i6' i7') := by
  intro n
  induction n with
  | zero => intros; rw [kf_256.eq_1]; exact Sn
  | succ n ih =>
    intro dp e lab I I' L L' i1 i1' i2 i2' i3 i3' i4 i4' i5 i5' i6 i6' i7 i7' u_I u_L u_i1 u_i2 u_i3 u_i4 u_i5 u_i6 u_i7
    rw [g_256.eq_2, kf_256.eq_2]
    refine Sc Iff.rfl (fun _ => ?_) (fun _ => ?_)
    · refine Sg (fun g1 => ?_)
      exact (ih dp e 1 _ _ _ _ _ _ _ _ _ _ _ _ _ _ _ _ _ _ u_I u_L u_i1 u_i2 (ui_mul (rfl : Ui (10) (10)) u_i2 g1) (rfl : Ui (0) (0)) (rfl : Ui 0 0) (rfl : Ui 0 0) (rfl : Ui 0 0))
    refine Sc Iff.rfl (fun _ => ?_) (fun _ => ?_)
    · refine Sc (eq_up u_i4 (rfl : Ui 0 0)) (fun c1 => ?_) (fun c1 => ?_)
      · refine Sc (ix_up u_i2) (fun c2 => ?_) (fun _ => Sn)
        refine Sc (le_up (u_I 107 9) (ui_rd (a := 123) u_I u_i2 c2.1)) (fun c3 => ?_) (fun c3 => ?_)
        · refine Sc (or_congr (eq_up u_i4 (rfl : Ui 0 0)) (eq_up u_i4 (rfl : Ui 1 1))) (fun c4 => ?_) (fun _ => Sn)
          exact Sr ⟨u_i4, u_I, u_L⟩
        · refine Sc (ix_up u_i2) (fun c5 => ?_) (fun _ => Sn)
          refine Sc (ix_up u_i2) (fun c6 => ?_) (fun _ => Sn)
          refine Sg (fun g7 => ?_)
          refine SsJ (ri_up u_I (kc_up u_i2 c6.1) (ui_add (ui_rd (a := 123) u_I u_i2 c6.1) (rfl : Ui (1) (1)) g7)) (fun I_38 I_38' u_I_38 => ?_)
          refine Sc (ix_up u_i2) (fun c8 => ?_) (fun _ => Sn)
          refine SsI (ui_rd (a := 123) u_I_38 u_i2 c8.1) (fun v_45 v_45' u_v_45 => ?_)
          refine Sc (eq_up u_v_45 (rfl : Ui (-1) (-1))) (fun c9 => ?_) (fun c9 => ?_)
          · exact (ih dp e 2 _ _ _ _ _ _ _ _ _ _ _ _ _ _ _ _ _ _ u_I_38 u_L u_i1 u_i2 u_i3 u_i4 u_v_45 (rfl : Ui (0) (0)) (rfl : Ui 0 0))
          · refine Sc (le_up (u_I_38 107 9) u_v_45) (fun c10 => ?_) (fun c10 => ?_)
            · exact (ih dp e 4 _ _ _ _ _ _ _ _ _ _ _ _ _ _ _ _ _ _ u_I_38 u_L u_i1 u_i2 u_i3 u_i4 u_v_45 (rfl : Ui 0 0) (rfl : Ui 0 0))
            · refine Sg (fun g11 => ?_)
              refine Sc (ix_up (ui_add u_i3 u_i2 g11)) (fun c12 => ?_) (fun _ => Sn)
              refine Sc (le_up (ui_rd (a := 124) u_I_38 (ui_add u_i3 u_i2 g11) c12.1) (rfl : Ui 0 0)) (fun c13 => ?_) (fun c13 => ?_)
              · exact (ih dp e 4 _ _ _ _ _ _ _ _ _ _ _ _ _ _ _ _ _ _ u_I_38 u_L u_i1 u_i2 u_i3 u_i4 u_v_45 (rfl : Ui 0 0) (rfl : Ui 0 0))
              · refine Sg (fun g14 => ?_)
                refine Sc (ix_up (ui_add (ui_mul (rfl : Ui (16) (16)) u_i1 g14.1) u_v_45 g14.2)) (fun c15 => ?_) (fun _ => Sn)
                refine Sc (eq_up (ui_rd (a := 125) u_I_38 (ui_add (ui_mul (rfl : Ui (16) (16)) u_i1 g14.1) u_v_45 g14.2) c15.1) (rfl : Ui 0 0)) (fun c16 => ?_) (fun c16 => ?_)
                · exact (ih dp e 4 _ _ _ _ _ _ _ _ _ _ _ _ _ _ _ _ _ _ u_I_38 u_L u_i1 u_i2 u_i3 u_i4 u_v_45 (rfl : Ui 0 0) (rfl : Ui 0 0))
                · refine Sc Iff.rfl (fun c17 => ?_) (fun _ => Sn)
                  refine Sb3 (ks_240 n (dp - 1) e 0 _ _ _ _ _ _ u_I_38 u_L u_v_45) (fun x0_137 x0_137' I0_137 I0_137' L0_137 L0_137' u_x0_137 u_I0_137 u_L0_137 => ?_)
                  refine Sc (eq_up u_x0_137 u_i2) (fun c18 => ?_) (fun c18 => ?_)
                  · exact (ih dp e 3 _ _ _ _ _ _ _ _ _ _ _ _ _ _ _ _ _ _ u_I0_137 u_L0_137 u_i1 u_i2 u_i3 u_i4 u_v_45 (rfl : Ui (0) (0)) (rfl : Ui (0) (0)))
                  · exact (ih dp e 4 _ _ _ _ _ _ _ _ _ _ _ _ _ _ _ _ _ _ u_I0_137 u_L0_137 u_i1 u_i2 u_i3 u_i4 u_v_45 (rfl : Ui 0 0) (rfl : Ui 0 0))
      · refine Sc (or_congr (eq_up u_i4 (rfl : Ui 0 0)) (eq_up u_i4 (rfl : Ui 1 1))) (fun c19 => ?_) (fun _ => Sn)
        exact Sr ⟨u_i4, u_I, u_L⟩
    refine Sc Iff.rfl (fun _ => ?_) (fun _ => ?_)
    · refine Sc (le_up (rfl : Ui (10) (10)) u_i6) (fun c1 => ?_) (fun c1 => ?_)
      · exact (ih dp e 4 _ _ _ _ _ _ _ _ _ _ _ _ _ _ _ _ _ _ u_I u_L u_i1 u_i2 u_i3 (rfl : Ui (1) (1)) u_i5 (rfl : Ui 0 0) (rfl : Ui 0 0))
      · refine Sg (fun g2 => ?_)
        refine Sc (ix_up (ui_add u_i3 u_i6 g2)) (fun c3 => ?_) (fun _ => Sn)
        refine Sg (fun g4 => ?_)
        refine Sc (ix_up (ui_add (ui_add u_i3 (rfl : Ui (10) (10)) g4.1) u_i6 g4.2)) (fun c5 => ?_) (fun _ => Sn)
        refine SsJ (ri_up u_I (kc_up (ui_add (ui_add u_i3 (rfl : Ui (10) (10)) g4.1) u_i6 g4.2) c5.1) (ui_rd (a := 124) u_I (ui_add u_i3 u_i6 g2) c3.1)) (fun I_83 I_83' u_I_83 => ?_)
        refine Sg (fun g6 => ?_)
        exact (ih dp e 2 _ _ _ _ _ _ _ _ _ _ _ _ _ _ _ _ _ _ u_I_83 u_L u_i1 u_i2 u_i3 u_i4 u_i5 (ui_add u_i6 (rfl : Ui (Int32.ofInt (1)) (1)) g6) (rfl : Ui 0 0))
    refine Sc Iff.rfl (fun _ => ?_) (fun _ => ?_)
    · refine Sc (le_up (rfl : Ui (10) (10)) u_i7) (fun c1 => ?_) (fun c1 => ?_)
      · refine Sc (lt_up (rfl : Ui (200) (200)) u_i6) (fun c2 => ?_) (fun c2 => ?_)
        · exact (ih dp e 4 _ _ _ _ _ _ _ _ _ _ _ _ _ _ _ _ _ _ u_I u_L u_i1 u_i2 u_i3 (rfl : Ui (0) (0)) u_i5 (rfl : Ui 0 0) (rfl : Ui 0 0))
        · exact (ih dp e 4 _ _ _ _ _ _ _ _ _ _ _ _ _ _ _ _ _ _ u_I u_L u_i1 u_i2 u_i3 (rfl : Ui (1) (1)) u_i5 (rfl : Ui 0 0) (rfl : Ui 0 0))
      · refine Sc (eq_up u_i7 u_i2) (fun c3 => ?_) (fun c3 => ?_)
        · refine Sg (fun g4 => ?_)
          refine Sc (ix_up (ui_add (ui_add u_i3 (rfl : Ui (10) (10)) g4.1) u_i7 g4.2)) (fun c5 => ?_) (fun _ => Sn)
          refine SsJ (ri_up u_I (kc_up (ui_add (ui_add u_i3 (rfl : Ui (10) (10)) g4.1) u_i7 g4.2) c5.1) (rfl : Ui (0) (0))) (fun I_209 I_209' u_I_209 => ?_)
          refine Sg (fun g6 => ?_)
          exact (ih dp e 3 _ _ _ _ _ _ _ _ _ _ _ _ _ _ _ _ _ _ u_I_209 u_L u_i1 u_i2 u_i3 u_i4 u_i5 (ui_add u_i6 (rfl : Ui (0) (0)) g6.1) (ui_add u_i7 (rfl : Ui (Int32.ofInt (1)) (1)) g6.2))
        · refine Sg (fun g7 => ?_)
          refine Sc (ix_up (ui_add u_i3 u_i7 g7)) (fun c8 => ?_) (fun _ => Sn)
          refine Sg (fun g9 => ?_)
          refine Sc (ix_up (ui_add u_i3 u_i2 g9)) (fun c10 => ?_) (fun _ => Sn)
          refine Sc Iff.rfl (fun c11 => ?_) (fun _ => Sn)
          refine Sb3 (ks_241 n (dp - 1) e 0 _ _ _ _ _ _ _ _ u_I u_L u_i5 u_i7) (fun x0_189 x0_189' I0_189 I0_189' L0_189 L0_189' u_x0_189 u_I0_189 u_L0_189 => ?_)
          refine Sg (fun g12 => ?_)
          refine SsI (ui_add (ui_rd (a := 124) u_I (ui_add u_i3 u_i7 g7) c8.1) (ui_mul (ui_rd (a := 124) u_I (ui_add u_i3 u_i2 g9) c10.1) u_x0_189 g12.1) g12.2) (fun v_194 v_194' u_v_194 => ?_)
          refine Sg (fun g13 => ?_)
          refine Sc (ix_up (ui_add (ui_add u_i3 (rfl : Ui (10) (10)) g13.1) u_i7 g13.2)) (fun c14 => ?_) (fun _ => Sn)
          refine SsJ (ri_up u_I0_189 (kc_up (ui_add (ui_add u_i3 (rfl : Ui (10) (10)) g13.1) u_i7 g13.2) c14.1) u_v_194) (fun I_209 I_209' u_I_209 => ?_)
          refine Sg (fun g15 => ?_)
          exact (ih dp e 3 _ _ _ _ _ _ _ _ _ _ _ _ _ _ _ _ _ _ u_I_209 u_L0_189 u_i1 u_i2 u_i3 u_i4 u_i5 (ui_add u_i6 u_v_194 g15.1) (ui_add u_i7 (rfl : Ui (Int32.ofInt (1)) (1)) g15.2))
    refine Sc Iff.rfl (fun _ => ?_) (fun _ => ?_)
    · exact (ih dp e 1 _ _ _ _ _ _ _ _ _ _ _ _ _ _ _ _ _ _ u_I u_L u_i1 u_i2 u_i3 u_i4 (rfl : Ui 0 0) (rfl : Ui 0 0) (rfl : Ui 0 0))
    exact Sn
