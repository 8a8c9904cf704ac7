/-! lifted functions 11, printed by lift.py -/
set_option maxHeartbeats 4000000 in
set_option maxRecDepth 100000 in
def kf_283 : Nat → Nat → EN → Nat → JI → JI → Int → Int → Int → Option (JI × JI)
  | 0, _, _, _, _, _, _, _, _ => none
  | n + 1, dp, e, lab, I, L, i1, i2, i3 =>
    if lab = 0 then (stI (w2 I 105 60 0) (fun I_2 => (kf_283 n dp e 1 I_2 L 0 0 0)))
    else if lab = 1 then (if 16 ≤ i1 then (some (I, L)) else (if 0 ≤ i1 ∧ i1 < 16 then (stI (w2 I 136 i1 0) (fun I_19 => (if 0 ≤ i1 ∧ i1 < 16 then (stI (w2 I_19 138 i1 0) (fun I_26 => (kf_283 n dp e 2 I_26 L i1 0 0))) else none))) else none))
    else if lab = 2 then (if 1 ≤ dp then ((kf_198 n (dp - 1) e 0 I L).bind (fun ⟨x0_31, I0_31, L0_31⟩ => (if x0_31 ≤ i2 then (kf_283 n dp e 4 I0_31 L0_31 i1 i2 0) else (if (I0_31 107 9) ≤ i1 then (kf_283 n dp e 4 I0_31 L0_31 i1 i2 0) else (if 1 ≤ dp then ((kf_280 n (dp - 1) e 0 I0_31 L0_31 i2).bind (fun ⟨x1_50, I1_50, L1_50⟩ => (if 0 ≤ i2 ∧ i2 < 8 then (if 1 ≤ dp then ((kf_240 n (dp - 1) e 0 I1_50 L1_50 i1).bind (fun ⟨x2_75, I2_75, L2_75⟩ => (if (-2147483648 ≤ 640 * x1_50 ∧ 640 * x1_50 ≤ 2147483647) ∧ (-2147483648 ≤ 10 * (I1_50 134 i2) ∧ 10 * (I1_50 134 i2) ≤ 2147483647) ∧ (-2147483648 ≤ (640 * x1_50) + (10 * (I1_50 134 i2)) ∧ (640 * x1_50) + (10 * (I1_50 134 i2)) ≤ 2147483647) ∧ (-2147483648 ≤ ((640 * x1_50) + (10 * (I1_50 134 i2))) + x2_75 ∧ ((640 * x1_50) + (10 * (I1_50 134 i2))) + x2_75 ≤ 2147483647) then (if 0 ≤ (((640 * x1_50) + (10 * (I1_50 134 i2))) + x2_75) ∧ (((640 * x1_50) + (10 * (I1_50 134 i2))) + x2_75) < 1920 then (if (I2_75 121 (((640 * x1_50) + (10 * (I1_50 134 i2))) + x2_75)) = i1 then (if 0 ≤ i1 ∧ i1 < 16 then (if (I2_75 138 i1) = 0 then (if 1 ≤ dp then ((kf_251 n (dp - 1) e 0 I2_75 L2_75 i1 x1_50).bind (fun ⟨x3_110, I3_110, L3_110⟩ => (if 0 ≤ i1 ∧ i1 < 16 then (stI (w2 I3_110 137 i1 x3_110) (fun I_113 => (if 0 ≤ i1 ∧ i1 < 16 then (if (I_113 138 i1) = 0 then (if -2147483648 ≤ (I_113 105 60) + 1 ∧ (I_113 105 60) + 1 ≤ 2147483647 then (stI (w2 I_113 105 60 ((I_113 105 60) + 1)) (fun I_134 => (if 0 ≤ i1 ∧ i1 < 16 then (stI (w2 I_134 138 i1 1) (fun I_143 => (if 0 ≤ i1 ∧ i1 < 16 then (if 0 ≤ i2 ∧ i2 < 8 then (if 1 ≤ dp then ((kf_240 n (dp - 1) e 0 I_143 L3_110 i1).bind (fun ⟨x4_161, I4_161, L4_161⟩ => (if 1 ≤ dp then ((kf_284 n (dp - 1) e 0 I4_161 L4_161 x1_50 (I_143 134 i2) x4_161 0 0 0).bind (fun ⟨x5_164, I5_164, L5_164⟩ => (if 1 ≤ dp then ((kf_250 n (dp - 1) e 0 I5_164 L5_164 i1 x1_50).bind (fun ⟨x6_170, I6_170, L6_170⟩ => (if 0 ≤ i1 ∧ i1 < 16 then (if (-2147483648 ≤ x5_164 * x6_170 ∧ x5_164 * x6_170 ≤ 2147483647) ∧ (-2147483648 ≤ (I_143 136 i1) + (x5_164 * x6_170) ∧ (I_143 136 i1) + (x5_164 * x6_170) ≤ 2147483647) then (stI (w2 I6_170 136 i1 ((I_143 136 i1) + (x5_164 * x6_170))) (fun I_175 => (kf_283 n dp e 3 I_175 L6_170 i1 i2 x1_50))) else none) else none))) else none))) else none))) else none) else none) else none))) else none))) else none) else (if -2147483648 ≤ (I_113 105 60) + 0 ∧ (I_113 105 60) + 0 ≤ 2147483647 then (stI (w2 I_113 105 60 ((I_113 105 60) + 0)) (fun I_134 => (if 0 ≤ i1 ∧ i1 < 16 then (stI (w2 I_134 138 i1 1) (fun I_143 => (if 0 ≤ i1 ∧ i1 < 16 then (if 0 ≤ i2 ∧ i2 < 8 then (if 1 ≤ dp then ((kf_240 n (dp - 1) e 0 I_143 L3_110 i1).bind (fun ⟨x4_161, I4_161, L4_161⟩ => (if 1 ≤ dp then ((kf_284 n (dp - 1) e 0 I4_161 L4_161 x1_50 (I_143 134 i2) x4_161 0 0 0).bind (fun ⟨x5_164, I5_164, L5_164⟩ => (if 1 ≤ dp then ((kf_250 n (dp - 1) e 0 I5_164 L5_164 i1 x1_50).bind (fun ⟨x6_170, I6_170, L6_170⟩ => (if 0 ≤ i1 ∧ i1 < 16 then (if (-2147483648 ≤ x5_164 * x6_170 ∧ x5_164 * x6_170 ≤ 2147483647) ∧ (-2147483648 ≤ (I_143 136 i1) + (x5_164 * x6_170) ∧ (I_143 136 i1) + (x5_164 * x6_170) ≤ 2147483647) then (stI (w2 I6_170 136 i1 ((I_143 136 i1) + (x5_164 * x6_170))) (fun I_175 => (kf_283 n dp e 3 I_175 L6_170 i1 i2 x1_50))) else none) else none))) else none))) else none))) else none) else none) else none))) else none))) else none)) else none))) else none))) else none) else (if 0 ≤ i1 ∧ i1 < 16 then (if 0 ≤ i1 ∧ i1 < 16 then (stI (w2 I2_75 137 i1 (I2_75 137 i1)) (fun I_113 => (if 0 ≤ i1 ∧ i1 < 16 then (if (I_113 138 i1) = 0 then (if -2147483648 ≤ (I_113 105 60) + 1 ∧ (I_113 105 60) + 1 ≤ 2147483647 then (stI (w2 I_113 105 60 ((I_113 105 60) + 1)) (fun I_134 => (if 0 ≤ i1 ∧ i1 < 16 then (stI (w2 I_134 138 i1 1) (fun I_143 => (if 0 ≤ i1 ∧ i1 < 16 then (if 0 ≤ i2 ∧ i2 < 8 then (if 1 ≤ dp then ((kf_240 n (dp - 1) e 0 I_143 L2_75 i1).bind (fun ⟨x3_161, I3_161, L3_161⟩ => (if 1 ≤ dp then ((kf_284 n (dp - 1) e 0 I3_161 L3_161 x1_50 (I_143 134 i2) x3_161 0 0 0).bind (fun ⟨x4_164, I4_164, L4_164⟩ => (if 1 ≤ dp then ((kf_250 n (dp - 1) e 0 I4_164 L4_164 i1 x1_50).bind (fun ⟨x5_170, I5_170, L5_170⟩ => (if 0 ≤ i1 ∧ i1 < 16 then (if (-2147483648 ≤ x4_164 * x5_170 ∧ x4_164 * x5_170 ≤ 2147483647) ∧ (-2147483648 ≤ (I_143 136 i1) + (x4_164 * x5_170) ∧ (I_143 136 i1) + (x4_164 * x5_170) ≤ 2147483647) then (stI (w2 I5_170 136 i1 ((I_143 136 i1) + (x4_164 * x5_170))) (fun I_175 => (kf_283 n dp e 3 I_175 L5_170 i1 i2 x1_50))) else none) else none))) else none))) else none))) else none) else none) else none))) else none))) else none) else (if -2147483648 ≤ (I_113 105 60) + 0 ∧ (I_113 105 60) + 0 ≤ 2147483647 then (stI (w2 I_113 105 60 ((I_113 105 60) + 0)) (fun I_134 => (if 0 ≤ i1 ∧ i1 < 16 then (stI (w2 I_134 138 i1 1) (fun I_143 => (if 0 ≤ i1 ∧ i1 < 16 then (if 0 ≤ i2 ∧ i2 < 8 then (if 1 ≤ dp then ((kf_240 n (dp - 1) e 0 I_143 L2_75 i1).bind (fun ⟨x3_161, I3_161, L3_161⟩ => (if 1 ≤ dp then ((kf_284 n (dp - 1) e 0 I3_161 L3_161 x1_50 (I_143 134 i2) x3_161 0 0 0).bind (fun ⟨x4_164, I4_164, L4_164⟩ => (if 1 ≤ dp then ((kf_250 n (dp - 1) e 0 I4_164 L4_164 i1 x1_50).bind (fun ⟨x5_170, I5_170, L5_170⟩ => (if 0 ≤ i1 ∧ i1 < 16 then (if (-2147483648 ≤ x4_164 * x5_170 ∧ x4_164 * x5_170 ≤ 2147483647) ∧ (-2147483648 ≤ (I_143 136 i1) + (x4_164 * x5_170) ∧ (I_143 136 i1) + (x4_164 * x5_170) ≤ 2147483647) then (stI (w2 I5_170 136 i1 ((I_143 136 i1) + (x4_164 * x5_170))) (fun I_175 => (kf_283 n dp e 3 I_175 L5_170 i1 i2 x1_50))) else none) else none))) else none))) else none))) else none) else none) else none))) else none))) else none)) else none))) else none) else none)) else none) else (kf_283 n dp e 3 I2_75 L2_75 i1 i2 x1_50)) else none) else none))) else none) else none))) else none))))) else none)
    else if lab = 3 then (if -2147483648 ≤ i2 + 1 ∧ i2 + 1 ≤ 2147483647 then (kf_283 n dp e 2 I L i1 (i2 + 1) 0) else none)
    else if lab = 4 then (if -2147483648 ≤ i1 + 1 ∧ i1 + 1 ≤ 2147483647 then (kf_283 n dp e 1 I L (i1 + 1) 0 0) else none)
    else none
set_option maxRecDepth 100000 in
theorem ke_283_0 (n : Nat) (dp : Nat) (e : EN) (I : JI) (L : JI) (i1 : Int) (i2 : Int) (i3 : Int) : kf_283 (n + 1) dp e 0 I L i1 i2 i3 = (stI (w2 I 105 60 0) (fun I_2 => (kf_283 n dp e 1 I_2 L 0 0 0))) := by rw [kf_283.eq_2, if_pos (show (0 : Nat) = 0 from rfl)]
set_option maxRecDepth 100000 in
theorem ke_283_1 (n : Nat) (dp : Nat) (e : EN) (I : JI) (L : JI) (i1 : Int) (i2 : Int) (i3 : Int) : kf_283 (n + 1) dp e 1 I L i1 i2 i3 = (if 16 ≤ i1 then (some (I, L)) else (if 0 ≤ i1 ∧ i1 < 16 then (stI (w2 I 136 i1 0) (fun I_19 => (if 0 ≤ i1 ∧ i1 < 16 then (stI (w2 I_19 138 i1 0) (fun I_26 => (kf_283 n dp e 2 I_26 L i1 0 0))) else none))) else none)) := by rw [kf_283.eq_2, if_neg (show ¬ ((1 : Nat) = 0) by decide), if_pos (show (1 : Nat) = 1 from rfl)]
set_option maxRecDepth 100000 in
theorem ke_283_2 (n : Nat) (dp : Nat) (e : EN) (I : JI) (L : JI) (i1 : Int) (i2 : Int) (i3 : Int) : kf_283 (n + 1) dp e 2 I L i1 i2 i3 = (if 1 ≤ dp then ((kf_198 n (dp - 1) e 0 I L).bind (fun ⟨x0_31, I0_31, L0_31⟩ => (if x0_31 ≤ i2 then (kf_283 n dp e 4 I0_31 L0_31 i1 i2 0) else (if (I0_31 107 9) ≤ i1 then (kf_283 n dp e 4 I0_31 L0_31 i1 i2 0) else (if 1 ≤ dp then ((kf_280 n (dp - 1) e 0 I0_31 L0_31 i2).bind (fun ⟨x1_50, I1_50, L1_50⟩ => (if 0 ≤ i2 ∧ i2 < 8 then (if 1 ≤ dp then ((kf_240 n (dp - 1) e 0 I1_50 L1_50 i1).bind (fun ⟨x2_75, I2_75, L2_75⟩ => (if (-2147483648 ≤ 640 * x1_50 ∧ 640 * x1_50 ≤ 2147483647) ∧ (-2147483648 ≤ 10 * (I1_50 134 i2) ∧ 10 * (I1_50 134 i2) ≤ 2147483647) ∧ (-2147483648 ≤ (640 * x1_50) + (10 * (I1_50 134 i2)) ∧ (640 * x1_50) + (10 * (I1_50 134 i2)) ≤ 2147483647) ∧ (-2147483648 ≤ ((640 * x1_50) + (10 * (I1_50 134 i2))) + x2_75 ∧ ((640 * x1_50) + (10 * (I1_50 134 i2))) + x2_75 ≤ 2147483647) then (if 0 ≤ (((640 * x1_50) + (10 * (I1_50 134 i2))) + x2_75) ∧ (((640 * x1_50) + (10 * (I1_50 134 i2))) + x2_75) < 1920 then (if (I2_75 121 (((640 * x1_50) + (10 * (I1_50 134 i2))) + x2_75)) = i1 then (if 0 ≤ i1 ∧ i1 < 16 then (if (I2_75 138 i1) = 0 then (if 1 ≤ dp then ((kf_251 n (dp - 1) e 0 I2_75 L2_75 i1 x1_50).bind (fun ⟨x3_110, I3_110, L3_110⟩ => (if 0 ≤ i1 ∧ i1 < 16 then (stI (w2 I3_110 137 i1 x3_110) (fun I_113 => (if 0 ≤ i1 ∧ i1 < 16 then (if (I_113 138 i1) = 0 then (if -2147483648 ≤ (I_113 105 60) + 1 ∧ (I_113 105 60) + 1 ≤ 2147483647 then (stI (w2 I_113 105 60 ((I_113 105 60) + 1)) (fun I_134 => (if 0 ≤ i1 ∧ i1 < 16 then (stI (w2 I_134 138 i1 1) (fun I_143 => (if 0 ≤ i1 ∧ i1 < 16 then (if 0 ≤ i2 ∧ i2 < 8 then (if 1 ≤ dp then ((kf_240 n (dp - 1) e 0 I_143 L3_110 i1).bind (fun ⟨x4_161, I4_161, L4_161⟩ => (if 1 ≤ dp then ((kf_284 n (dp - 1) e 0 I4_161 L4_161 x1_50 (I_143 134 i2) x4_161 0 0 0).bind (fun ⟨x5_164, I5_164, L5_164⟩ => (if 1 ≤ dp then ((kf_250 n (dp - 1) e 0 I5_164 L5_164 i1 x1_50).bind (fun ⟨x6_170, I6_170, L6_170⟩ => (if 0 ≤ i1 ∧ i1 < 16 then (if (-2147483648 ≤ x5_164 * x6_170 ∧ x5_164 * x6_170 ≤ 2147483647) ∧ (-2147483648 ≤ (I_143 136 i1) + (x5_164 * x6_170) ∧ (I_143 136 i1) + (x5_164 * x6_170) ≤ 2147483647) then (stI (w2 I6_170 136 i1 ((I_143 136 i1) + (x5_164 * x6_170))) (fun I_175 => (kf_283 n dp e 3 I_175 L6_170 i1 i2 x1_50))) else none) else none))) else none))) else none))) else none) else none) else none))) else none))) else none) else (if -2147483648 ≤ (I_113 105 60) + 0 ∧ (I_113 105 60) + 0 ≤ 2147483647 then (stI (w2 I_113 105 60 ((I_113 105 60) + 0)) (fun I_134 => (if 0 ≤ i1 ∧ i1 < 16 then (stI (w2 I_134 138 i1 1) (fun I_143 => (if 0 ≤ i1 ∧ i1 < 16 then (if 0 ≤ i2 ∧ i2 < 8 then (if 1 ≤ dp then ((kf_240 n (dp - 1) e 0 I_143 L3_110 i1).bind (fun ⟨x4_161, I4_161, L4_161⟩ => (if 1 ≤ dp then ((kf_284 n (dp - 1) e 0 I4_161 L4_161 x1_50 (I_143 134 i2) x4_161 0 0 0).bind (fun ⟨x5_164, I5_164, L5_164⟩ => (if 1 ≤ dp then ((kf_250 n (dp - 1) e 0 I5_164 L5_164 i1 x1_50).bind (fun ⟨x6_170, I6_170, L6_170⟩ => (if 0 ≤ i1 ∧ i1 < 16 then (if (-2147483648 ≤ x5_164 * x6_170 ∧ x5_164 * x6_170 ≤ 2147483647) ∧ (-2147483648 ≤ (I_143 136 i1) + (x5_164 * x6_170) ∧ (I_143 136 i1) + (x5_164 * x6_170) ≤ 2147483647) then (stI (w2 I6_170 136 i1 ((I_143 136 i1) + (x5_164 * x6_170))) (fun I_175 => (kf_283 n dp e 3 I_175 L6_170 i1 i2 x1_50))) else none) else none))) else none))) else none))) else none) else none) else none))) else none))) else none)) else none))) else none))) else none) else (if 0 ≤ i1 ∧ i1 < 16 then (if 0 ≤ i1 ∧ i1 < 16 then (stI (w2 I2_75 137 i1 (I2_75 137 i1)) (fun I_113 => (if 0 ≤ i1 ∧ i1 < 16 then (if (I_113 138 i1) = 0 then (if -2147483648 ≤ (I_113 105 60) + 1 ∧ (I_113 105 60) + 1 ≤ 2147483647 then (stI (w2 I_113 105 60 ((I_113 105 60) + 1)) (fun I_134 => (if 0 ≤ i1 ∧ i1 < 16 then (stI (w2 I_134 138 i1 1) (fun I_143 => (if 0 ≤ i1 ∧ i1 < 16 then (if 0 ≤ i2 ∧ i2 < 8 then (if 1 ≤ dp then ((kf_240 n (dp - 1) e 0 I_143 L2_75 i1).bind (fun ⟨x3_161, I3_161, L3_161⟩ => (if 1 ≤ dp then ((kf_284 n (dp - 1) e 0 I3_161 L3_161 x1_50 (I_143 134 i2) x3_161 0 0 0).bind (fun ⟨x4_164, I4_164, L4_164⟩ => (if 1 ≤ dp then ((kf_250 n (dp - 1) e 0 I4_164 L4_164 i1 x1_50).bind (fun ⟨x5_170, I5_170, L5_170⟩ => (if 0 ≤ i1 ∧ i1 < 16 then (if (-2147483648 ≤ x4_164 * x5_170 ∧ x4_164 * x5_170 ≤ 2147483647) ∧ (-2147483648 ≤ (I_143 136 i1) + (x4_164 * x5_170) ∧ (I_143 136 i1) + (x4_164 * x5_170) ≤ 2147483647) then (stI (w2 I5_170 136 i1 ((I_143 136 i1) + (x4_164 * x5_170))) (fun I_175 => (kf_283 n dp e 3 I_175 L5_170 i1 i2 x1_50))) else none) else none))) else none))) else none))) else none) else none) else none))) else none))) else none) else (if -2147483648 ≤ (I_113 105 60) + 0 ∧ (I_113 105 60) + 0 ≤ 2147483647 then (stI (w2 I_113 105 60 ((I_113 105 60) + 0)) (fun I_134 => (if 0 ≤ i1 ∧ i1 < 16 then (stI (w2 I_134 138 i1 1) (fun I_143 => (if 0 ≤ i1 ∧ i1 < 16 then (if 0 ≤ i2 ∧ i2 < 8 then (if 1 ≤ dp then ((kf_240 n (dp - 1) e 0 I_143 L2_75 i1).bind (fun ⟨x3_161, I3_161, L3_161⟩ => (if 1 ≤ dp then ((kf_284 n (dp - 1) e 0 I3_161 L3_161 x1_50 (I_143 134 i2) x3_161 0 0 0).bind (fun ⟨x4_164, I4_164, L4_164⟩ => (if 1 ≤ dp then ((kf_250 n (dp - 1) e 0 I4_164 L4_164 i1 x1_50).bind (fun ⟨x5_170, I5_170, L5_170⟩ => (if 0 ≤ i1 ∧ i1 < 16 then (if (-2147483648 ≤ x4_164 * x5_170 ∧ x4_164 * x5_170 ≤ 2147483647) ∧ (-2147483648 ≤ (I_143 136 i1) + (x4_164 * x5_170) ∧ (I_143 136 i1) + (x4_164 * x5_170) ≤ 2147483647) then (stI (w2 I5_170 136 i1 ((I_143 136 i1) + (x4_164 * x5_170))) (fun I_175 => (kf_283 n dp e 3 I_175 L5_170 i1 i2 x1_50))) else none) else none))) else none))) else none))) else none) else none) else none))) else none))) else none)) else none))) else none) else none)) else none) else (kf_283 n dp e 3 I2_75 L2_75 i1 i2 x1_50)) else none) else none))) else none) else none))) else none))))) else none) := by rw [kf_283.eq_2, if_neg (show ¬ ((2 : Nat) = 0) by decide), if_neg (show ¬ ((2 : Nat) = 1) by decide), if_pos (show (2 : Nat) = 2 from rfl)]
set_option maxRecDepth 100000 in
theorem ke_283_3 (n : Nat) (dp : Nat) (e : EN) (I : JI) (L : JI) (i1 : Int) (i2 : Int) (i3 : Int) : kf_283 (n + 1) dp e 3 I L i1 i2 i3 = (if -2147483648 ≤ i2 + 1 ∧ i2 + 1 ≤ 2147483647 then (kf_283 n dp e 2 I L i1 (i2 + 1) 0) else none) := by rw [kf_283.eq_2, if_neg (show ¬ ((3 : Nat) = 0) by decide), if_neg (show ¬ ((3 : Nat) = 1) by decide), if_neg (show ¬ ((3 : Nat) = 2) by decide), if_pos (show (3 : Nat) = 3 from rfl)]
set_option maxRecDepth 100000 in
theorem ke_283_4 (n : Nat) (dp : Nat) (e : EN) (I : JI) (L : JI) (i1 : Int) (i2 : Int) (i3 : Int) : kf_283 (n + 1) dp e 4 I L i1 i2 i3 = (if -2147483648 ≤ i1 + 1 ∧ i1 + 1 ≤ 2147483647 then (kf_283 n dp e 1 I L (i1 + 1) 0 0) else none) := by rw [kf_283.eq_2, if_neg (show ¬ ((4 : Nat) = 0) by decide), if_neg (show ¬ ((4 : Nat) = 1) by decide), if_neg (show ¬ ((4 : Nat) = 2) by decide), if_neg (show ¬ ((4 : Nat) = 3) by decide), if_pos (show (4 : Nat) = 4 from rfl)]
set_option maxHeartbeats 8000000 in
set_option maxRecDepth 100000 in
theorem ks_283 : ∀ (n : Nat) (dp : Nat) (e : EN) (lab : Nat) (I : Nat → Nat → Int32) (I' : JI) (L : Nat → Nat → Int64) (L' : JI) (i1 : Int32) (i1' : Int) (i2 : Int32) (i2' : Int) (i3 : Int32) (i3' : Int), Rli I I' → Rll L L' → Ui i1 i1' → Ui i2 i2' → Ui i3 i3' → Sim R2 (g_283 n dp e lab I L i1 i2 i3) (kf_283 n dp e lab I' L' i1' i2' i3') := by
  intro n
  induction n with
  | zero => intros; rw [kf_283.eq_1]; exact Sn
  | succ n ih =>
    intro dp e lab I I' L L' i1 i1' i2 i2' i3 i3' u_I u_L u_i1 u_i2 u_i3
    rw [g_283.eq_2, kf_283.eq_2]
    refine Sc Iff.rfl (fun _ => ?_) (fun _ => ?_)
    · refine SsJ (ri_up u_I (rfl : ((60 : Nat) : Int) = 60) (rfl : Ui (0) (0))) (fun I_2 I_2' u_I_2 => ?_)
      exact (ih dp e 1 _ _ _ _ _ _ _ _ _ _ u_I_2 u_L (rfl : Ui (0) (0)) (rfl : Ui 0 0) (rfl : Ui 0 0))
    refine Sc Iff.rfl (fun _ => ?_) (fun _ => ?_)
    · refine Sc (le_up (rfl : Ui (16) (16)) u_i1) (fun c1 => ?_) (fun c1 => ?_)
      · exact Sr ⟨u_I, u_L⟩
      · refine Sc (ix_up u_i1) (fun c2 => ?_) (fun _ => Sn)
        refine SsJ (ri_up u_I (kc_up u_i1 c2.1) (rfl : Ui (0) (0))) (fun I_19 I_19' u_I_19 => ?_)
        refine Sc (ix_up u_i1) (fun c3 => ?_) (fun _ => Sn)
        refine SsJ (ri_up u_I_19 (kc_up u_i1 c3.1) (rfl : Ui (0) (0))) (fun I_26 I_26' u_I_26 => ?_)
        exact (ih dp e 2 _ _ _ _ _ _ _ _ _ _ u_I_26 u_L u_i1 (rfl : Ui (0) (0)) (rfl : Ui 0 0))
    refine Sc Iff.rfl (fun _ => ?_) (fun _ => ?_)
    · refine Sc Iff.rfl (fun c1 => ?_) (fun _ => Sn)
      refine Sb3 (ks_198 n (dp - 1) e 0 _ _ _ _ u_I u_L) (fun x0_31 x0_31' I0_31 I0_31' L0_31 L0_31' u_x0_31 u_I0_31 u_L0_31 => ?_)
      refine Sc (le_up u_x0_31 u_i2) (fun c2 => ?_) (fun c2 => ?_)
      · exact (ih dp e 4 _ _ _ _ _ _ _ _ _ _ u_I0_31 u_L0_31 u_i1 u_i2 (rfl : Ui 0 0))
      · refine Sc (le_up (u_I0_31 107 9) u_i1) (fun c3 => ?_) (fun c3 => ?_)
        · exact (ih dp e 4 _ _ _ _ _ _ _ _ _ _ u_I0_31 u_L0_31 u_i1 u_i2 (rfl : Ui 0 0))
        · refine Sc Iff.rfl (fun c4 => ?_) (fun _ => Sn)
          refine Sb3 (ks_280 n (dp - 1) e 0 _ _ _ _ _ _ u_I0_31 u_L0_31 u_i2) (fun x1_50 x1_50' I1_50 I1_50' L1_50 L1_50' u_x1_50 u_I1_50 u_L1_50 => ?_)
          refine Sc (ix_up u_i2) (fun c5 => ?_) (fun _ => Sn)
          refine Sc Iff.rfl (fun c6 => ?_) (fun _ => Sn)
          refine Sb3 (ks_240 n (dp - 1) e 0 _ _ _ _ _ _ u_I1_50 u_L1_50 u_i1) (fun x2_75 x2_75' I2_75 I2_75' L2_75 L2_75' u_x2_75 u_I2_75 u_L2_75 => ?_)
          refine Sg (fun g7 => ?_)
          refine Sc (ix_up (ui_add (ui_add (ui_mul (rfl : Ui (640) (640)) u_x1_50 g7.1) (ui_mul (rfl : Ui (10) (10)) (ui_rd (a := 134) u_I1_50 u_i2 c5.1) g7.2.1) g7.2.2.1) u_x2_75 g7.2.2.2)) (fun c8 => ?_) (fun _ => Sn)
          refine Sc (eq_up (ui_rd (a := 121) u_I2_75 (ui_add (ui_add (ui_mul (rfl : Ui (640) (640)) u_x1_50 g7.1) (ui_mul (rfl : Ui (10) (10)) (ui_rd (a := 134) u_I1_50 u_i2 c5.1) g7.2.1) g7.2.2.1) u_x2_75 g7.2.2.2) c8.1) u_i1) (fun c9 => ?_) (fun c9 => ?_)
          · refine Sc (ix_up u_i1) (fun c10 => ?_) (fun _ => Sn)
            refine Sc (eq_up (ui_rd (a := 138) u_I2_75 u_i1 c10.1) (rfl : Ui 0 0)) (fun c11 => ?_) (fun c11 => ?_)
            · refine Sc Iff.rfl (fun c12 => ?_) (fun _ => Sn)
              refine Sb3 (ks_251 n (dp - 1) e 0 _ _ _ _ _ _ _ _ u_I2_75 u_L2_75 u_i1 u_x1_50) (fun x3_110 x3_110' I3_110 I3_110' L3_110 L3_110' u_x3_110 u_I3_110 u_L3_110 => ?_)
              refine Sc (ix_up u_i1) (fun c13 => ?_) (fun _ => Sn)
              refine SsJ (ri_up u_I3_110 (kc_up u_i1 c13.1) u_x3_110) (fun I_113 I_113' u_I_113 => ?_)
              refine Sc (ix_up u_i1) (fun c14 => ?_) (fun _ => Sn)
              refine Sc (eq_up (ui_rd (a := 138) u_I_113 u_i1 c14.1) (rfl : Ui 0 0)) (fun c15 => ?_) (fun c15 => ?_)
              · refine Sg (fun g16 => ?_)
                refine SsJ (ri_up u_I_113 (rfl : ((60 : Nat) : Int) = 60) (ui_add (u_I_113 105 60) (rfl : Ui (1) (1)) g16)) (fun I_134 I_134' u_I_134 => ?_)
                refine Sc (ix_up u_i1) (fun c17 => ?_) (fun _ => Sn)
                refine SsJ (ri_up u_I_134 (kc_up u_i1 c17.1) (rfl : Ui (1) (1))) (fun I_143 I_143' u_I_143 => ?_)
                refine Sc (ix_up u_i1) (fun c18 => ?_) (fun _ => Sn)
                refine Sc (ix_up u_i2) (fun c19 => ?_) (fun _ => Sn)
                refine Sc Iff.rfl (fun c20 => ?_) (fun _ => Sn)
                refine Sb3 (ks_240 n (dp - 1) e 0 _ _ _ _ _ _ u_I_143 u_L3_110 u_i1) (fun x4_161 x4_161' I4_161 I4_161' L4_161 L4_161' u_x4_161 u_I4_161 u_L4_161 => ?_)
                refine Sc Iff.rfl (fun c21 => ?_) (fun _ => Sn)
                refine Sb3 (ks_284 n (dp - 1) e 0 _ _ _ _ _ _ _ _ _ _ _ _ _ _ _ _ u_I4_161 u_L4_161 u_x1_50 (ui_rd (a := 134) u_I_143 u_i2 c19.1) u_x4_161 (rfl : Ui 0 0) (rfl : Ui 0 0) (rfl : Ui 0 0)) (fun x5_164 x5_164' I5_164 I5_164' L5_164 L5_164' u_x5_164 u_I5_164 u_L5_164 => ?_)
                refine Sc Iff.rfl (fun c22 => ?_) (fun _ => Sn)
                refine Sb3 (ks_250 n (dp - 1) e 0 _ _ _ _ _ _ _ _ u_I5_164 u_L5_164 u_i1 u_x1_50) (fun x6_170 x6_170' I6_170 I6_170' L6_170 L6_170' u_x6_170 u_I6_170 u_L6_170 => ?_)
                refine Sc (ix_up u_i1) (fun c23 => ?_) (fun _ => Sn)
                refine Sg (fun g24 => ?_)
                refine SsJ (ri_up u_I6_170 (kc_up u_i1 c23.1) (ui_add (ui_rd (a := 136) u_I_143 u_i1 c23.1) (ui_mul u_x5_164 u_x6_170 g24.1) g24.2)) (fun I_175 I_175' u_I_175 => ?_)
                exact (ih dp e 3 _ _ _ _ _ _ _ _ _ _ u_I_175 u_L6_170 u_i1 u_i2 u_x1_50)
              · refine Sg (fun g25 => ?_)
                refine SsJ (ri_up u_I_113 (rfl : ((60 : Nat) : Int) = 60) (ui_add (u_I_113 105 60) (rfl : Ui (0) (0)) g25)) (fun I_134 I_134' u_I_134 => ?_)
                refine Sc (ix_up u_i1) (fun c26 => ?_) (fun _ => Sn)
                refine SsJ (ri_up u_I_134 (kc_up u_i1 c26.1) (rfl : Ui (1) (1))) (fun I_143 I_143' u_I_143 => ?_)
                refine Sc (ix_up u_i1) (fun c27 => ?_) (fun _ => Sn)
                refine Sc (ix_up u_i2) (fun c28 => ?_) (fun _ => Sn)
                refine Sc Iff.rfl (fun c29 => ?_) (fun _ => Sn)
                refine Sb3 (ks_240 n (dp - 1) e 0 _ _ _ _ _ _ u_I_143 u_L3_110 u_i1) (fun x4_161 x4_161' I4_161 I4_161' L4_161 L4_161' u_x4_161 u_I4_161 u_L4_161 => ?_)
                refine Sc Iff.rfl (fun c30 => ?_) (fun _ => Sn)
                refine Sb3 (ks_284 n (dp - 1) e 0 _ _ _ _ _ _ _ _ _ _ _ _ _ _ _ _ u_I4_161 u_L4_161 u_x1_50 (ui_rd (a := 134) u_I_143 u_i2 c28.1) u_x4_161 (rfl : Ui 0 0) (rfl : Ui 0 0) (rfl : Ui 0 0)) (fun x5_164 x5_164' I5_164 I5_164' L5_164 L5_164' u_x5_164 u_I5_164 u_L5_164 => ?_)
                refine Sc Iff.rfl (fun c31 => ?_) (fun _ => Sn)
                refine Sb3 (ks_250 n (dp - 1) e 0 _ _ _ _ _ _ _ _ u_I5_164 u_L5_164 u_i1 u_x1_50) (fun x6_170 x6_170' I6_170 I6_170' L6_170 L6_170' u_x6_170 u_I6_170 u_L6_170 => ?_)
                refine Sc (ix_up u_i1) (fun c32 => ?_) (fun _ => Sn)
                refine Sg (fun g33 => ?_)
                refine SsJ (ri_up u_I6_170 (kc_up u_i1 c32.1) (ui_add (ui_rd (a := 136) u_I_143 u_i1 c32.1) (ui_mul u_x5_164 u_x6_170 g33.1) g33.2)) (fun I_175 I_175' u_I_175 => ?_)
                exact (ih dp e 3 _ _ _ _ _ _ _ _ _ _ u_I_175 u_L6_170 u_i1 u_i2 u_x1_50)
            · refine Sc (ix_up u_i1) (fun c34 => ?_) (fun _ => Sn)
              refine Sc (ix_up u_i1) (fun c35 => ?_) (fun _ => Sn)
              refine SsJ (ri_up u_I2_75 (kc_up u_i1 c35.1) (ui_rd (a := 137) u_I2_75 u_i1 c35.1)) (fun I_113 I_113' u_I_113 => ?_)
              refine Sc (ix_up u_i1) (fun c36 => ?_) (fun _ => Sn)
              refine Sc (eq_up (ui_rd (a := 138) u_I_113 u_i1 c36.1) (rfl : Ui 0 0)) (fun c37 => ?_) (fun c37 => ?_)
              · refine Sg (fun g38 => ?_)
                refine SsJ (ri_up u_I_113 (rfl : ((60 : Nat) : Int) = 60) (ui_add (u_I_113 105 60) (rfl : Ui (1) (1)) g38)) (fun I_134 I_134' u_I_134 => ?_)
                refine Sc (ix_up u_i1) (fun c39 => ?_) (fun _ => Sn)
                refine SsJ (ri_up u_I_134 (kc_up u_i1 c39.1) (rfl : Ui (1) (1))) (fun I_143 I_143' u_I_143 => ?_)
                refine Sc (ix_up u_i1) (fun c40 => ?_) (fun _ => Sn)
                refine Sc (ix_up u_i2) (fun c41 => ?_) (fun _ => Sn)
                refine Sc Iff.rfl (fun c42 => ?_) (fun _ => Sn)
                refine Sb3 (ks_240 n (dp - 1) e 0 _ _ _ _ _ _ u_I_143 u_L2_75 u_i1) (fun x3_161 x3_161' I3_161 I3_161' L3_161 L3_161' u_x3_161 u_I3_161 u_L3_161 => ?_)
                refine Sc Iff.rfl (fun c43 => ?_) (fun _ => Sn)
                refine Sb3 (ks_284 n (dp - 1) e 0 _ _ _ _ _ _ _ _ _ _ _ _ _ _ _ _ u_I3_161 u_L3_161 u_x1_50 (ui_rd (a := 134) u_I_143 u_i2 c41.1) u_x3_161 (rfl : Ui 0 0) (rfl : Ui 0 0) (rfl : Ui 0 0)) (fun x4_164 x4_164' I4_164 I4_164' L4_164 L4_164' u_x4_164 u_I4_164 u_L4_164 => ?_)
                refine Sc Iff.rfl (fun c44 => ?_) (fun _ => Sn)
                refine Sb3 (ks_250 n (dp - 1) e 0 _ _ _ _ _ _ _ _ u_I4_164 u_L4_164 u_i1 u_x1_50) (fun x5_170 x5_170' I5_170 I5_170' L5_170 L5_170' u_x5_170 u_I5_170 u_L5_170 => ?_)
                refine Sc (ix_up u_i1) (fun c45 => ?_) (fun _ => Sn)
                refine Sg (fun g46 => ?_)
                refine SsJ (ri_up u_I5_170 (kc_up u_i1 c45.1) (ui_add (ui_rd (a := 136) u_I_143 u_i1 c45.1) (ui_mul u_x4_164 u_x5_170 g46.1) g46.2)) (fun I_175 I_175' u_I_175 => ?_)
                exact (ih dp e 3 _ _ _ _ _ _ _ _ _ _ u_I_175 u_L5_170 u_i1 u_i2 u_x1_50)
              · refine Sg (fun g47 => ?_)
                refine SsJ (ri_up u_I_113 (rfl : ((60 : Nat) : Int) = 60) (ui_add (u_I_113 105 60) (rfl : Ui (0) (0)) g47)) (fun I_134 I_134' u_I_134 => ?_)
                refine Sc (ix_up u_i1) (fun c48 => ?_) (fun _ => Sn)
                refine SsJ (ri_up u_I_134 (kc_up u_i1 c48.1) (rfl : Ui (1) (1))) (fun I_143 I_143' u_I_143 => ?_)
                refine Sc (ix_up u_i1) (fun c49 => ?_) (fun _ => Sn)
                refine Sc (ix_up u_i2) (fun c50 => ?_) (fun _ => Sn)
                refine Sc Iff.rfl (fun c51 => ?_) (fun _ => Sn)
                refine Sb3 (ks_240 n (dp - 1) e 0 _ _ _ _ _ _ u_I_143 u_L2_75 u_i1) (fun x3_161 x3_161' I3_161 I3_161' L3_161 L3_161' u_x3_161 u_I3_161 u_L3_161 => ?_)
                refine Sc Iff.rfl (fun c52 => ?_) (fun _ => Sn)
                refine Sb3 (ks_284 n (dp - 1) e 0 _ _ _ _ _ _ _ _ _ _ _ _ _ _ _ _ u_I3_161 u_L3_161 u_x1_50 (ui_rd (a := 134) u_I_143 u_i2 c50.1) u_x3_161 (rfl : Ui 0 0) (rfl : Ui 0 0) (rfl : Ui 0 0)) (fun x4_164 x4_164' I4_164 I4_164' L4_164 L4_164' u_x4_164 u_I4_164 u_L4_164 => ?_)
                refine Sc Iff.rfl (fun c53 => ?_) (fun _ => Sn)
                refine Sb3 (ks_250 n (dp - 1) e 0 _ _ _ _ _ _ _ _ u_I4_164 u_L4_164 u_i1 u_x1_50) (fun x5_170 x5_170' I5_170 I5_170' L5_170 L5_170' u_x5_170 u_I5_170 u_L5_170 => ?_)
                refine Sc (ix_up u_i1) (fun c54 => ?_) (fun _ => Sn)
                refine Sg (fun g55 => ?_)
                refine SsJ (ri_up u_I5_170 (kc_up u_i1 c54.1) (ui_add (ui_rd (a := 136) u_I_143 u_i1 c54.1) (ui_mul u_x4_164 u_x5_170 g55.1) g55.2)) (fun I_175 I_175' u_I_175 => ?_)
                exact (ih dp e 3 _ _ _ _ _ _ _ _ _ _ u_I_175 u_L5_170 u_i1 u_i2 u_x1_50)
          · exact (ih dp e 3 _ _ _ _ _ _ _ _ _ _ u_I2_75 u_L2_75 u_i1 u_i2 u_x1_50)
    refine Sc Iff.rfl (fun _ => ?_) (fun _ => ?_)
    · refine Sg (fun g1 => ?_)
      exact (ih dp e 2 _ _ _ _ _ _ _ _ _ _ u_I u_L u_i1 (ui_add u_i2 (rfl : Ui (Int32.ofInt (1)) (1)) g1) (rfl : Ui 0 0))
    refine Sc Iff.rfl (fun _ => ?_) (fun _ => ?_)
    · refine Sg (fun g1 => ?_)
      exact (ih dp e 1 _ _ _ _ _ _ _ _ _ _ u_I u_L (ui_add u_i1 (rfl : Ui (Int32.ofInt (1)) (1)) g1) (rfl : Ui 0 0) (rfl : Ui 0 0))
    exact Sn
set_option maxHeartbeats 4000000 in
set_option maxRecDepth 100000 in
def kf_282 : Nat → Nat → EN → Nat → JI → JI → Int → Int → Int → Option (Int × JI × JI)
  | 0, _, _, _, _, _, _, _, _ => none
  | n + 1, dp, e, lab, I, L, i1, i2, i3 =>
    if lab = 0 then (stI (w2 I 105 0 0) (fun I_2 => (if i1 = (-1) then (kf_282 n dp e 1 I_2 L i1 0 0) else (if 1 ≤ dp then ((kf_239 n (dp - 1) e 0 I_2 L i1).bind (fun ⟨x0_12, I0_12, L0_12⟩ => (if x0_12 = 0 then (some (((-1) : Int), I0_12, L0_12)) else (kf_282 n dp e 1 I0_12 L0_12 i1 0 0)))) else none))))
    else if lab = 1 then (if 1 ≤ dp then ((kf_261 n (dp - 1) e 0 I L 0 0 0 0).bind (fun ⟨x0_19, I0_19, L0_19⟩ => (if x0_19 = 0 then (some (((-1) : Int), I0_19, L0_19)) else (if 1 ≤ dp then ((kf_283 n (dp - 1) e 0 I0_19 L0_19 0 0 0).bind (fun ⟨I1_28, L1_28⟩ => (kf_282 n dp e 2 I1_28 L1_28 i1 0 0))) else none)))) else none)
    else if lab = 2 then (if 16 ≤ i3 then (if i1 = (-1) then (some ((i2 : Int), I, L)) else (if 0 ≤ i1 ∧ i1 < 16 then (some (((I 136 i1) : Int), I, L)) else none)) else (if 0 ≤ i3 ∧ i3 < 16 then (if -2147483648 ≤ i2 + (I 136 i3) ∧ i2 + (I 136 i3) ≤ 2147483647 then (stI (i2 + (I 136 i3)) (fun v_49 => (if -2147483648 ≤ i3 + 1 ∧ i3 + 1 ≤ 2147483647 then (kf_282 n dp e 2 I L i1 v_49 (i3 + 1)) else none))) else none) else none))
    else none
set_option maxRecDepth 100000 in
theorem ke_282_0 (n : Nat) (dp : Nat) (e : EN) (I : JI) (L : JI) (i1 : Int) (i2 : Int) (i3 : Int) : kf_282 (n + 1) dp e 0 I L i1 i2 i3 = (stI (w2 I 105 0 0) (fun I_2 => (if i1 = (-1) then (kf_282 n dp e 1 I_2 L i1 0 0) else (if 1 ≤ dp then ((kf_239 n (dp - 1) e 0 I_2 L i1).bind (fun ⟨x0_12, I0_12, L0_12⟩ => (if x0_12 = 0 then (some (((-1) : Int), I0_12, L0_12)) else (kf_282 n dp e 1 I0_12 L0_12 i1 0 0)))) else none)))) := by rw [kf_282.eq_2, if_pos (show (0 : Nat) = 0 from rfl)]
set_option maxRecDepth 100000 in
theorem ke_282_1 (n : Nat) (dp : Nat) (e : EN) (I : JI) (L : JI) (i1 : Int) (i2 : Int) (i3 : Int) : kf_282 (n + 1) dp e 1 I L i1 i2 i3 = (if 1 ≤ dp then ((kf_261 n (dp - 1) e 0 I L 0 0 0 0).bind (fun ⟨x0_19, I0_19, L0_19⟩ => (if x0_19 = 0 then (some (((-1) : Int), I0_19, L0_19)) else (if 1 ≤ dp then ((kf_283 n (dp - 1) e 0 I0_19 L0_19 0 0 0).bind (fun ⟨I1_28, L1_28⟩ => (kf_282 n dp e 2 I1_28 L1_28 i1 0 0))) else none)))) else none) := by rw [kf_282.eq_2, if_neg (show ¬ ((1 : Nat) = 0) by decide), if_pos (show (1 : Nat) = 1 from rfl)]
set_option maxRecDepth 100000 in
theorem ke_282_2 (n : Nat) (dp : Nat) (e : EN) (I : JI) (L : JI) (i1 : Int) (i2 : Int) (i3 : Int) : kf_282 (n + 1) dp e 2 I L i1 i2 i3 = (if 16 ≤ i3 then (if i1 = (-1) then (some ((i2 : Int), I, L)) else (if 0 ≤ i1 ∧ i1 < 16 then (some (((I 136 i1) : Int), I, L)) else none)) else (if 0 ≤ i3 ∧ i3 < 16 then (if -2147483648 ≤ i2 + (I 136 i3) ∧ i2 + (I 136 i3) ≤ 2147483647 then (stI (i2 + (I 136 i3)) (fun v_49 => (if -2147483648 ≤ i3 + 1 ∧ i3 + 1 ≤ 2147483647 then (kf_282 n dp e 2 I L i1 v_49 (i3 + 1)) else none))) else none) else none)) := by rw [kf_282.eq_2, if_neg (show ¬ ((2 : Nat) = 0) by decide), if_neg (show ¬ ((2 : Nat) = 1) by decide), if_pos (show (2 : Nat) = 2 from rfl)]
set_option maxHeartbeats 8000000 in
set_option maxRecDepth 100000 in
theorem ks_282 : ∀ (n : Nat) (dp : Nat) (e : EN) (lab : Nat) (I : Nat → Nat → Int32) (I' : JI) (L : Nat → Nat → Int64) (L' : JI) (i1 : Int32) (i1' : Int) (i2 : Int32) (i2' : Int) (i3 : Int32) (i3' : Int), Rli I I' → Rll L L' → Ui i1 i1' → Ui i2 i2' → Ui i3 i3' → Sim R3 (g_282 n dp e lab I L i1 i2 i3) (kf_282 n dp e lab I' L' i1' i2' i3') := by
  intro n
  induction n with
  | zero => intros; rw [kf_282.eq_1]; exact Sn
  | succ n ih =>
    intro dp e lab I I' L L' i1 i1' i2 i2' i3 i3' u_I u_L u_i1 u_i2 u_i3
    rw [g_282.eq_2, kf_282.eq_2]
    refine Sc Iff.rfl (fun _ => ?_) (fun _ => ?_)
    · refine SsJ (ri_up u_I (rfl : ((0 : Nat) : Int) = 0) (rfl : Ui (0) (0))) (fun I_2 I_2' u_I_2 => ?_)
      refine Sc (eq_up u_i1 (rfl : Ui (-1) (-1))) (fun c1 => ?_) (fun c1 => ?_)
      · exact (ih dp e 1 _ _ _ _ _ _ _ _ _ _ u_I_2 u_L u_i1 (rfl : Ui 0 0) (rfl : Ui 0 0))
      · refine Sc Iff.rfl (fun c2 => ?_) (fun _ => Sn)
        refine Sb3 (ks_239 n (dp - 1) e 0 _ _ _ _ _ _ u_I_2 u_L u_i1) (fun x0_12 x0_12' I0_12 I0_12' L0_12 L0_12' u_x0_12 u_I0_12 u_L0_12 => ?_)
        refine Sc (eq_up u_x0_12 (rfl : Ui 0 0)) (fun c3 => ?_) (fun c3 => ?_)
        · exact Sr ⟨(rfl : Ui (-1) (-1)), u_I0_12, u_L0_12⟩
        · exact (ih dp e 1 _ _ _ _ _ _ _ _ _ _ u_I0_12 u_L0_12 u_i1 (rfl : Ui 0 0) (rfl : Ui 0 0))
    refine Sc Iff.rfl (fun _ => ?_) (fun _ => ?_)
    · refine Sc Iff.rfl (fun c1 => ?_) (fun _ => Sn)
      refine Sb3 (ks_261 n (dp - 1) e 0 _ _ _ _ _ _ _ _ _ _ _ _ u_I u_L (rfl : Ui 0 0) (rfl : Ui 0 0) (rfl : Ui 0 0) (rfl : Ui 0 0)) (fun x0_19 x0_19' I0_19 I0_19' L0_19 L0_19' u_x0_19 u_I0_19 u_L0_19 => ?_)
      refine Sc (eq_up u_x0_19 (rfl : Ui 0 0)) (fun c2 => ?_) (fun c2 => ?_)
      · exact Sr ⟨(rfl : Ui (-1) (-1)), u_I0_19, u_L0_19⟩
      · refine Sc Iff.rfl (fun c3 => ?_) (fun _ => Sn)
        refine Sb2 (ks_283 n (dp - 1) e 0 _ _ _ _ _ _ _ _ _ _ u_I0_19 u_L0_19 (rfl : Ui 0 0) (rfl : Ui 0 0) (rfl : Ui 0 0)) (fun I1_28 I1_28' L1_28 L1_28' u_I1_28 u_L1_28 => ?_)
        exact (ih dp e 2 _ _ _ _ _ _ _ _ _ _ u_I1_28 u_L1_28 u_i1 (rfl : Ui (0) (0)) (rfl : Ui (0) (0)))
    refine Sc Iff.rfl (fun _ => ?_) (fun _ => ?_)
    · refine Sc (le_up (rfl : Ui (16) (16)) u_i3) (fun c1 => ?_) (fun c1 => ?_)
      · refine Sc (eq_up u_i1 (rfl : Ui (-1) (-1))) (fun c2 => ?_) (fun c2 => ?_)
        · exact Sr ⟨u_i2, u_I, u_L⟩
        · refine Sc (ix_up u_i1) (fun c3 => ?_) (fun _ => Sn)
          exact Sr ⟨(ui_rd (a := 136) u_I u_i1 c3.1), u_I, u_L⟩
      · refine Sc (ix_up u_i3) (fun c4 => ?_) (fun _ => Sn)
        refine Sg (fun g5 => ?_)
        refine SsI (ui_add u_i2 (ui_rd (a := 136) u_I u_i3 c4.1) g5) (fun v_49 v_49' u_v_49 => ?_)
        refine Sg (fun g6 => ?_)
        exact (ih dp e 2 _ _ _ _ _ _ _ _ _ _ u_I u_L u_i1 u_v_49 (ui_add u_i3 (rfl : Ui (Int32.ofInt (1)) (1)) g6))
    exact Sn
set_option maxHeartbeats 4000000 in
set_option maxRecDepth 100000 in
def kf_287 : Nat → Nat → EN → Nat → JI → JI → Int → Int → Option (Int × JI × JI)
  | 0, _, _, _, _, _, _, _ => none
  | n + 1, dp, e, lab, I, L, i0, i1 =>
    if lab = 0 then (if (bA (bR i0 i1) 1) = 1 then (some ((1 : Int), I, L)) else (some ((0 : Int), I, L)))
    else none
set_option maxRecDepth 100000 in
theorem ke_287_0 (n : Nat) (dp : Nat) (e : EN) (I : JI) (L : JI) (i0 : Int) (i1 : Int) : kf_287 (n + 1) dp e 0 I L i0 i1 = (if (bA (bR i0 i1) 1) = 1 then (some ((1 : Int), I, L)) else (some ((0 : Int), I, L))) := by rw [kf_287.eq_2, if_pos (show (0 : Nat) = 0 from rfl)]
set_option maxHeartbeats 8000000 in
set_option maxRecDepth 100000 in
theorem ks_287 : ∀ (n : Nat) (dp : Nat) (e : EN) (lab : Nat) (I : Nat → Nat → Int32) (I' : JI) (L : Nat → Nat → Int64) (L' : JI) (i0 : Int32) (i0' : Int) (i1 : Int32) (i1' : Int), Rli I I' → Rll L L' → Ui i0 i0' → Ui i1 i1' → Sim R3 (g_287 n dp e lab I L i0 i1) (kf_287 n dp e lab I' L' i0' i1') := by
  intro n
  induction n with
  | zero => intros; rw [kf_287.eq_1]; exact Sn
  | succ n ih =>
    intro dp e lab I I' L L' i0 i0' i1 i1' u_I u_L u_i0 u_i1
    rw [g_287.eq_2, kf_287.eq_2]
    refine Sc Iff.rfl (fun _ => ?_) (fun _ => ?_)
    · refine Sc (eq_up (ui_and (ui_shr u_i0 u_i1) (rfl : Ui (1) (1))) (rfl : Ui (1) (1))) (fun c1 => ?_) (fun c1 => ?_)
      · exact Sr ⟨(rfl : Ui (1) (1)), u_I, u_L⟩
      · exact Sr ⟨(rfl : Ui (0) (0)), u_I, u_L⟩
    exact Sn
set_option maxHeartbeats 4000000 in
set_option maxRecDepth 100000 in
def kf_286 : Nat → Nat → EN → Nat → JI → JI → Int → Int → Int → Int → Int → Option (Int × JI × JI)
  | 0, _, _, _, _, _, _, _, _, _, _ => none
  | n + 1, dp, e, lab, I, L, i1, i2, i3, i4, i5 =>
    if lab = 0 then (kf_286 n dp e 1 I L i1 i1 (I 107 3) 0 0)
    else if lab = 1 then (if 4 ≤ i4 then (kf_286 n dp e 2 I L i1 i2 i3 15 0) else (if 0 ≤ i4 ∧ i4 < 4 then (stI (w2 I 139 i4 0) (fun I_25 => (if -2147483648 ≤ i4 + 1 ∧ i4 + 1 ≤ 2147483647 then (kf_286 n dp e 1 I_25 L i1 i2 i3 (i4 + 1) 0) else none))) else none))
    else if lab = 2 then (if i4 < 0 then (kf_286 n dp e 4 I L i1 i2 i3 0 0) else (if 0 ≤ i4 ∧ i4 < 16 then (if (I 138 i4) = 0 then (kf_286 n dp e 3 I L i1 i2 i3 i4 0) else (if ¬ (i3 = 0) then (if ¬ (i3 = 0) then (if (-2147483647 ≤ i2) ∧ (-2147483648 ≤ 70 + (Int.tmod i2 i3) ∧ 70 + (Int.tmod i2 i3) ≤ 2147483647) then (if 0 ≤ (70 + (Int.tmod i2 i3)) ∧ (70 + (Int.tmod i2 i3)) < 1570 then (if 0 ≤ i4 ∧ i4 < 16 then (if 1 ≤ dp then ((kf_287 n (dp - 1) e 0 I L (I 107 (70 + (Int.tmod i2 i3))) (I 137 i4)).bind (fun ⟨x0_77, I0_77, L0_77⟩ => (if x0_77 = 0 then (some ((1000000000 : Int), I0_77, L0_77)) else (if 0 ≤ (Int.tmod i2 i3) ∧ (Int.tmod i2 i3) < 4 then (if 0 ≤ i4 ∧ i4 < 16 then (if 0 ≤ (Int.tmod i2 i3) ∧ (Int.tmod i2 i3) < 4 then (if -2147483648 ≤ (I0_77 139 (Int.tmod i2 i3)) + (I0_77 136 i4) ∧ (I0_77 139 (Int.tmod i2 i3)) + (I0_77 136 i4) ≤ 2147483647 then (stI (w2 I0_77 139 (Int.tmod i2 i3) ((I0_77 139 (Int.tmod i2 i3)) + (I0_77 136 i4))) (fun I_103 => (kf_286 n dp e 3 I_103 L0_77 i1 (Int.tdiv i2 i3) i3 i4 0))) else none) else none) else none) else none)))) else none) else none) else none) else none) else none) else none)) else none))
    else if lab = 3 then (if -2147483648 ≤ i4 + (-1) ∧ i4 + (-1) ≤ 2147483647 then (kf_286 n dp e 2 I L i1 i2 i3 (i4 + (-1)) 0) else none)
    else if lab = 4 then (if 4 ≤ i5 then (some ((i4 : Int), I, L)) else (if 0 ≤ i5 ∧ i5 < 4 then (if (I 139 i5) ≤ i4 then (if -2147483648 ≤ i5 + 1 ∧ i5 + 1 ≤ 2147483647 then (kf_286 n dp e 4 I L i1 i2 i3 i4 (i5 + 1)) else none) else (if 0 ≤ i5 ∧ i5 < 4 then (stI (I 139 i5) (fun v_146 => (if -2147483648 ≤ i5 + 1 ∧ i5 + 1 ≤ 2147483647 then (kf_286 n dp e 4 I L i1 i2 i3 v_146 (i5 + 1)) else none))) else none)) else none))
    else none
set_option maxRecDepth 100000 in
theorem ke_286_0 (n : Nat) (dp : Nat) (e : EN) (I : JI) (L : JI) (i1 : Int) (i2 : Int) (i3 : Int) (i4 : Int) (i5 : Int) : kf_286 (n + 1) dp e 0 I L i1 i2 i3 i4 i5 = (kf_286 n dp e 1 I L i1 i1 (I 107 3) 0 0) := by rw [kf_286.eq_2, if_pos (show (0 : Nat) = 0 from rfl)]
set_option maxRecDepth 100000 in
theorem ke_286_1 (n : Nat) (dp : Nat) (e : EN) (I : JI) (L : JI) (i1 : Int) (i2 : Int) (i3 : Int) (i4 : Int) (i5 : Int) : kf_286 (n + 1) dp e 1 I L i1 i2 i3 i4 i5 = (if 4 ≤ i4 then (kf_286 n dp e 2 I L i1 i2 i3 15 0) else (if 0 ≤ i4 ∧ i4 < 4 then (stI (w2 I 139 i4 0) (fun I_25 => (if -2147483648 ≤ i4 + 1 ∧ i4 + 1 ≤ 2147483647 then (kf_286 n dp e 1 I_25 L i1 i2 i3 (i4 + 1) 0) else none))) else none)) := by rw [kf_286.eq_2, if_neg (show ¬ ((1 : Nat) = 0) by decide), if_pos (show (1 : Nat) = 1 from rfl)]
set_option maxRecDepth 100000 in
theorem ke_286_2 (n : Nat) (dp : Nat) (e : EN) (I : JI) (L : JI) (i1 : Int) (i2 : Int) (i3 : Int) (i4 : Int) (i5 : Int) : kf_286 (n + 1) dp e 2 I L i1 i2 i3 i4 i5 = (if i4 < 0 then (kf_286 n dp e 4 I L i1 i2 i3 0 0) else (if 0 ≤ i4 ∧ i4 < 16 then (if (I 138 i4) = 0 then (kf_286 n dp e 3 I L i1 i2 i3 i4 0) else (if ¬ (i3 = 0) then (if ¬ (i3 = 0) then (if (-2147483647 ≤ i2) ∧ (-2147483648 ≤ 70 + (Int.tmod i2 i3) ∧ 70 + (Int.tmod i2 i3) ≤ 2147483647) then (if 0 ≤ (70 + (Int.tmod i2 i3)) ∧ (70 + (Int.tmod i2 i3)) < 1570 then (if 0 ≤ i4 ∧ i4 < 16 then (if 1 ≤ dp then ((kf_287 n (dp - 1) e 0 I L (I 107 (70 + (Int.tmod i2 i3))) (I 137 i4)).bind (fun ⟨x0_77, I0_77, L0_77⟩ => (if x0_77 = 0 then (some ((1000000000 : Int), I0_77, L0_77)) else (if 0 ≤ (Int.tmod i2 i3) ∧ (Int.tmod i2 i3) < 4 then (if 0 ≤ i4 ∧ i4 < 16 then (if 0 ≤ (Int.tmod i2 i3) ∧ (Int.tmod i2 i3) < 4 then (if -2147483648 ≤ (I0_77 139 (Int.tmod i2 i3)) + (I0_77 136 i4) ∧ (I0_77 139 (Int.tmod i2 i3)) + (I0_77 136 i4) ≤ 2147483647 then (stI (w2 I0_77 139 (Int.tmod i2 i3) ((I0_77 139 (Int.tmod i2 i3)) + (I0_77 136 i4))) (fun I_103 => (kf_286 n dp e 3 I_103 L0_77 i1 (Int.tdiv i2 i3) i3 i4 0))) else none) else none) else none) else none)))) else none) else none) else none) else none) else none) else none)) else none)) := by rw [kf_286.eq_2, if_neg (show ¬ ((2 : Nat) = 0) by decide), if_neg (show ¬ ((2 : Nat) = 1) by decide), if_pos (show (2 : Nat) = 2 from rfl)]
set_option maxRecDepth 100000 in
theorem ke_286_3 (n : Nat) (dp : Nat) (e : EN) (I : JI) (L : JI) (i1 : Int) (i2 : Int) (i3 : Int) (i4 : Int) (i5 : Int) : kf_286 (n + 1) dp e 3 I L i1 i2 i3 i4 i5 = (if -2147483648 ≤ i4 + (-1) ∧ i4 + (-1) ≤ 2147483647 then (kf_286 n dp e 2 I L i1 i2 i3 (i4 + (-1)) 0) else none) := by rw [kf_286.eq_2, if_neg (show ¬ ((3 : Nat) = 0) by decide), if_neg (show ¬ ((3 : Nat) = 1) by decide), if_neg (show ¬ ((3 : Nat) = 2) by decide), if_pos (show (3 : Nat) = 3 from rfl)]
set_option maxRecDepth 100000 in
theorem ke_286_4 (n : Nat) (dp : Nat) (e : EN) (I : JI) (L : JI) (i1 : Int) (i2 : Int) (i3 : Int) (i4 : Int) (i5 : Int) : kf_286 (n + 1) dp e 4 I L i1 i2 i3 i4 i5 = (if 4 ≤ i5 then (some ((i4 : Int), I, L)) else (if 0 ≤ i5 ∧ i5 < 4 then (if (I 139 i5) ≤ i4 then (if -2147483648 ≤ i5 + 1 ∧ i5 + 1 ≤ 2147483647 then (kf_286 n dp e 4 I L i1 i2 i3 i4 (i5 + 1)) else none) else (if 0 ≤ i5 ∧ i5 < 4 then (stI (I 139 i5) (fun v_146 => (if -2147483648 ≤ i5 + 1 ∧ i5 + 1 ≤ 2147483647 then (kf_286 n dp e 4 I L i1 i2 i3 v_146 (i5 + 1)) else none))) else none)) else none)) := by rw [kf_286.eq_2, if_neg (show ¬ ((4 : Nat) = 0) by decide), if_neg (show ¬ ((4 : Nat) = 1) by decide), if_neg (show ¬ ((4 : Nat) = 2) by decide), if_neg (show ¬ ((4 : Nat) = 3) by decide), if_pos (show (4 : Nat) = 4 from rfl)]
set_option maxHeartbeats 8000000 in
set_option maxRecDepth 100000 in
theorem ks_286 : ∀ (n : Nat) (dp : Nat) (e : EN) (lab : Nat) (I : Nat → Nat → Int32) (I' : JI) (L : Nat → Nat → Int64) (L' : JI) (i1 : Int32) (i1' : Int) (i2 : Int32) (i2' : Int) (i3 : Int32) (i3' : Int) (i4 : Int32) (i4' : Int) (i5 : Int32) (i5' : Int), Rli I I' → Rll L L' → Ui i1 i1' → Ui i2 i2' → Ui i3 i3' → Ui i4 i4' → Ui i5 i5' → Sim R3 (g_286 n dp e lab I L i1 i2 i3 i4 i5) (kf_286 n dp e lab I' L' i1' i2' i3' i4' i5') := by
  intro n
  induction n with
  | zero => intros; rw [kf_286.eq_1]; exact Sn
  | succ n ih =>
    intro dp e lab I I' L L' i1 i1' i2 i2' i3 i3' i4 i4' i5 i5' u_I u_L u_i1 u_i2 u_i3 u_i4 u_i5
    rw [g_286.eq_2, kf_286.eq_2]
    refine Sc Iff.rfl (fun _ => ?_) (fun _ => ?_)
    · exact (ih dp e 1 _ _ _ _ _ _ _ _ _ _ _ _ _ _ u_I u_L u_i1 u_i1 (u_I 107 3) (rfl : Ui (0) (0)) (rfl : Ui 0 0))
    refine Sc Iff.rfl (fun _ => ?_) (fun _ => ?_)
    · refine Sc (le_up (rfl : Ui (4) (4)) u_i4) (fun c1 => ?_) (fun c1 => ?_)
      · exact (ih dp e 2 _ _ _ _ _ _ _ _ _ _ _ _ _ _ u_I u_L u_i1 u_i2 u_i3 (rfl : Ui (15) (15)) (rfl : Ui 0 0))
      · refine Sc (ix_up u_i4) (fun c2 => ?_) (fun _ => Sn)
        refine SsJ (ri_up u_I (kc_up u_i4 c2.1) (rfl : Ui (0) (0))) (fun I_25 I_25' u_I_25 => ?_)
        refine Sg (fun g3 => ?_)
        exact (ih dp e 1 _ _ _ _ _ _ _ _ _ _ _ _ _ _ u_I_25 u_L u_i1 u_i2 u_i3 (ui_add u_i4 (rfl : Ui (Int32.ofInt (1)) (1)) g3) (rfl : Ui 0 0))
    refine Sc Iff.rfl (fun _ => ?_) (fun _ => ?_)
    · refine Sc (lt_up u_i4 (rfl : Ui 0 0)) (fun c1 => ?_) (fun c1 => ?_)
      · exact (ih dp e 4 _ _ _ _ _ _ _ _ _ _ _ _ _ _ u_I u_L u_i1 u_i2 u_i3 (rfl : Ui (0) (0)) (rfl : Ui (0) (0)))
      · refine Sc (ix_up u_i4) (fun c2 => ?_) (fun _ => Sn)
        refine Sc (eq_up (ui_rd (a := 138) u_I u_i4 c2.1) (rfl : Ui 0 0)) (fun c3 => ?_) (fun c3 => ?_)
        · exact (ih dp e 3 _ _ _ _ _ _ _ _ _ _ _ _ _ _ u_I u_L u_i1 u_i2 u_i3 u_i4 (rfl : Ui 0 0))
        · refine Sc (not_congr (eq_up u_i3 (rfl : Ui 0 0))) (fun c4 => ?_) (fun _ => Sn)
          refine Sc (not_congr (eq_up u_i3 (rfl : Ui 0 0))) (fun c5 => ?_) (fun _ => Sn)
          refine Sg (fun g6 => ?_)
          refine Sc (ix_up (ui_add (rfl : Ui (70) (70)) (ui_rem u_i2 u_i3 g6.1) g6.2)) (fun c7 => ?_) (fun _ => Sn)
          refine Sc (ix_up u_i4) (fun c8 => ?_) (fun _ => Sn)
          refine Sc Iff.rfl (fun c9 => ?_) (fun _ => Sn)
          refine Sb3 (ks_287 n (dp - 1) e 0 _ _ _ _ _ _ _ _ u_I u_L (ui_rd (a := 107) u_I (ui_add (rfl : Ui (70) (70)) (ui_rem u_i2 u_i3 g6.1) g6.2) c7.1) (ui_rd (a := 137) u_I u_i4 c8.1)) (fun x0_77 x0_77' I0_77 I0_77' L0_77 L0_77' u_x0_77 u_I0_77 u_L0_77 => ?_)
          refine Sc (eq_up u_x0_77 (rfl : Ui 0 0)) (fun c10 => ?_) (fun c10 => ?_)
          · exact Sr ⟨(rfl : Ui (1000000000) (1000000000)), u_I0_77, u_L0_77⟩
          · refine Sc (ix_up (ui_rem u_i2 u_i3 g6.1)) (fun c11 => ?_) (fun _ => Sn)
            refine Sc (ix_up u_i4) (fun c12 => ?_) (fun _ => Sn)
            refine Sc (ix_up (ui_rem u_i2 u_i3 g6.1)) (fun c13 => ?_) (fun _ => Sn)
            refine Sg (fun g14 => ?_)
            refine SsJ (ri_up u_I0_77 (kc_up (ui_rem u_i2 u_i3 g6.1) c13.1) (ui_add (ui_rd (a := 139) u_I0_77 (ui_rem u_i2 u_i3 g6.1) c13.1) (ui_rd (a := 136) u_I0_77 u_i4 c12.1) g14)) (fun I_103 I_103' u_I_103 => ?_)
            exact (ih dp e 3 _ _ _ _ _ _ _ _ _ _ _ _ _ _ u_I_103 u_L0_77 u_i1 (ui_div u_i2 u_i3 g6.1) u_i3 u_i4 (rfl : Ui 0 0))
    refine Sc Iff.rfl (fun _ => ?_) (fun _ => ?_)
    · refine Sg (fun g1 => ?_)
      exact (ih dp e 2 _ _ _ _ _ _ _ _ _ _ _ _ _ _ u_I u_L u_i1 u_i2 u_i3 (ui_add u_i4 (rfl : Ui (Int32.ofInt (-1)) (-1)) g1) (rfl : Ui 0 0))
    refine Sc Iff.rfl (fun _ => ?_) (fun _ => ?_)
    · refine Sc (le_up (rfl : Ui (4) (4)) u_i5) (fun c1 => ?_) (fun c1 => ?_)
      · exact Sr ⟨u_i4, u_I, u_L⟩
      · refine Sc (ix_up u_i5) (fun c2 => ?_) (fun _ => Sn)
        refine Sc (le_up (ui_rd (a := 139) u_I u_i5 c2.1) u_i4) (fun c3 => ?_) (fun c3 => ?_)
        · refine Sg (fun g4 => ?_)
          exact (ih dp e 4 _ _ _ _ _ _ _ _ _ _ _ _ _ _ u_I u_L u_i1 u_i2 u_i3 u_i4 (ui_add u_i5 (rfl : Ui (Int32.ofInt (1)) (1)) g4))
        · refine Sc (ix_up u_i5) (fun c5 => ?_) (fun _ => Sn)
          refine SsI (ui_rd (a := 139) u_I u_i5 c5.1) (fun v_146 v_146' u_v_146 => ?_)
          refine Sg (fun g6 => ?_)
          exact (ih dp e 4 _ _ _ _ _ _ _ _ _ _ _ _ _ _ u_I u_L u_i1 u_i2 u_i3 u_v_146 (ui_add u_i5 (rfl : Ui (Int32.ofInt (1)) (1)) g6))
    exact Sn
set_option maxHeartbeats 4000000 in
set_option maxRecDepth 100000 in
def kf_285 : Nat → Nat → EN → Nat → JI → JI → Int → Int → Int → Int → Int → Int → Option (Int × JI × JI)
  | 0, _, _, _, _, _, _, _, _, _, _, _ => none
  | n + 1, dp, e, lab, I, L, i1, i2, i3, i4, i5, i6 =>
    if lab = 0 then (stI (w2 I 105 0 0) (fun I_2 => (if i1 = (-1) then (kf_285 n dp e 1 I_2 L i1 0 0 0 0 0) else (if 1 ≤ dp then ((kf_239 n (dp - 1) e 0 I_2 L i1).bind (fun ⟨x0_12, I0_12, L0_12⟩ => (if x0_12 = 0 then (some (((-1) : Int), I0_12, L0_12)) else (kf_285 n dp e 1 I0_12 L0_12 i1 0 0 0 0 0)))) else none))))
    else if lab = 1 then (if 1 ≤ dp then ((kf_261 n (dp - 1) e 0 I L 0 0 0 0).bind (fun ⟨x0_19, I0_19, L0_19⟩ => (if x0_19 = 0 then (some (((-1) : Int), I0_19, L0_19)) else (if 1 ≤ dp then ((kf_283 n (dp - 1) e 0 I0_19 L0_19 0 0 0).bind (fun ⟨I1_28, L1_28⟩ => (if 10 < (I1_28 105 60) then (some (((-1) : Int), I1_28, L1_28)) else (if i1 = (-1) then (kf_285 n dp e 2 I1_28 L1_28 i1 0 0 0 0 0) else (if i1 = (-1) then (if (I1_28 138 0) = 0 then (some (((-1) : Int), I1_28, L1_28)) else (kf_285 n dp e 2 I1_28 L1_28 i1 0 0 0 0 0)) else (if 0 ≤ i1 ∧ i1 < 16 then (if (I1_28 138 i1) = 0 then (some (((-1) : Int), I1_28, L1_28)) else (kf_285 n dp e 2 I1_28 L1_28 i1 0 0 0 0 0)) else none)))))) else none)))) else none)
    else if lab = 2 then (if (I 105 60) ≤ 0 then (kf_285 n dp e 3 I L i1 0 0 0 0 0) else (if (I 107 3) = 0 then (some (((-1) : Int), I, L)) else (kf_285 n dp e 3 I L i1 0 0 0 0 0)))
    else if lab = 3 then (kf_285 n dp e 4 I L i1 1 0 0 0 0)
    else if lab = 4 then (if (I 105 60) ≤ i3 then (kf_285 n dp e 5 I L i1 i2 1000000000 0 0 0) else (if (-2147483648 ≤ i2 * (I 107 3) ∧ i2 * (I 107 3) ≤ 2147483647) ∧ (-2147483648 ≤ i3 + 1 ∧ i3 + 1 ≤ 2147483647) then (kf_285 n dp e 4 I L i1 (i2 * (I 107 3)) (i3 + 1) 0 0 0) else none))
    else if lab = 5 then (if i2 ≤ i5 then (if i3 = 1000000000 then (some (((-1) : Int), I, L)) else (kf_285 n dp e 6 I L i1 i2 i3 i4 i4 15)) else (if 1 ≤ dp then ((kf_286 n (dp - 1) e 0 I L i5 0 0 0 0).bind (fun ⟨x0_127, I0_127, L0_127⟩ => (if i3 ≤ x0_127 then (if i3 ≤ x0_127 then (if -2147483648 ≤ i5 + 1 ∧ i5 + 1 ≤ 2147483647 then (kf_285 n dp e 5 I0_127 L0_127 i1 i2 i3 i4 (i5 + 1) 0) else none) else (if -2147483648 ≤ i5 + 1 ∧ i5 + 1 ≤ 2147483647 then (kf_285 n dp e 5 I0_127 L0_127 i1 i2 x0_127 i4 (i5 + 1) 0) else none)) else (if i3 ≤ x0_127 then (if -2147483648 ≤ i5 + 1 ∧ i5 + 1 ≤ 2147483647 then (kf_285 n dp e 5 I0_127 L0_127 i1 i2 i3 i5 (i5 + 1) 0) else none) else (if -2147483648 ≤ i5 + 1 ∧ i5 + 1 ≤ 2147483647 then (kf_285 n dp e 5 I0_127 L0_127 i1 i2 x0_127 i5 (i5 + 1) 0) else none))))) else none))
    else if lab = 6 then (if i6 < 0 then (if i1 = (-1) then (some ((i3 : Int), I, L)) else (if 0 ≤ i1 ∧ i1 < 16 then (some (((I 140 i1) : Int), I, L)) else none)) else (if 0 ≤ i6 ∧ i6 < 16 then (if (I 138 i6) = 0 then (kf_285 n dp e 7 I L i1 i2 i3 i4 i5 i6) else (if ¬ ((I 107 3) = 0) then (if 0 ≤ i6 ∧ i6 < 16 then (if -2147483647 ≤ i5 then (stI (w2 I 140 i6 (Int.tmod i5 (I 107 3))) (fun I_213 => (if ¬ ((I_213 107 3) = 0) then (kf_285 n dp e 7 I_213 L i1 i2 i3 i4 (Int.tdiv i5 (I_213 107 3)) i6) else none))) else none) else none) else none)) else none))
    else if lab = 7 then (if -2147483648 ≤ i6 + (-1) ∧ i6 + (-1) ≤ 2147483647 then (kf_285 n dp e 6 I L i1 i2 i3 i4 i5 (i6 + (-1))) else none)
    else none
set_option maxRecDepth 100000 in
theorem ke_285_0 (n : Nat) (dp : Nat) (e : EN) (I : JI) (L : JI) (i1 : Int) (i2 : Int) (i3 : Int) (i4 : Int) (i5 : Int) (i6 : Int) : kf_285 (n + 1) dp e 0 I L i1 i2 i3 i4 i5 i6 = (stI (w2 I 105 0 0) (fun I_2 => (if i1 = (-1) then (kf_285 n dp e 1 I_2 L i1 0 0 0 0 0) else (if 1 ≤ dp then ((kf_239 n (dp - 1) e 0 I_2 L i1).bind (fun ⟨x0_12, I0_12, L0_12⟩ => (if x0_12 = 0 then (some (((-1) : Int), I0_12, L0_12)) else (kf_285 n dp e 1 I0_12 L0_12 i1 0 0 0 0 0)))) else none)))) := by rw [kf_285.eq_2, if_pos (show (0 : Nat) = 0 from rfl)]
set_option maxRecDepth 100000 in
theorem ke_285_1 (n : Nat) (dp : Nat) (e : EN) (I : JI) (L : JI) (i1 : Int) (i2 : Int) (i3 : Int) (i4 : Int) (i5 : Int) (i6 : Int) : kf_285 (n + 1) dp e 1 I L i1 i2 i3 i4 i5 i6 = (if 1 ≤ dp then ((kf_261 n (dp - 1) e 0 I L 0 0 0 0).bind (fun ⟨x0_19, I0_19, L0_19⟩ => (if x0_19 = 0 then (some (((-1) : Int), I0_19, L0_19)) else (if 1 ≤ dp then ((kf_283 n (dp - 1) e 0 I0_19 L0_19 0 0 0).bind (fun ⟨I1_28, L1_28⟩ => (if 10 < (I1_28 105 60) then (some (((-1) : Int), I1_28, L1_28)) else (if i1 = (-1) then (kf_285 n dp e 2 I1_28 L1_28 i1 0 0 0 0 0) else (if i1 = (-1) then (if (I1_28 138 0) = 0 then (some (((-1) : Int), I1_28, L1_28)) else (kf_285 n dp e 2 I1_28 L1_28 i1 0 0 0 0 0)) else (if 0 ≤ i1 ∧ i1 < 16 then (if (I1_28 138 i1) = 0 then (some (((-1) : Int), I1_28, L1_28)) else (kf_285 n dp e 2 I1_28 L1_28 i1 0 0 0 0 0)) else none)))))) else none)))) else none) := by rw [kf_285.eq_2, if_neg (show ¬ ((1 : Nat) = 0) by decide), if_pos (show (1 : Nat) = 1 from rfl)]
set_option maxRecDepth 100000 in
theorem ke_285_2 (n : Nat) (dp : Nat) (e : EN) (I : JI) (L : JI) (i1 : Int) (i2 : Int) (i3 : Int) (i4 : Int) (i5 : Int) (i6 : Int) : kf_285 (n + 1) dp e 2 I L i1 i2 i3 i4 i5 i6 = (if (I 105 60) ≤ 0 then (kf_285 n dp e 3 I L i1 0 0 0 0 0) else (if (I 107 3) = 0 then (some (((-1) : Int), I, L)) else (kf_285 n dp e 3 I L i1 0 0 0 0 0))) := by rw [kf_285.eq_2, if_neg (show ¬ ((2 : Nat) = 0) by decide), if_neg (show ¬ ((2 : Nat) = 1) by decide), if_pos (show (2 : Nat) = 2 from rfl)]
set_option maxRecDepth 100000 in
theorem ke_285_3 (n : Nat) (dp : Nat) (e : EN) (I : JI) (L : JI) (i1 : Int) (i2 : Int) (i3 : Int) (i4 : Int) (i5 : Int) (i6 : Int) : kf_285 (n + 1) dp e 3 I L i1 i2 i3 i4 i5 i6 = (kf_285 n dp e 4 I L i1 1 0 0 0 0) := by rw [kf_285.eq_2, if_neg (show ¬ ((3 : Nat) = 0) by decide), if_neg (show ¬ ((3 : Nat) = 1) by decide), if_neg (show ¬ ((3 : Nat) = 2) by decide), if_pos (show (3 : Nat) = 3 from rfl)]
set_option maxRecDepth 100000 in
theorem ke_285_4 (n : Nat) (dp : Nat) (e : EN) (I : JI) (L : JI) (i1 : Int) (i2 : Int) (i3 : Int) (i4 : Int) (i5 : Int) (i6 : Int) : kf_285 (n + 1) dp e 4 I L i1 i2 i3 i4 i5 i6 = (if (I 105 60) ≤ i3 then (kf_285 n dp e 5 I L i1 i2 1000000000 0 0 0) else (if (-2147483648 ≤ i2 * (I 107 3) ∧ i2 * (I 107 3) ≤ 2147483647) ∧ (-2147483648 ≤ i3 + 1 ∧ i3 + 1 ≤ 2147483647) then (kf_285 n dp e 4 I L i1 (i2 * (I 107 3)) (i3 + 1) 0 0 0) else none)) := by rw [kf_285.eq_2, if_neg (show ¬ ((4 : Nat) = 0) by decide), if_neg (show ¬ ((4 : Nat) = 1) by decide), if_neg (show ¬ ((4 : Nat) = 2) by decide), if_neg (show ¬ ((4 : Nat) = 3) by decide), if_pos (show (4 : Nat) = 4 from rfl)]
set_option maxRecDepth 100000 in
theorem ke_285_5 (n : Nat) (dp : Nat) (e : EN) (I : JI) (L : JI) (i1 : Int) (i2 : Int) (i3 : Int) (i4 : Int) (i5 : Int) (i6 : Int) : kf_285 (n + 1) dp e 5 I L i1 i2 i3 i4 i5 i6 = (if i2 ≤ i5 then (if i3 = 1000000000 then (some (((-1) : Int), I, L)) else (kf_285 n dp e 6 I L i1 i2 i3 i4 i4 15)) else (if 1 ≤ dp then ((kf_286 n (dp - 1) e 0 I L i5 0 0 0 0).bind (fun ⟨x0_127, I0_127, L0_127⟩ => (if i3 ≤ x0_127 then (if i3 ≤ x0_127 then (if -2147483648 ≤ i5 + 1 ∧ i5 + 1 ≤ 2147483647 then (kf_285 n dp e 5 I0_127 L0_127 i1 i2 i3 i4 (i5 + 1) 0) else none) else (if -2147483648 ≤ i5 + 1 ∧ i5 + 1 ≤ 2147483647 then (kf_285 n dp e 5 I0_127 L0_127 i1 i2 x0_127 i4 (i5 + 1) 0) else none)) else (if i3 ≤ x0_127 then (if -2147483648 ≤ i5 + 1 ∧ i5 + 1 ≤ 2147483647 then (kf_285 n dp e 5 I0_127 L0_127 i1 i2 i3 i5 (i5 + 1) 0) else none) else (if -2147483648 ≤ i5 + 1 ∧ i5 + 1 ≤ 2147483647 then (kf_285 n dp e 5 I0_127 L0_127 i1 i2 x0_127 i5 (i5 + 1) 0) else none))))) else none)) := by rw [kf_285.eq_2, if_neg (show ¬ ((5 : Nat) = 0) by decide), if_neg (show ¬ ((5 : Nat) = 1) by decide), if_neg (show ¬ ((5 : Nat) = 2) by decide), if_neg (show ¬ ((5 : Nat) = 3) by decide), if_neg (show ¬ ((5 : Nat) = 4) by decide), if_pos (show (5 : Nat) = 5 from rfl)]
set_option maxRecDepth 100000 in
theorem ke_285_6 (n : Nat) (dp : Nat) (e : EN) (I : JI) (L : JI) (i1 : Int) (i2 : Int) (i3 : Int) (i4 : Int) (i5 : Int) (i6 : Int) : kf_285 (n + 1) dp e 6 I L i1 i2 i3 i4 i5 i6 = (if i6 < 0 then (if i1 = (-1) then (some ((i3 : Int), I, L)) else (if 0 ≤ i1 ∧ i1 < 16 then (some (((I 140 i1) : Int), I, L)) else none)) else (if 0 ≤ i6 ∧ i6 < 16 then (if (I 138 i6) = 0 then (kf_285 n dp e 7 I L i1 i2 i3 i4 i5 i6) else (if ¬ ((I 107 3) = 0) then (if 0 ≤ i6 ∧ i6 < 16 then (if -2147483647 ≤ i5 then (stI (w2 I 140 i6 (Int.tmod i5 (I 107 3))) (fun I_213 => (if ¬ ((I_213 107 3) = 0) then (kf_285 n dp e 7 I_213 L i1 i2 i3 i4 (Int.tdiv i5 (I_213 107 3)) i6) else none))) else none) else none) else none)) else none)) := by rw [kf_285.eq_2, if_neg (show ¬ ((6 : Nat) = 0) by decide), if_neg (show ¬ ((6 : Nat) = 1) by decide), if_neg (show ¬ ((6 : Nat) = 2) by decide), if_neg (show ¬ ((6 : Nat) = 3) by decide), if_neg (show ¬ ((6 : Nat) = 4) by decide), if_neg (show ¬ ((6 : Nat) = 5) by decide), if_pos (show (6 : Nat) = 6 from rfl)]
set_option maxRecDepth 100000 in
theorem ke_285_7 (n : Nat) (dp : Nat) (e : EN) (I : JI) (L : JI) (i1 : Int) (i2 : Int) (i3 : Int) (i4 : Int) (i5 : Int) (i6 : Int) : kf_285 (n + 1) dp e 7 I L i1 i2 i3 i4 i5 i6 = (if -2147483648 ≤ i6 + (-1) ∧ i6 + (-1) ≤ 2147483647 then (kf_285 n dp e 6 I L i1 i2 i3 i4 i5 (i6 + (-1))) else none) := by rw [kf_285.eq_2, if_neg (show ¬ ((7 : Nat) = 0) by decide), if_neg (show ¬ ((7 : Nat) = 1) by decide), if_neg (show ¬ ((7 : Nat) = 2) by decide), if_neg (show ¬ ((7 : Nat) = 3) by decide), if_neg (show ¬ ((7 : Nat) = 4) by decide), if_neg (show ¬ ((7 : Nat) = 5) by decide), if_neg (show ¬ ((7 : Nat) = 6) by decide), if_pos (show (7 : Nat) = 7 from rfl)]
set_option maxHeartbeats 8000000 in
set_option maxRecDepth 100000 in
theorem ks_285 : ∀ (n : Nat) (dp : Nat) (e : EN) (lab : Nat) (I : Nat → Nat → Int32) (I' : JI) (L : Nat → Nat → Int64) (L' : JI) (i1 : Int32) (i1' : Int) (i2 : Int32) (i2' : Int) (i3 : Int32) (i3' : Int) (i4 : Int32) (i4' : Int) (i5 : Int32) (i5' : Int) (i6 : Int32) (i6' : Int), Rli I I' → Rll L L' → Ui i1 i1' → Ui i2 i2' → Ui i3 i3' → Ui i4 i4' → Ui i5 i5' → Ui i6 i6' → Sim R3 (g_285 n dp e lab I L i1 i2 i3 i4 i5 i6) (kf_285 n dp e lab I' L' i1' i2' i3' i4' i5' i6') := by
  intro n
  induction n with
  | zero => intros; rw [kf_285.eq_1]; exact Sn
  | succ n ih =>
    intro dp e lab I I' L L' i1 i1' i2 i2' i3 i3' i4 i4' i5 i5' i6 i6' u_I u_L u_i1 u_i2 u_i3 u_i4 u_i5 u_i6
    rw [g_285.eq_2, kf_285.eq_2]
    refine Sc Iff.rfl (fun _ => ?_) (fun _ => ?_)
    · refine SsJ (ri_up u_I (rfl : ((0 : Nat) : Int) = 0) (rfl : Ui (0) (0))) (fun I_2 I_2' u_I_2 => ?_)
      refine Sc (eq_up u_i1 (rfl : Ui (-1) (-1))) (fun c1 => ?_) (fun c1 => ?_)
      · exact (ih dp e 1 _ _ _ _ _ _ _ _ _ _ _ _ _ _ _ _ u_I_2 u_L u_i1 (rfl : Ui 0 0) (rfl : Ui 0 0) (rfl : Ui 0 0) (rfl : Ui 0 0) (rfl : Ui 0 0))
      · refine Sc Iff.rfl (fun c2 => ?_) (fun _ => Sn)
        refine Sb3 (ks_239 n (dp - 1) e 0 _ _ _ _ _ _ u_I_2 u_L u_i1) (fun x0_12 x0_12' I0_12 I0_12' L0_12 L0_12' u_x0_12 u_I0_12 u_L0_12 => ?_)
        refine Sc (eq_up u_x0_12 (rfl : Ui 0 0)) (fun c3 => ?_) (fun c3 => ?_)
        · exact Sr ⟨(rfl : Ui (-1) (-1)), u_I0_12, u_L0_12⟩
        · exact (ih dp e 1 _ _ _ _ _ _ _ _ _ _ _ _ _ _ _ _ u_I0_12 u_L0_12 u_i1 (rfl : Ui 0 0) (rfl : Ui 0 0) (rfl : Ui 0 0) (rfl : Ui 0 0) (rfl : Ui 0 0))
    refine Sc Iff.rfl (fun _ => ?_) (fun _ => ?_)
    · refine Sc Iff.rfl (fun c1 => ?_) (fun _ => Sn)
      refine Sb3 (ks_261 n (dp - 1) e 0 _ _ _ _ _ _ _ _ _ _ _ _ u_I u_L (rfl : Ui 0 0) (rfl : Ui 0 0) (rfl : Ui 0 0) (rfl : Ui 0 0)) (fun x0_19 x0_19' I0_19 I0_19' L0_19 L0_19' u_x0_19 u_I0_19 u_L0_19 => ?_)
      refine Sc (eq_up u_x0_19 (rfl : Ui 0 0)) (fun c2 => ?_) (fun c2 => ?_)
      · exact Sr ⟨(rfl : Ui (-1) (-1)), u_I0_19, u_L0_19⟩
      · refine Sc Iff.rfl (fun c3 => ?_) (fun _ => Sn)
        refine Sb2 (ks_283 n (dp - 1) e 0 _ _ _ _ _ _ _ _ _ _ u_I0_19 u_L0_19 (rfl : Ui 0 0) (rfl : Ui 0 0) (rfl : Ui 0 0)) (fun I1_28 I1_28' L1_28 L1_28' u_I1_28 u_L1_28 => ?_)
        refine Sc (lt_up (rfl : Ui (10) (10)) (u_I1_28 105 60)) (fun c4 => ?_) (fun c4 => ?_)
        · exact Sr ⟨(rfl : Ui (-1) (-1)), u_I1_28, u_L1_28⟩
        · refine Sc (eq_up u_i1 (rfl : Ui (-1) (-1))) (fun c5 => ?_) (fun c5 => ?_)
          · exact (ih dp e 2 _ _ _ _ _ _ _ _ _ _ _ _ _ _ _ _ u_I1_28 u_L1_28 u_i1 (rfl : Ui 0 0) (rfl : Ui 0 0) (rfl : Ui 0 0) (rfl : Ui 0 0) (rfl : Ui 0 0))
          · refine Sc (eq_up u_i1 (rfl : Ui (-1) (-1))) (fun c6 => ?_) (fun c6 => ?_)
            · refine Sc (eq_up (u_I1_28 138 0) (rfl : Ui 0 0)) (fun c7 => ?_) (fun c7 => ?_)
              · exact Sr ⟨(rfl : Ui (-1) (-1)), u_I1_28, u_L1_28⟩
              · exact (ih dp e 2 _ _ _ _ _ _ _ _ _ _ _ _ _ _ _ _ u_I1_28 u_L1_28 u_i1 (rfl : Ui 0 0) (rfl : Ui 0 0) (rfl : Ui 0 0) (rfl : Ui 0 0) (rfl : Ui 0 0))
            · refine Sc (ix_up u_i1) (fun c8 => ?_) (fun _ => Sn)
              refine Sc (eq_up (ui_rd (a := 138) u_I1_28 u_i1 c8.1) (rfl : Ui 0 0)) (fun c9 => ?_) (fun c9 => ?_)
              · exact Sr ⟨(rfl : Ui (-1) (-1)), u_I1_28, u_L1_28⟩
              · exact (ih dp e 2 _ _ _ _ _ _ _ _ _ _ _ _ _ _ _ _ u_I1_28 u_L1_28 u_i1 (rfl : Ui 0 0) (rfl : Ui 0 0) (rfl : Ui 0 0) (rfl : Ui 0 0) (rfl : Ui 0 0))
    refine Sc Iff.rfl (fun _ => ?_) (fun _ => ?_)
    · refine Sc (le_up (u_I 105 60) (rfl : Ui 0 0)) (fun c1 => ?_) (fun c1 => ?_)
      · exact (ih dp e 3 _ _ _ _ _ _ _ _ _ _ _ _ _ _ _ _ u_I u_L u_i1 (rfl : Ui 0 0) (rfl : Ui 0 0) (rfl : Ui 0 0) (rfl : Ui 0 0) (rfl : Ui 0 0))
      · refine Sc (eq_up (u_I 107 3) (rfl : Ui 0 0)) (fun c2 => ?_) (fun c2 => ?_)
        · exact Sr ⟨(rfl : Ui (-1) (-1)), u_I, u_L⟩
        · exact (ih dp e 3 _ _ _ _ _ _ _ _ _ _ _ _ _ _ _ _ u_I u_L u_i1 (rfl : Ui 0 0) (rfl : Ui 0 0) (rfl : Ui 0 0) (rfl : Ui 0 0) (rfl : Ui 0 0))
    refine Sc Iff.rfl (fun _ => ?_) (fun _ => ?_)
    · exact (ih dp e 4 _ _ _ _ _ _ _ _ _ _ _ _ _ _ _ _ u_I u_L u_i1 (rfl : Ui (1) (1)) (rfl : Ui (0) (0)) (rfl : Ui 0 0) (rfl : Ui 0 0) (rfl : Ui 0 0))
    refine Sc Iff.rfl (fun _ => ?_) (fun _ => ?_)
    · refine Sc (le_up (u_I 105 60) u_i3) (fun c1 => ?_) (fun c1 => ?_)
      · exact (ih dp e 5 _ _ _ _ _ _ _ _ _ _ _ _ _ _ _ _ u_I u_L u_i1 u_i2 (rfl : Ui (1000000000) (1000000000)) (rfl : Ui (0) (0)) (rfl : Ui (0) (0)) (rfl : Ui 0 0))
      · refine Sg (fun g2 => ?_)
        exact (ih dp e 4 _ _ _ _ _ _ _ _ _ _ _ _ _ _ _ _ u_I u_L u_i1 (ui_mul u_i2 (u_I 107 3) g2.1) (ui_add u_i3 (rfl : Ui (Int32.ofInt (1)) (1)) g2.2) (rfl : Ui 0 0) (rfl : Ui 0 0) (rfl : Ui 0 0))
    refine Sc Iff.rfl (fun _ => ?_) (fun _ => ?_)
    · refine Sc (le_up u_i2 u_i5) (fun c1 => ?_) (fun c1 => ?_)
      · refine Sc (eq_up u_i3 (rfl : Ui (1000000000) (1000000000))) (fun c2 => ?_) (fun c2 => ?_)
        · exact Sr ⟨(rfl : Ui (-1) (-1)), u_I, u_L⟩
        · exact (ih dp e 6 _ _ _ _ _ _ _ _ _ _ _ _ _ _ _ _ u_I u_L u_i1 u_i2 u_i3 u_i4 u_i4 (rfl : Ui (15) (15)))
      · refine Sc Iff.rfl (fun c3 => ?_) (fun _ => Sn)
        refine Sb3 (ks_286 n (dp - 1) e 0 _ _ _ _ _ _ _ _ _ _ _ _ _ _ u_I u_L u_i5 (rfl : Ui 0 0) (rfl : Ui 0 0) (rfl : Ui 0 0) (rfl : Ui 0 0)) (fun x0_127 x0_127' I0_127 I0_127' L0_127 L0_127' u_x0_127 u_I0_127 u_L0_127 => ?_)
        refine Sc (le_up u_i3 u_x0_127) (fun c4 => ?_) (fun c4 => ?_)
        · refine Sc (le_up u_i3 u_x0_127) (fun c5 => ?_) (fun c5 => ?_)
          · refine Sg (fun g6 => ?_)
            exact (ih dp e 5 _ _ _ _ _ _ _ _ _ _ _ _ _ _ _ _ u_I0_127 u_L0_127 u_i1 u_i2 u_i3 u_i4 (ui_add u_i5 (rfl : Ui (Int32.ofInt (1)) (1)) g6) (rfl : Ui 0 0))
          · refine Sg (fun g7 => ?_)
            exact (ih dp e 5 _ _ _ _ _ _ _ _ _ _ _ _ _ _ _ _ u_I0_127 u_L0_127 u_i1 u_i2 u_x0_127 u_i4 (ui_add u_i5 (rfl : Ui (Int32.ofInt (1)) (1)) g7) (rfl : Ui 0 0))
        · refine Sc (le_up u_i3 u_x0_127) (fun c8 => ?_) (fun c8 => ?_)
          · refine Sg (fun g9 => ?_)
            exact (ih dp e 5 _ _ _ _ _ _ _ _ _ _ _ _ _ _ _ _ u_I0_127 u_L0_127 u_i1 u_i2 u_i3 u_i5 (ui_add u_i5 (rfl : Ui (Int32.ofInt (1)) (1)) g9) (rfl : Ui 0 0))
          · refine Sg (fun g10 => ?_)
            exact (ih dp e 5 _ _ _ _ _ _ _ _ _ _ _ _ _ _ _ _ u_I0_127 u_L0_127 u_i1 u_i2 u_x0_127 u_i5 (ui_add u_i5 (rfl : Ui (Int32.ofInt (1)) (1)) g10) (rfl : Ui 0 0))
    refine Sc Iff.rfl (fun _ => ?_) (fun _ => ?_)
    · refine Sc (lt_up u_i6 (rfl : Ui 0 0)) (fun c1 => ?_) (fun c1 => ?_)
      · refine Sc (eq_up u_i1 (rfl : Ui (-1) (-1))) (fun c2 => ?_) (fun c2 => ?_)
        · exact Sr ⟨u_i3, u_I, u_L⟩
        · refine Sc (ix_up u_i1) (fun c3 => ?_) (fun _ => Sn)
          exact Sr ⟨(ui_rd (a := 140) u_I u_i1 c3.1), u_I, u_L⟩
      · refine Sc (ix_up u_i6) (fun c4 => ?_) (fun _ => Sn)
        refine Sc (eq_up (ui_rd (a := 138) u_I u_i6 c4.1) (rfl : Ui 0 0)) (fun c5 => ?_) (fun c5 => ?_)
        · exact (ih dp e 7 _ _ _ _ _ _ _ _ _ _ _ _ _ _ _ _ u_I u_L u_i1 u_i2 u_i3 u_i4 u_i5 u_i6)
        · refine Sc (not_congr (eq_up (u_I 107 3) (rfl : Ui 0 0))) (fun c6 => ?_) (fun _ => Sn)
          refine Sc (ix_up u_i6) (fun c7 => ?_) (fun _ => Sn)
          refine Sg (fun g8 => ?_)
          refine SsJ (ri_up u_I (kc_up u_i6 c7.1) (ui_rem u_i5 (u_I 107 3) g8)) (fun I_213 I_213' u_I_213 => ?_)
          refine Sc (not_congr (eq_up (u_I_213 107 3) (rfl : Ui 0 0))) (fun c9 => ?_) (fun _ => Sn)
          exact (ih dp e 7 _ _ _ _ _ _ _ _ _ _ _ _ _ _ _ _ u_I_213 u_L u_i1 u_i2 u_i3 u_i4 (ui_div u_i5 (u_I_213 107 3) g8) u_i6)
    refine Sc Iff.rfl (fun _ => ?_) (fun _ => ?_)
    · refine Sg (fun g1 => ?_)
      exact (ih dp e 6 _ _ _ _ _ _ _ _ _ _ _ _ _ _ _ _ u_I u_L u_i1 u_i2 u_i3 u_i4 u_i5 (ui_add u_i6 (rfl : Ui (Int32.ofInt (-1)) (-1)) g1))
    exact Sn
set_option maxHeartbeats 4000000 in
set_option maxRecDepth 100000 in
def kf_289 : Nat → Nat → EN → Nat → JI → JI → Int → Int → Int → Int → Int → Int → Option (Int × JI × JI)
  | 0, _, _, _, _, _, _, _, _, _, _, _ => none
  | n + 1, dp, e, lab, I, L, i0, i1, i2, i3, i4, i5 =>
    if lab = 0 then (if 1 ≤ dp then ((kf_193 n (dp - 1) e 0 I L i0 1 99).bind (fun ⟨x0_6, I0_6, L0_6⟩ => (if x0_6 = 0 then (some ((0 : Int), I0_6, L0_6)) else (if 1 ≤ dp then ((kf_193 n (dp - 1) e 0 I0_6 L0_6 i1 0 100).bind (fun ⟨x1_18, I1_18, L1_18⟩ => (if x1_18 = 0 then (some ((0 : Int), I1_18, L1_18)) else (if 1 ≤ dp then ((kf_193 n (dp - 1) e 0 I1_18 L1_18 i2 0 99).bind (fun ⟨x2_30, I2_30, L2_30⟩ => (if x2_30 = 0 then (some ((0 : Int), I2_30, L2_30)) else (if 1 ≤ dp then ((kf_193 n (dp - 1) e 0 I2_30 L2_30 i3 0 3).bind (fun ⟨x3_42, I3_42, L3_42⟩ => (if x3_42 = 0 then (some ((0 : Int), I3_42, L3_42)) else (if 1 ≤ dp then ((kf_193 n (dp - 1) e 0 I3_42 L3_42 i4 0 23).bind (fun ⟨x4_55, I4_55, L4_55⟩ => (if x4_55 = 0 then (some ((0 : Int), I4_55, L4_55)) else (if 1 ≤ dp then ((kf_193 n (dp - 1) e 0 I4_55 L4_55 i5 0 255).bind (fun ⟨x5_68, I5_68, L5_68⟩ => (if x5_68 = 0 then (some ((0 : Int), I5_68, L5_68)) else (some ((1 : Int), I5_68, L5_68))))) else none)))) else none)))) else none)))) else none)))) else none)))) else none)
    else none
set_option maxRecDepth 100000 in
theorem ke_289_0 (n : Nat) (dp : Nat) (e : EN) (I : JI) (L : JI) (i0 : Int) (i1 : Int) (i2 : Int) (i3 : Int) (i4 : Int) (i5 : Int) : kf_289 (n + 1) dp e 0 I L i0 i1 i2 i3 i4 i5 = (if 1 ≤ dp then ((kf_193 n (dp - 1) e 0 I L i0 1 99).bind (fun ⟨x0_6, I0_6, L0_6⟩ => (if x0_6 = 0 then (some ((0 : Int), I0_6, L0_6)) else (if 1 ≤ dp then ((kf_193 n (dp - 1) e 0 I0_6 L0_6 i1 0 100).bind (fun ⟨x1_18, I1_18, L1_18⟩ => (if x1_18 = 0 then (some ((0 : Int), I1_18, L1_18)) else (if 1 ≤ dp then ((kf_193 n (dp - 1) e 0 I1_18 L1_18 i2 0 99).bind (fun ⟨x2_30, I2_30, L2_30⟩ => (if x2_30 = 0 then (some ((0 : Int), I2_30, L2_30)) else (if 1 ≤ dp then ((kf_193 n (dp - 1) e 0 I2_30 L2_30 i3 0 3).bind (fun ⟨x3_42, I3_42, L3_42⟩ => (if x3_42 = 0 then (some ((0 : Int), I3_42, L3_42)) else (if 1 ≤ dp then ((kf_193 n (dp - 1) e 0 I3_42 L3_42 i4 0 23).bind (fun ⟨x4_55, I4_55, L4_55⟩ => (if x4_55 = 0 then (some ((0 : Int), I4_55, L4_55)) else (if 1 ≤ dp then ((kf_193 n (dp - 1) e 0 I4_55 L4_55 i5 0 255).bind (fun ⟨x5_68, I5_68, L5_68⟩ => (if x5_68 = 0 then (some ((0 : Int), I5_68, L5_68)) else (some ((1 : Int), I5_68, L5_68))))) else none)))) else none)))) else none)))) else none)))) else none)))) else none) := by rw [kf_289.eq_2, if_pos (show (0 : Nat) = 0 from rfl)]
set_option maxHeartbeats 8000000 in
set_option maxRecDepth 100000 in
theorem ks_289 : ∀ (n : Nat) (dp : Nat) (e : EN) (lab : Nat) (I : Nat → Nat → Int32) (I' : JI) (L : Nat → Nat → Int64) (L' : JI) (i0 : Int32) (i0' : Int) (i1 : Int32) (i1' : Int) (i2 : Int32) (i2' : Int) (i3 : Int32) (i3' : Int) (i4 : Int32) (i4' : Int) (i5 : Int32) (i5' : Int), Rli I I' → Rll L L' → Ui i0 i0' → Ui i1 i1' → Ui i2 i2' → Ui i3 i3' → Ui i4 i4' → Ui i5 i5' → Sim R3 (g_289 n dp e lab I L i0 i1 i2 i3 i4 i5) (kf_289 n dp e lab I' L' i0' i1' i2' i3' i4' i5') := by
  intro n
  induction n with
  | zero => intros; rw [kf_289.eq_1]; exact Sn
  | succ n ih =>
    intro dp e lab I I' L L' i0 i0' i1 i1' i2 i2' i3 i3' i4 i4' i5 i5' u_I u_L u_i0 u_i1 u_i2 u_i3 u_i4 u_i5
    rw [g_289.eq_2, kf_289.eq_2]
    refine Sc Iff.rfl (fun _ => ?_) (fun _ => ?_)
    · refine Sc Iff.rfl (fun c1 => ?_) (fun _ => Sn)
      refine Sb3 (ks_193 n (dp - 1) e 0 _ _ _ _ _ _ _ _ _ _ u_I u_L (ul_i2l u_i0) (rfl : Ul (1) (1)) (rfl : Ul (99) (99))) (fun x0_6 x0_6' I0_6 I0_6' L0_6 L0_6' u_x0_6 u_I0_6 u_L0_6 => ?_)
      refine Sc (eq_up u_x0_6 (rfl : Ui 0 0)) (fun c2 => ?_) (fun c2 => ?_)
      · exact Sr ⟨(rfl : Ui (0) (0)), u_I0_6, u_L0_6⟩
      · refine Sc Iff.rfl (fun c3 => ?_) (fun _ => Sn)
        refine Sb3 (ks_193 n (dp - 1) e 0 _ _ _ _ _ _ _ _ _ _ u_I0_6 u_L0_6 (ul_i2l u_i1) (rfl : Ul (0) (0)) (rfl : Ul (100) (100))) (fun x1_18 x1_18' I1_18 I1_18' L1_18 L1_18' u_x1_18 u_I1_18 u_L1_18 => ?_)
        refine Sc (eq_up u_x1_18 (rfl : Ui 0 0)) (fun c4 => ?_) (fun c4 => ?_)
        · exact Sr ⟨(rfl : Ui (0) (0)), u_I1_18, u_L1_18⟩
        · refine Sc Iff.rfl (fun c5 => ?_) (fun _ => Sn)
          refine Sb3 (ks_193 n (dp - 1) e 0 _ _ _ _ _ _ _ _ _ _ u_I1_18 u_L1_18 (ul_i2l u_i2) (rfl : Ul (0) (0)) (rfl : Ul (99) (99))) (fun x2_30 x2_30' I2_30 I2_30' L2_30 L2_30' u_x2_30 u_I2_30 u_L2_30 => ?_)
          refine Sc (eq_up u_x2_30 (rfl : Ui 0 0)) (fun c6 => ?_) (fun c6 => ?_)
          · exact Sr ⟨(rfl : Ui (0) (0)), u_I2_30, u_L2_30⟩
          · refine Sc Iff.rfl (fun c7 => ?_) (fun _ => Sn)
            refine Sb3 (ks_193 n (dp - 1) e 0 _ _ _ _ _ _ _ _ _ _ u_I2_30 u_L2_30 (ul_i2l u_i3) (rfl : Ul (0) (0)) (rfl : Ul (3) (3))) (fun x3_42 x3_42' I3_42 I3_42' L3_42 L3_42' u_x3_42 u_I3_42 u_L3_42 => ?_)
            refine Sc (eq_up u_x3_42 (rfl : Ui 0 0)) (fun c8 => ?_) (fun c8 => ?_)
            · exact Sr ⟨(rfl : Ui (0) (0)), u_I3_42, u_L3_42⟩
            · refine Sc Iff.rfl (fun c9 => ?_) (fun _ => Sn)
              refine Sb3 (ks_193 n (dp - 1) e 0 _ _ _ _ _ _ _ _ _ _ u_I3_42 u_L3_42 (ul_i2l u_i4) (rfl : Ul (0) (0)) (rfl : Ul (23) (23))) (fun x4_55 x4_55' I4_55 I4_55' L4_55 L4_55' u_x4_55 u_I4_55 u_L4_55 => ?_)
              refine Sc (eq_up u_x4_55 (rfl : Ui 0 0)) (fun c10 => ?_) (fun c10 => ?_)
              · exact Sr ⟨(rfl : Ui (0) (0)), u_I4_55, u_L4_55⟩
              · refine Sc Iff.rfl (fun c11 => ?_) (fun _ => Sn)
                refine Sb3 (ks_193 n (dp - 1) e 0 _ _ _ _ _ _ _ _ _ _ u_I4_55 u_L4_55 (ul_i2l u_i5) (rfl : Ul (0) (0)) (rfl : Ul (255) (255))) (fun x5_68 x5_68' I5_68 I5_68' L5_68 L5_68' u_x5_68 u_I5_68 u_L5_68 => ?_)
                refine Sc (eq_up u_x5_68 (rfl : Ui 0 0)) (fun c12 => ?_) (fun c12 => ?_)
                · exact Sr ⟨(rfl : Ui (0) (0)), u_I5_68, u_L5_68⟩
                · exact Sr ⟨(rfl : Ui (1) (1)), u_I5_68, u_L5_68⟩
    exact Sn
set_option maxHeartbeats 4000000 in
set_option maxRecDepth 100000 in
def kf_290 : Nat → Nat → EN → Nat → JI → JI → Int → Int → Int → Int → Int → Int → Option (JI × JI)
  | 0, _, _, _, _, _, _, _, _, _, _, _ => none
  | n + 1, dp, e, lab, I, L, i1, i2, i3, i4, i5, i6 =>
    if lab = 0 then (if (-2147483648 ≤ 7 * (I 107 6) ∧ 7 * (I 107 6) ≤ 2147483647) ∧ (-2147483648 ≤ 90 + (7 * (I 107 6)) ∧ 90 + (7 * (I 107 6)) ≤ 2147483647) then (stI (90 + (7 * (I 107 6))) (fun v_13 => (if 0 ≤ v_13 ∧ v_13 < 1570 then (stI (w2 I 107 v_13 i1) (fun I_22 => (if -2147483648 ≤ v_13 + 1 ∧ v_13 + 1 ≤ 2147483647 then (if 0 ≤ (v_13 + 1) ∧ (v_13 + 1) < 1570 then (stI (w2 I_22 107 (v_13 + 1) i2) (fun I_32 => (if -2147483648 ≤ v_13 + 2 ∧ v_13 + 2 ≤ 2147483647 then (if 0 ≤ (v_13 + 2) ∧ (v_13 + 2) < 1570 then (stI (w2 I_32 107 (v_13 + 2) i3) (fun I_42 => (if -2147483648 ≤ v_13 + 3 ∧ v_13 + 3 ≤ 2147483647 then (if 0 ≤ (v_13 + 3) ∧ (v_13 + 3) < 1570 then (stI (w2 I_42 107 (v_13 + 3) i4) (fun I_53 => (if -2147483648 ≤ v_13 + 4 ∧ v_13 + 4 ≤ 2147483647 then (if 0 ≤ (v_13 + 4) ∧ (v_13 + 4) < 1570 then (stI (w2 I_53 107 (v_13 + 4) i5) (fun I_64 => (if -2147483648 ≤ v_13 + 5 ∧ v_13 + 5 ≤ 2147483647 then (if 0 ≤ (v_13 + 5) ∧ (v_13 + 5) < 1570 then (stI (w2 I_64 107 (v_13 + 5) i6) (fun I_75 => (if -2147483648 ≤ v_13 + 6 ∧ v_13 + 6 ≤ 2147483647 then (if 0 ≤ (v_13 + 6) ∧ (v_13 + 6) < 1570 then (stI (w2 I_75 107 (v_13 + 6) 1) (fun I_86 => (if -2147483648 ≤ (I_86 107 6) + 1 ∧ (I_86 107 6) + 1 ≤ 2147483647 then (stI (w2 I_86 107 6 ((I_86 107 6) + 1)) (fun I_97 => (some (I_97, L)))) else none))) else none) else none))) else none) else none))) else none) else none))) else none) else none))) else none) else none))) else none) else none))) else none))) else none)
    else none
set_option maxRecDepth 100000 in
theorem ke_290_0 (n : Nat) (dp : Nat) (e : EN) (I : JI) (L : JI) (i1 : Int) (i2 : Int) (i3 : Int) (i4 : Int) (i5 : Int) (i6 : Int) : kf_290 (n + 1) dp e 0 I L i1 i2 i3 i4 i5 i6 = (if (-2147483648 ≤ 7 * (I 107 6) ∧ 7 * (I 107 6) ≤ 2147483647) ∧ (-2147483648 ≤ 90 + (7 * (I 107 6)) ∧ 90 + (7 * (I 107 6)) ≤ 2147483647) then (stI (90 + (7 * (I 107 6))) (fun v_13 => (if 0 ≤ v_13 ∧ v_13 < 1570 then (stI (w2 I 107 v_13 i1) (fun I_22 => (if -2147483648 ≤ v_13 + 1 ∧ v_13 + 1 ≤ 2147483647 then (if 0 ≤ (v_13 + 1) ∧ (v_13 + 1) < 1570 then (stI (w2 I_22 107 (v_13 + 1) i2) (fun I_32 => (if -2147483648 ≤ v_13 + 2 ∧ v_13 + 2 ≤ 2147483647 then (if 0 ≤ (v_13 + 2) ∧ (v_13 + 2) < 1570 then (stI (w2 I_32 107 (v_13 + 2) i3) (fun I_42 => (if -2147483648 ≤ v_13 + 3 ∧ v_13 + 3 ≤ 2147483647 then (if 0 ≤ (v_13 + 3) ∧ (v_13 + 3) < 1570 then (stI (w2 I_42 107 (v_13 + 3) i4) (fun I_53 => (if -2147483648 ≤ v_13 + 4 ∧ v_13 + 4 ≤ 2147483647 then (if 0 ≤ (v_13 + 4) ∧ (v_13 + 4) < 1570 then (stI (w2 I_53 107 (v_13 + 4) i5) (fun I_64 => (if -2147483648 ≤ v_13 + 5 ∧ v_13 + 5 ≤ 2147483647 then (if 0 ≤ (v_13 + 5) ∧ (v_13 + 5) < 1570 then (stI (w2 I_64 107 (v_13 + 5) i6) (fun I_75 => (if -2147483648 ≤ v_13 + 6 ∧ v_13 + 6 ≤ 2147483647 then (if 0 ≤ (v_13 + 6) ∧ (v_13 + 6) < 1570 then (stI (w2 I_75 107 (v_13 + 6) 1) (fun I_86 => (if -2147483648 ≤ (I_86 107 6) + 1 ∧ (I_86 107 6) + 1 ≤ 2147483647 then (stI (w2 I_86 107 6 ((I_86 107 6) + 1)) (fun I_97 => (some (I_97, L)))) else none))) else none) else none))) else none) else none))) else none) else none))) else none) else none))) else none) else none))) else none) else none))) else none))) else none) := by rw [kf_290.eq_2, if_pos (show (0 : Nat) = 0 from rfl)]
set_option maxHeartbeats 8000000 in
set_option maxRecDepth 100000 in
theorem ks_290 : ∀ (n : Nat) (dp : Nat) (e : EN) (lab : Nat) (I : Nat → Nat → Int32) (I' : JI) (L : Nat → Nat → Int64) (L' : JI) (i1 : Int32) (i1' : Int) (i2 : Int32) (i2' : Int) (i3 : Int32) (i3' : Int) (i4 : Int32) (i4' : Int) (i5 : Int32) (i5' : Int) (i6 : Int32) (i6' : Int), Rli I I' → Rll L L' → Ui i1 i1' → Ui i2 i2' → Ui i3 i3' → Ui i4 i4' → Ui i5 i5' → Ui i6 i6' → Sim R2 (g_290 n dp e lab I L i1 i2 i3 i4 i5 i6) (kf_290 n dp e lab I' L' i1' i2' i3' i4' i5' i6') := by
  intro n
  induction n with
  | zero => intros; rw [kf_290.eq_1]; exact Sn
  | succ n ih =>
    intro dp e lab I I' L L' i1 i1' i2 i2' i3 i3' i4 i4' i5 i5' i6 i6' u_I u_L u_i1 u_i2 u_i3 u_i4 u_i5 u_i6
    rw [g_290.eq_2, kf_290.eq_2]
    refine Sc Iff.rfl (fun _ => ?_) (fun _ => ?_)
    · refine Sg (fun g1 => ?_)
      refine SsI (ui_add (rfl : Ui (90) (90)) (ui_mul (rfl : Ui (7) (7)) (u_I 107 6) g1.1) g1.2) (fun v_13 v_13' u_v_13 => ?_)
      refine Sc (ix_up u_v_13) (fun c2 => ?_) (fun _ => Sn)
      refine SsJ (ri_up u_I (kc_up u_v_13 c2.1) u_i1) (fun I_22 I_22' u_I_22 => ?_)
      refine Sg (fun g3 => ?_)
      refine Sc (ix_up (ui_add u_v_13 (rfl : Ui (1) (1)) g3)) (fun c4 => ?_) (fun _ => Sn)
      refine SsJ (ri_up u_I_22 (kc_up (ui_add u_v_13 (rfl : Ui (1) (1)) g3) c4.1) u_i2) (fun I_32 I_32' u_I_32 => ?_)
      refine Sg (fun g5 => ?_)
      refine Sc (ix_up (ui_add u_v_13 (rfl : Ui (2) (2)) g5)) (fun c6 => ?_) (fun _ => Sn)
      refine SsJ (ri_up u_I_32 (kc_up (ui_add u_v_13 (rfl : Ui (2) (2)) g5) c6.1) u_i3) (fun I_42 I_42' u_I_42 => ?_)
      refine Sg (fun g7 => ?_)
      refine Sc (ix_up (ui_add u_v_13 (rfl : Ui (3) (3)) g7)) (fun c8 => ?_) (fun _ => Sn)
      refine SsJ (ri_up u_I_42 (kc_up (ui_add u_v_13 (rfl : Ui (3) (3)) g7) c8.1) u_i4) (fun I_53 I_53' u_I_53 => ?_)
      refine Sg (fun g9 => ?_)
      refine Sc (ix_up (ui_add u_v_13 (rfl : Ui (4) (4)) g9)) (fun c10 => ?_) (fun _ => Sn)
      refine SsJ (ri_up u_I_53 (kc_up (ui_add u_v_13 (rfl : Ui (4) (4)) g9) c10.1) u_i5) (fun I_64 I_64' u_I_64 => ?_)
      refine Sg (fun g11 => ?_)
      refine Sc (ix_up (ui_add u_v_13 (rfl : Ui (5) (5)) g11)) (fun c12 => ?_) (fun _ => Sn)
      refine SsJ (ri_up u_I_64 (kc_up (ui_add u_v_13 (rfl : Ui (5) (5)) g11) c12.1) u_i6) (fun I_75 I_75' u_I_75 => ?_)
      refine Sg (fun g13 => ?_)
      refine Sc (ix_up (ui_add u_v_13 (rfl : Ui (6) (6)) g13)) (fun c14 => ?_) (fun _ => Sn)
      refine SsJ (ri_up u_I_75 (kc_up (ui_add u_v_13 (rfl : Ui (6) (6)) g13) c14.1) (rfl : Ui (1) (1))) (fun I_86 I_86' u_I_86 => ?_)
      refine Sg (fun g15 => ?_)
      refine SsJ (ri_up u_I_86 (rfl : ((6 : Nat) : Int) = 6) (ui_add (u_I_86 107 6) (rfl : Ui (1) (1)) g15)) (fun I_97 I_97' u_I_97 => ?_)
      exact Sr ⟨u_I_97, u_L⟩
    exact Sn
set_option maxHeartbeats 4000000 in
set_option maxRecDepth 100000 in
def kf_288 : Nat → Nat → EN → Nat → JI → JI → Int → Int → Int → Int → Int → Int → Option (Int × JI × JI)
  | 0, _, _, _, _, _, _, _, _, _, _, _ => none
  | n + 1, dp, e, lab, I, L, i1, i2, i3, i4, i5, i6 =>
    if lab = 0 then (stI (w2 I 105 0 0) (fun I_2 => (if 1 ≤ dp then ((kf_289 n (dp - 1) e 0 I_2 L i1 i2 i3 i4 i5 i6).bind (fun ⟨x0_14, I0_14, L0_14⟩ => (if x0_14 = 0 then (if 1 ≤ dp then ((kf_194 n (dp - 1) e 0 I0_14 L0_14 (-1)).bind (fun ⟨x1_22, I1_22, L1_22⟩ => (some ((x1_22 : Int), I1_22, L1_22)))) else none) else (if (I0_14 107 6) = 16 then (if 1 ≤ dp then ((kf_194 n (dp - 1) e 0 I0_14 L0_14 (-5)).bind (fun ⟨x1_41, I1_41, L1_41⟩ => (some ((x1_41 : Int), I1_41, L1_41)))) else none) else (if 1 ≤ dp then ((kf_290 n (dp - 1) e 0 I0_14 L0_14 i1 i2 i3 i4 i5 i6).bind (fun ⟨I1_55, L1_55⟩ => (if 1 ≤ dp then (if -2147483648 ≤ (I1_55 107 6) - 1 ∧ (I1_55 107 6) - 1 ≤ 2147483647 then ((kf_194 n (dp - 1) e 0 I1_55 L1_55 ((I1_55 107 6) - 1)).bind (fun ⟨x2_68, I2_68, L2_68⟩ => (some ((x2_68 : Int), I2_68, L2_68)))) else none) else none))) else none))))) else none)))
    else none
set_option maxRecDepth 100000 in
theorem ke_288_0 (n : Nat) (dp : Nat) (e : EN) (I : JI) (L : JI) (i1 : Int) (i2 : Int) (i3 : Int) (i4 : Int) (i5 : Int) (i6 : Int) : kf_288 (n + 1) dp e 0 I L i1 i2 i3 i4 i5 i6 = (stI (w2 I 105 0 0) (fun I_2 => (if 1 ≤ dp then ((kf_289 n (dp - 1) e 0 I_2 L i1 i2 i3 i4 i5 i6).bind (fun ⟨x0_14, I0_14, L0_14⟩ => (if x0_14 = 0 then (if 1 ≤ dp then ((kf_194 n (dp - 1) e 0 I0_14 L0_14 (-1)).bind (fun ⟨x1_22, I1_22, L1_22⟩ => (some ((x1_22 : Int), I1_22, L1_22)))) else none) else (if (I0_14 107 6) = 16 then (if 1 ≤ dp then ((kf_194 n (dp - 1) e 0 I0_14 L0_14 (-5)).bind (fun ⟨x1_41, I1_41, L1_41⟩ => (some ((x1_41 : Int), I1_41, L1_41)))) else none) else (if 1 ≤ dp then ((kf_290 n (dp - 1) e 0 I0_14 L0_14 i1 i2 i3 i4 i5 i6).bind (fun ⟨I1_55, L1_55⟩ => (if 1 ≤ dp then (if -2147483648 ≤ (I1_55 107 6) - 1 ∧ (I1_55 107 6) - 1 ≤ 2147483647 then ((kf_194 n (dp - 1) e 0 I1_55 L1_55 ((I1_55 107 6) - 1)).bind (fun ⟨x2_68, I2_68, L2_68⟩ => (some ((x2_68 : Int), I2_68, L2_68)))) else none) else none))) else none))))) else none))) := by rw [kf_288.eq_2, if_pos (show (0 : Nat) = 0 from rfl)]
set_option maxHeartbeats 8000000 in
set_option maxRecDepth 100000 in
theorem ks_288 : ∀ (n : Nat) (dp : Nat) (e : EN) (lab : Nat) (I : Nat → Nat → Int32) (I' : JI) (L : Nat → Nat → Int64) (L' : JI) (i1 : Int32) (i1' : Int) (i2 : Int32) (i2' : Int) (i3 : Int32) (i3' : Int) (i4 : Int32) (i4' : Int) (i5 : Int32) (i5' : Int) (i6 : Int32) (i6' : Int), Rli I I' → Rll L L' → Ui i1 i1' → Ui i2 i2' → Ui i3 i3' → Ui i4 i4' → Ui i5 i5' → Ui i6 i6' → Sim R3 (g_288 n dp e lab I L i1 i2 i3 i4 i5 i6) (kf_288 n dp e lab I' L' i1' i2' i3' i4' i5' i6') := by
  intro n
  induction n with
  | zero => intros; rw [kf_288.eq_1]; exact Sn
  | succ n ih =>
    intro dp e lab I I' L L' i1 i1' i2 i2' i3 i3' i4 i4' i5 i5' i6 i6' u_I u_L u_i1 u_i2 u_i3 u_i4 u_i5 u_i6
    rw [g_288.eq_2, kf_288.eq_2]
    refine Sc Iff.rfl (fun _ => ?_) (fun _ => ?_)
    · refine SsJ (ri_up u_I (rfl : ((0 : Nat) : Int) = 0) (rfl : Ui (0) (0))) (fun I_2 I_2' u_I_2 => ?_)
      refine Sc Iff.rfl (fun c1 => ?_) (fun _ => Sn)
      refine Sb3 (ks_289 n (dp - 1) e 0 _ _ _ _ _ _ _ _ _ _ _ _ _ _ _ _ u_I_2 u_L u_i1 u_i2 u_i3 u_i4 u_i5 u_i6) (fun x0_14 x0_14' I0_14 I0_14' L0_14 L0_14' u_x0_14 u_I0_14 u_L0_14 => ?_)
      refine Sc (eq_up u_x0_14 (rfl : Ui 0 0)) (fun c2 => ?_) (fun c2 => ?_)
      · refine Sc Iff.rfl (fun c3 => ?_) (fun _ => Sn)
        refine Sb3 (ks_194 n (dp - 1) e 0 _ _ _ _ _ _ u_I0_14 u_L0_14 (rfl : Ui (-1) (-1))) (fun x1_22 x1_22' I1_22 I1_22' L1_22 L1_22' u_x1_22 u_I1_22 u_L1_22 => ?_)
        exact Sr ⟨u_x1_22, u_I1_22, u_L1_22⟩
      · refine Sc (eq_up (u_I0_14 107 6) (rfl : Ui (16) (16))) (fun c4 => ?_) (fun c4 => ?_)
        · refine Sc Iff.rfl (fun c5 => ?_) (fun _ => Sn)
          refine Sb3 (ks_194 n (dp - 1) e 0 _ _ _ _ _ _ u_I0_14 u_L0_14 (rfl : Ui (-5) (-5))) (fun x1_41 x1_41' I1_41 I1_41' L1_41 L1_41' u_x1_41 u_I1_41 u_L1_41 => ?_)
          exact Sr ⟨u_x1_41, u_I1_41, u_L1_41⟩
        · refine Sc Iff.rfl (fun c6 => ?_) (fun _ => Sn)
          refine Sb2 (ks_290 n (dp - 1) e 0 _ _ _ _ _ _ _ _ _ _ _ _ _ _ _ _ u_I0_14 u_L0_14 u_i1 u_i2 u_i3 u_i4 u_i5 u_i6) (fun I1_55 I1_55' L1_55 L1_55' u_I1_55 u_L1_55 => ?_)
          refine Sc Iff.rfl (fun c7 => ?_) (fun _ => Sn)
          refine Sg (fun g8 => ?_)
          refine Sb3 (ks_194 n (dp - 1) e 0 _ _ _ _ _ _ u_I1_55 u_L1_55 (ui_sub (u_I1_55 107 6) (rfl : Ui (1) (1)) g8)) (fun x2_68 x2_68' I2_68 I2_68' L2_68 L2_68' u_x2_68 u_I2_68 u_L2_68 => ?_)
          exact Sr ⟨u_x2_68, u_I2_68, u_L2_68⟩
    exact Sn
set_option maxHeartbeats 4000000 in
set_option maxRecDepth 100000 in
def kf_292 : Nat → Nat → EN → Nat → JI → JI → Int → Int → Option (Int × JI × JI)
  | 0, _, _, _, _, _, _, _ => none
  | n + 1, dp, e, lab, I, L, i1, i2 =>
    if lab = 0 then (if (-2147483648 ≤ 7 * i1 ∧ 7 * i1 ≤ 2147483647) ∧ (-2147483648 ≤ 90 + (7 * i1) ∧ 90 + (7 * i1) ≤ 2147483647) ∧ (-2147483648 ≤ (90 + (7 * i1)) + i2 ∧ (90 + (7 * i1)) + i2 ≤ 2147483647) then (if 0 ≤ ((90 + (7 * i1)) + i2) ∧ ((90 + (7 * i1)) + i2) < 1570 then (some (((I 107 ((90 + (7 * i1)) + i2)) : Int), I, L)) else none) else none)
    else none
set_option maxRecDepth 100000 in
theorem ke_292_0 (n : Nat) (dp : Nat) (e : EN) (I : JI) (L : JI) (i1 : Int) (i2 : Int) : kf_292 (n + 1) dp e 0 I L i1 i2 = (if (-2147483648 ≤ 7 * i1 ∧ 7 * i1 ≤ 2147483647) ∧ (-2147483648 ≤ 90 + (7 * i1) ∧ 90 + (7 * i1) ≤ 2147483647) ∧ (-2147483648 ≤ (90 + (7 * i1)) + i2 ∧ (90 + (7 * i1)) + i2 ≤ 2147483647) then (if 0 ≤ ((90 + (7 * i1)) + i2) ∧ ((90 + (7 * i1)) + i2) < 1570 then (some (((I 107 ((90 + (7 * i1)) + i2)) : Int), I, L)) else none) else none) := by rw [kf_292.eq_2, if_pos (show (0 : Nat) = 0 from rfl)]
set_option maxHeartbeats 8000000 in
set_option maxRecDepth 100000 in
theorem ks_292 : ∀ (n : Nat) (dp : Nat) (e : EN) (lab : Nat) (I : Nat → Nat → Int32) (I' : JI) (L : Nat → Nat → Int64) (L' : JI) (i1 : Int32) (i1' : Int) (i2 : Int32) (i2' : Int), Rli I I' → Rll L L' → Ui i1 i1' → Ui i2 i2' → Sim R3 (g_292 n dp e lab I L i1 i2) (kf_292 n dp e lab I' L' i1' i2') := by
  intro n
  induction n with
  | zero => intros; rw [kf_292.eq_1]; exact Sn
  | succ n ih =>
    intro dp e lab I I' L L' i1 i1' i2 i2' u_I u_L u_i1 u_i2
    rw [g_292.eq_2, kf_292.eq_2]
    refine Sc Iff.rfl (fun _ => ?_) (fun _ => ?_)
    · refine Sg (fun g1 => ?_)
      refine Sc (ix_up (ui_add (ui_add (rfl : Ui (90) (90)) (ui_mul (rfl : Ui (7) (7)) u_i1 g1.1) g1.2.1) u_i2 g1.2.2)) (fun c2 => ?_) (fun _ => Sn)
      exact Sr ⟨(ui_rd (a := 107) u_I (ui_add (ui_add (rfl : Ui (90) (90)) (ui_mul (rfl : Ui (7) (7)) u_i1 g1.1) g1.2.1) u_i2 g1.2.2) c2.1), u_I, u_L⟩
    exact Sn
set_option maxHeartbeats 4000000 in
set_option maxRecDepth 100000 in
def kf_291 : Nat → Nat → EN → Nat → JI → JI → Int → Int → Option (Int × JI × JI)
  | 0, _, _, _, _, _, _, _ => none
  | n + 1, dp, e, lab, I, L, i1, i2 =>
    if lab = 0 then (stI (w2 I 105 0 0) (fun I_2 => (if 1 ≤ dp then (if -9223372036854775808 ≤ (I_2 107 6) - 1 ∧ (I_2 107 6) - 1 ≤ 9223372036854775807 then ((kf_193 n (dp - 1) e 0 I_2 L i1 0 ((I_2 107 6) - 1)).bind (fun ⟨x0_18, I0_18, L0_18⟩ => (if x0_18 = 0 then (some (((-1) : Int), I0_18, L0_18)) else (if 1 ≤ dp then ((kf_193 n (dp - 1) e 0 I0_18 L0_18 i2 0 6).bind (fun ⟨x1_30, I1_30, L1_30⟩ => (if x1_30 = 0 then (some (((-1) : Int), I1_30, L1_30)) else (if 1 ≤ dp then ((kf_292 n (dp - 1) e 0 I1_30 L1_30 i1 i2).bind (fun ⟨x2_39, I2_39, L2_39⟩ => (some ((x2_39 : Int), I2_39, L2_39)))) else none)))) else none)))) else none) else none)))
    else none
set_option maxRecDepth 100000 in
theorem ke_291_0 (n : Nat) (dp : Nat) (e : EN) (I : JI) (L : JI) (i1 : Int) (i2 : Int) : kf_291 (n + 1) dp e 0 I L i1 i2 = (stI (w2 I 105 0 0) (fun I_2 => (if 1 ≤ dp then (if -9223372036854775808 ≤ (I_2 107 6) - 1 ∧ (I_2 107 6) - 1 ≤ 9223372036854775807 then ((kf_193 n (dp - 1) e 0 I_2 L i1 0 ((I_2 107 6) - 1)).bind (fun ⟨x0_18, I0_18, L0_18⟩ => (if x0_18 = 0 then (some (((-1) : Int), I0_18, L0_18)) else (if 1 ≤ dp then ((kf_193 n (dp - 1) e 0 I0_18 L0_18 i2 0 6).bind (fun ⟨x1_30, I1_30, L1_30⟩ => (if x1_30 = 0 then (some (((-1) : Int), I1_30, L1_30)) else (if 1 ≤ dp then ((kf_292 n (dp - 1) e 0 I1_30 L1_30 i1 i2).bind (fun ⟨x2_39, I2_39, L2_39⟩ => (some ((x2_39 : Int), I2_39, L2_39)))) else none)))) else none)))) else none) else none))) := by rw [kf_291.eq_2, if_pos (show (0 : Nat) = 0 from rfl)]
set_option maxHeartbeats 8000000 in
set_option maxRecDepth 100000 in
theorem ks_291 : ∀ (n : Nat) (dp : Nat) (e : EN) (lab : Nat) (I : Nat → Nat → Int32) (I' : JI) (L : Nat → Nat → Int64) (L' : JI) (i1 : Int32) (i1' : Int) (i2 : Int32) (i2' : Int), Rli I I' → Rll L L' → Ui i1 i1' → Ui i2 i2' → Sim R3 (g_291 n dp e lab I L i1 i2) (kf_291 n dp e lab I' L' i1' i2') := by
  intro n
  induction n with
  | zero => intros; rw [kf_291.eq_1]; exact Sn
  | succ n ih =>
    intro dp e lab I I' L L' i1 i1' i2 i2' u_I u_L u_i1 u_i2
    rw [g_291.eq_2, kf_291.eq_2]
    refine Sc Iff.rfl (fun _ => ?_) (fun _ => ?_)
    · refine SsJ (ri_up u_I (rfl : ((0 : Nat) : Int) = 0) (rfl : Ui (0) (0))) (fun I_2 I_2' u_I_2 => ?_)
      refine Sc Iff.rfl (fun c1 => ?_) (fun _ => Sn)
      refine Sg (fun g2 => ?_)
      refine Sb3 (ks_193 n (dp - 1) e 0 _ _ _ _ _ _ _ _ _ _ u_I_2 u_L (ul_i2l u_i1) (rfl : Ul (0) (0)) (ul_sub (ul_i2l (u_I_2 107 6)) (rfl : Ul (1) (1)) g2)) (fun x0_18 x0_18' I0_18 I0_18' L0_18 L0_18' u_x0_18 u_I0_18 u_L0_18 => ?_)
      refine Sc (eq_up u_x0_18 (rfl : Ui 0 0)) (fun c3 => ?_) (fun c3 => ?_)
      · exact Sr ⟨(rfl : Ui (-1) (-1)), u_I0_18, u_L0_18⟩
      · refine Sc Iff.rfl (fun c4 => ?_) (fun _ => Sn)
        refine Sb3 (ks_193 n (dp - 1) e 0 _ _ _ _ _ _ _ _ _ _ u_I0_18 u_L0_18 (ul_i2l u_i2) (rfl : Ul (0) (0)) (rfl : Ul (6) (6))) (fun x1_30 x1_30' I1_30 I1_30' L1_30 L1_30' u_x1_30 u_I1_30 u_L1_30 => ?_)
        refine Sc (eq_up u_x1_30 (rfl : Ui 0 0)) (fun c5 => ?_) (fun c5 => ?_)
        · exact Sr ⟨(rfl : Ui (-1) (-1)), u_I1_30, u_L1_30⟩
        · refine Sc Iff.rfl (fun c6 => ?_) (fun _ => Sn)
          refine Sb3 (ks_292 n (dp - 1) e 0 _ _ _ _ _ _ _ _ u_I1_30 u_L1_30 u_i1 u_i2) (fun x2_39 x2_39' I2_39 I2_39' L2_39 L2_39' u_x2_39 u_I2_39 u_L2_39 => ?_)
          exact Sr ⟨u_x2_39, u_I2_39, u_L2_39⟩
    exact Sn
set_option maxHeartbeats 4000000 in
set_option maxRecDepth 100000 in
def kf_293 : Nat → Nat → EN → Nat → JI → JI → Int → Int → Int → Int → Option (Int × JI × JI)
  | 0, _, _, _, _, _, _, _, _, _ => none
  | n + 1, dp, e, lab, I, L, i1, i2, i3, i4 =>
    if lab = 0 then (stI (w2 I 105 0 0) (fun I_2 => (stI (w2 I_2 105 7 0) (fun I_12 => (if (I_2 105 7) = 0 then (if 1 ≤ dp then ((kf_194 n (dp - 1) e 0 I_12 L (-6)).bind (fun ⟨x0_22, I0_22, L0_22⟩ => (some ((x0_22 : Int), I0_22, L0_22)))) else none) else (stI (w2 I_12 105 63 0) (fun I_28 => (kf_293 n dp e 1 I_28 L (I_2 105 7) 0 0 0))))))))
    else if lab = 1 then (if i1 ≤ i3 then (if 1 ≤ dp then ((kf_194 n (dp - 1) e 0 I L i2).bind (fun ⟨x0_209, I0_209, L0_209⟩ => (some ((x0_209 : Int), I0_209, L0_209)))) else none) else (if -2147483648 ≤ i3 + 5 ∧ i3 + 5 ≤ 2147483647 then (if i1 ≤ (i3 + 5) then (kf_293 n dp e 2 I L i1 i2 i3 0) else (if 16 ≤ (I 107 6) then (kf_293 n dp e 2 I L i1 i2 i3 0) else (if (1 : Int) = 0 then (kf_293 n dp e 3 I L i1 i2 i3 1) else (if 0 ≤ i3 ∧ i3 < 400 then (if -2147483648 ≤ i3 + 1 ∧ i3 + 1 ≤ 2147483647 then (if 0 ≤ (i3 + 1) ∧ (i3 + 1) < 400 then (if -2147483648 ≤ i3 + 2 ∧ i3 + 2 ≤ 2147483647 then (if 0 ≤ (i3 + 2) ∧ (i3 + 2) < 400 then (if -2147483648 ≤ i3 + 3 ∧ i3 + 3 ≤ 2147483647 then (if 0 ≤ (i3 + 3) ∧ (i3 + 3) < 400 then (if -2147483648 ≤ i3 + 4 ∧ i3 + 4 ≤ 2147483647 then (if 0 ≤ (i3 + 4) ∧ (i3 + 4) < 400 then (if 0 ≤ (i3 + 5) ∧ (i3 + 5) < 400 then (if 1 ≤ dp then ((kf_289 n (dp - 1) e 0 I L (I 110 i3) (I 110 (i3 + 1)) (I 110 (i3 + 2)) (I 110 (i3 + 3)) (I 110 (i3 + 4)) (I 110 (i3 + 5))).bind (fun ⟨x0_117, I0_117, L0_117⟩ => (if x0_117 = 0 then (kf_293 n dp e 3 I0_117 L0_117 i1 i2 i3 1) else (if (1 : Int) = 0 then (if -2147483648 ≤ (I0_117 105 63) + 1 ∧ (I0_117 105 63) + 1 ≤ 2147483647 then (stI (w2 I0_117 105 63 ((I0_117 105 63) + 1)) (fun I_198 => (kf_293 n dp e 4 I_198 L0_117 i1 i2 i3 1))) else none) else (if 0 ≤ i3 ∧ i3 < 400 then (if 0 ≤ (i3 + 1) ∧ (i3 + 1) < 400 then (if 0 ≤ (i3 + 2) ∧ (i3 + 2) < 400 then (if 0 ≤ (i3 + 3) ∧ (i3 + 3) < 400 then (if 0 ≤ (i3 + 4) ∧ (i3 + 4) < 400 then (if 0 ≤ (i3 + 5) ∧ (i3 + 5) < 400 then (if 1 ≤ dp then ((kf_290 n (dp - 1) e 0 I0_117 L0_117 (I0_117 110 i3) (I0_117 110 (i3 + 1)) (I0_117 110 (i3 + 2)) (I0_117 110 (i3 + 3)) (I0_117 110 (i3 + 4)) (I0_117 110 (i3 + 5))).bind (fun ⟨I1_182, L1_182⟩ => (if -2147483648 ≤ i2 + 1 ∧ i2 + 1 ≤ 2147483647 then (kf_293 n dp e 4 I1_182 L1_182 i1 (i2 + 1) i3 1) else none))) else none) else none) else none) else none) else none) else none) else none))))) else none) else none) else none) else none) else none) else none) else none) else none) else none) else none) else none)))) else none))
    else if lab = 2 then (if (0 : Int) = 0 then (kf_293 n dp e 3 I L i1 i2 i3 0) else (if 0 ≤ i3 ∧ i3 < 400 then (if -2147483648 ≤ i3 + 1 ∧ i3 + 1 ≤ 2147483647 then (if 0 ≤ (i3 + 1) ∧ (i3 + 1) < 400 then (if -2147483648 ≤ i3 + 2 ∧ i3 + 2 ≤ 2147483647 then (if 0 ≤ (i3 + 2) ∧ (i3 + 2) < 400 then (if -2147483648 ≤ i3 + 3 ∧ i3 + 3 ≤ 2147483647 then (if 0 ≤ (i3 + 3) ∧ (i3 + 3) < 400 then (if -2147483648 ≤ i3 + 4 ∧ i3 + 4 ≤ 2147483647 then (if 0 ≤ (i3 + 4) ∧ (i3 + 4) < 400 then (if -2147483648 ≤ i3 + 5 ∧ i3 + 5 ≤ 2147483647 then (if 0 ≤ (i3 + 5) ∧ (i3 + 5) < 400 then (if 1 ≤ dp then ((kf_289 n (dp - 1) e 0 I L (I 110 i3) (I 110 (i3 + 1)) (I 110 (i3 + 2)) (I 110 (i3 + 3)) (I 110 (i3 + 4)) (I 110 (i3 + 5))).bind (fun ⟨x0_117, I0_117, L0_117⟩ => (if x0_117 = 0 then (kf_293 n dp e 3 I0_117 L0_117 i1 i2 i3 0) else (if (1 : Int) = 0 then (if -2147483648 ≤ (I0_117 105 63) + 1 ∧ (I0_117 105 63) + 1 ≤ 2147483647 then (stI (w2 I0_117 105 63 ((I0_117 105 63) + 1)) (fun I_198 => (kf_293 n dp e 4 I_198 L0_117 i1 i2 i3 1))) else none) else (if 0 ≤ i3 ∧ i3 < 400 then (if 0 ≤ (i3 + 1) ∧ (i3 + 1) < 400 then (if 0 ≤ (i3 + 2) ∧ (i3 + 2) < 400 then (if 0 ≤ (i3 + 3) ∧ (i3 + 3) < 400 then (if 0 ≤ (i3 + 4) ∧ (i3 + 4) < 400 then (if 0 ≤ (i3 + 5) ∧ (i3 + 5) < 400 then (if 1 ≤ dp then ((kf_290 n (dp - 1) e 0 I0_117 L0_117 (I0_117 110 i3) (I0_117 110 (i3 + 1)) (I0_117 110 (i3 + 2)) (I0_117 110 (i3 + 3)) (I0_117 110 (i3 + 4)) (I0_117 110 (i3 + 5))).bind (fun ⟨I1_182, L1_182⟩ => (if -2147483648 ≤ i2 + 1 ∧ i2 + 1 ≤ 2147483647 then (kf_293 n dp e 4 I1_182 L1_182 i1 (i2 + 1) i3 1) else none))) else none) else none) else none) else none) else none) else none) else none))))) else none) else none) else none) else none) else none) else none) else none) else none) else none) else none) else none) else none))
    else if lab = 3 then (if (0 : Int) = 0 then (if -2147483648 ≤ (I 105 63) + 1 ∧ (I 105 63) + 1 ≤ 2147483647 then (stI (w2 I 105 63 ((I 105 63) + 1)) (fun I_198 => (kf_293 n dp e 4 I_198 L i1 i2 i3 0))) else none) else (if 0 ≤ i3 ∧ i3 < 400 then (if -2147483648 ≤ i3 + 1 ∧ i3 + 1 ≤ 2147483647 then (if 0 ≤ (i3 + 1) ∧ (i3 + 1) < 400 then (if -2147483648 ≤ i3 + 2 ∧ i3 + 2 ≤ 2147483647 then (if 0 ≤ (i3 + 2) ∧ (i3 + 2) < 400 then (if -2147483648 ≤ i3 + 3 ∧ i3 + 3 ≤ 2147483647 then (if 0 ≤ (i3 + 3) ∧ (i3 + 3) < 400 then (if -2147483648 ≤ i3 + 4 ∧ i3 + 4 ≤ 2147483647 then (if 0 ≤ (i3 + 4) ∧ (i3 + 4) < 400 then (if -2147483648 ≤ i3 + 5 ∧ i3 + 5 ≤ 2147483647 then (if 0 ≤ (i3 + 5) ∧ (i3 + 5) < 400 then (if 1 ≤ dp then ((kf_290 n (dp - 1) e 0 I L (I 110 i3) (I 110 (i3 + 1)) (I 110 (i3 + 2)) (I 110 (i3 + 3)) (I 110 (i3 + 4)) (I 110 (i3 + 5))).bind (fun ⟨I0_182, L0_182⟩ => (if -2147483648 ≤ i2 + 1 ∧ i2 + 1 ≤ 2147483647 then (kf_293 n dp e 4 I0_182 L0_182 i1 (i2 + 1) i3 0) else none))) else none) else none) else none) else none) else none) else none) else none) else none) else none) else none) else none) else none))
    else if lab = 4 then (if -2147483648 ≤ i3 + 6 ∧ i3 + 6 ≤ 2147483647 then (kf_293 n dp e 1 I L i1 i2 (i3 + 6) 0) else none)
    else none
set_option maxRecDepth 100000 in
theorem ke_293_0 (n : Nat) (dp : Nat) (e : EN) (I : JI) (L : JI) (i1 : Int) (i2 : Int) (i3 : Int) (i4 : Int) : kf_293 (n + 1) dp e 0 I L i1 i2 i3 i4 = (stI (w2 I 105 0 0) (fun I_2 => (stI (w2 I_2 105 7 0) (fun I_12 => (if (I_2 105 7) = 0 then (if 1 ≤ dp then ((kf_194 n (dp - 1) e 0 I_12 L (-6)).bind (fun ⟨x0_22, I0_22, L0_22⟩ => (some ((x0_22 : Int), I0_22, L0_22)))) else none) else (stI (w2 I_12 105 63 0) (fun I_28 => (kf_293 n dp e 1 I_28 L (I_2 105 7) 0 0 0)))))))) := by rw [kf_293.eq_2, if_pos (show (0 : Nat) = 0 from rfl)]
set_option maxRecDepth 100000 in
theorem ke_293_1 (n : Nat) (dp : Nat) (e : EN) (I : JI) (L : JI) (i1 : Int) (i2 : Int) (i3 : Int) (i4 : Int) : kf_293 (n + 1) dp e 1 I L i1 i2 i3 i4 = (if i1 ≤ i3 then (if 1 ≤ dp then ((kf_194 n (dp - 1) e 0 I L i2).bind (fun ⟨x0_209, I0_209, L0_209⟩ => (some ((x0_209 : Int), I0_209, L0_209)))) else none) else (if -2147483648 ≤ i3 + 5 ∧ i3 + 5 ≤ 2147483647 then (if i1 ≤ (i3 + 5) then (kf_293 n dp e 2 I L i1 i2 i3 0) else (if 16 ≤ (I 107 6) then (kf_293 n dp e 2 I L i1 i2 i3 0) else (if (1 : Int) = 0 then (kf_293 n dp e 3 I L i1 i2 i3 1) else (if 0 ≤ i3 ∧ i3 < 400 then (if -2147483648 ≤ i3 + 1 ∧ i3 + 1 ≤ 2147483647 then (if 0 ≤ (i3 + 1) ∧ (i3 + 1) < 400 then (if -2147483648 ≤ i3 + 2 ∧ i3 + 2 ≤ 2147483647 then (if 0 ≤ (i3 + 2) ∧ (i3 + 2) < 400 then (if -2147483648 ≤ i3 + 3 ∧ i3 + 3 ≤ 2147483647 then (if 0 ≤ (i3 + 3) ∧ (i3 + 3) < 400 then (if -2147483648 ≤ i3 + 4 ∧ i3 + 4 ≤ 2147483647 then (if 0 ≤ (i3 + 4) ∧ (i3 + 4) < 400 then (if 0 ≤ (i3 + 5) ∧ (i3 + 5) < 400 then (if 1 ≤ dp then ((kf_289 n (dp - 1) e 0 I L (I 110 i3) (I 110 (i3 + 1)) (I 110 (i3 + 2)) (I 110 (i3 + 3)) (I 110 (i3 + 4)) (I 110 (i3 + 5))).bind (fun ⟨x0_117, I0_117, L0_117⟩ => (if x0_117 = 0 then (kf_293 n dp e 3 I0_117 L0_117 i1 i2 i3 1) else (if (1 : Int) = 0 then (if -2147483648 ≤ (I0_117 105 63) + 1 ∧ (I0_117 105 63) + 1 ≤ 2147483647 then (stI (w2 I0_117 105 63 ((I0_117 105 63) + 1)) (fun I_198 => (kf_293 n dp e 4 I_198 L0_117 i1 i2 i3 1))) else none) else (if 0 ≤ i3 ∧ i3 < 400 then (if 0 ≤ (i3 + 1) ∧ (i3 + 1) < 400 then (if 0 ≤ (i3 + 2) ∧ (i3 + 2) < 400 then (if 0 ≤ (i3 + 3) ∧ (i3 + 3) < 400 then (if 0 ≤ (i3 + 4) ∧ (i3 + 4) < 400 then (if 0 ≤ (i3 + 5) ∧ (i3 + 5) < 400 then (if 1 ≤ dp then ((kf_290 n (dp - 1) e 0 I0_117 L0_117 (I0_117 110 i3) (I0_117 110 (i3 + 1)) (I0_117 110 (i3 + 2)) (I0_117 110 (i3 + 3)) (I0_117 110 (i3 + 4)) (I0_117 110 (i3 + 5))).bind (fun ⟨I1_182, L1_182⟩ => (if -2147483648 ≤ i2 + 1 ∧ i2 + 1 ≤ 2147483647 then (kf_293 n dp e 4 I1_182 L1_182 i1 (i2 + 1) i3 1) else none))) else none) else none) else none) else none) else none) else none) else none))))) else none) else none) else none) else none) else none) else none) else none) else none) else none) else none) else none)))) else none)) := by rw [kf_293.eq_2, if_neg (show ¬ ((1 : Nat) = 0) by decide), if_pos (show (1 : Nat) = 1 from rfl)]
set_option maxRecDepth 100000 in
theorem ke_293_2 (n : Nat) (dp : Nat) (e : EN) (I : JI) (L : JI) (i1 : Int) (i2 : Int) (i3 : Int) (i4 : Int) : kf_293 (n + 1) dp e 2 I L i1 i2 i3 i4 = (if (0 : Int) = 0 then (kf_293 n dp e 3 I L i1 i2 i3 0) else (if 0 ≤ i3 ∧ i3 < 400 then (if -2147483648 ≤ i3 + 1 ∧ i3 + 1 ≤ 2147483647 then (if 0 ≤ (i3 + 1) ∧ (i3 + 1) < 400 then (if -2147483648 ≤ i3 + 2 ∧ i3 + 2 ≤ 2147483647 then (if 0 ≤ (i3 + 2) ∧ (i3 + 2) < 400 then (if -2147483648 ≤ i3 + 3 ∧ i3 + 3 ≤ 2147483647 then (if 0 ≤ (i3 + 3) ∧ (i3 + 3) < 400 then (if -2147483648 ≤ i3 + 4 ∧ i3 + 4 ≤ 2147483647 then (if 0 ≤ (i3 + 4) ∧ (i3 + 4) < 400 then (if -2147483648 ≤ i3 + 5 ∧ i3 + 5 ≤ 2147483647 then (if 0 ≤ (i3 + 5) ∧ (i3 + 5) < 400 then (if 1 ≤ dp then ((kf_289 n (dp - 1) e 0 I L (I 110 i3) (I 110 (i3 + 1)) (I 110 (i3 + 2)) (I 110 (i3 + 3)) (I 110 (i3 + 4)) (I 110 (i3 + 5))).bind (fun ⟨x0_117, I0_117, L0_117⟩ => (if x0_117 = 0 then (kf_293 n dp e 3 I0_117 L0_117 i1 i2 i3 0) else (if (1 : Int) = 0 then (if -2147483648 ≤ (I0_117 105 63) + 1 ∧ (I0_117 105 63) + 1 ≤ 2147483647 then (stI (w2 I0_117 105 63 ((I0_117 105 63) + 1)) (fun I_198 => (kf_293 n dp e 4 I_198 L0_117 i1 i2 i3 1))) else none) else (if 0 ≤ i3 ∧ i3 < 400 then (if 0 ≤ (i3 + 1) ∧ (i3 + 1) < 400 then (if 0 ≤ (i3 + 2) ∧ (i3 + 2) < 400 then (if 0 ≤ (i3 + 3) ∧ (i3 + 3) < 400 then (if 0 ≤ (i3 + 4) ∧ (i3 + 4) < 400 then (if 0 ≤ (i3 + 5) ∧ (i3 + 5) < 400 then (if 1 ≤ dp then ((kf_290 n (dp - 1) e 0 I0_117 L0_117 (I0_117 110 i3) (I0_117 110 (i3 + 1)) (I0_117 110 (i3 + 2)) (I0_117 110 (i3 + 3)) (I0_117 110 (i3 + 4)) (I0_117 110 (i3 + 5))).bind (fun ⟨I1_182, L1_182⟩ => (if -2147483648 ≤ i2 + 1 ∧ i2 + 1 ≤ 2147483647 then (kf_293 n dp e 4 I1_182 L1_182 i1 (i2 + 1) i3 1) else none))) else none) else none) else none) else none) else none) else none) else none))))) else none) else none) else none) else none) else none) else none) else none) else none) else none) else none) else none) else none)) := by rw [kf_293.eq_2, if_neg (show ¬ ((2 : Nat) = 0) by decide), if_neg (show ¬ ((2 : Nat) = 1) by decide), if_pos (show (2 : Nat) = 2 from rfl)]
set_option maxRecDepth 100000 in
theorem ke_293_3 (n : Nat) (dp : Nat) (e : EN) (I : JI) (L : JI) (i1 : Int) (i2 : Int) (i3 : Int) (i4 : Int) : kf_293 (n + 1) dp e 3 I L i1 i2 i3 i4 = (if (0 : Int) = 0 then (if -2147483648 ≤ (I 105 63) + 1 ∧ (I 105 63) + 1 ≤ 2147483647 then (stI (w2 I 105 63 ((I 105 63) + 1)) (fun I_198 => (kf_293 n dp e 4 I_198 L i1 i2 i3 0))) else none) else (if 0 ≤ i3 ∧ i3 < 400 then (if -2147483648 ≤ i3 + 1 ∧ i3 + 1 ≤ 2147483647 then (if 0 ≤ (i3 + 1) ∧ (i3 + 1) < 400 then (if -2147483648 ≤ i3 + 2 ∧ i3 + 2 ≤ 2147483647 then (if 0 ≤ (i3 + 2) ∧ (i3 + 2) < 400 then (if -2147483648 ≤ i3 + 3 ∧ i3 + 3 ≤ 2147483647 then (if 0 ≤ (i3 + 3) ∧ (i3 + 3) < 400 then (if -2147483648 ≤ i3 + 4 ∧ i3 + 4 ≤ 2147483647 then (if 0 ≤ (i3 + 4) ∧ (i3 + 4) < 400 then (if -2147483648 ≤ i3 + 5 ∧ i3 + 5 ≤ 2147483647 then (if 0 ≤ (i3 + 5) ∧ (i3 + 5) < 400 then (if 1 ≤ dp then ((kf_290 n (dp - 1) e 0 I L (I 110 i3) (I 110 (i3 + 1)) (I 110 (i3 + 2)) (I 110 (i3 + 3)) (I 110 (i3 + 4)) (I 110 (i3 + 5))).bind (fun ⟨I0_182, L0_182⟩ => (if -2147483648 ≤ i2 + 1 ∧ i2 + 1 ≤ 2147483647 then (kf_293 n dp e 4 I0_182 L0_182 i1 (i2 + 1) i3 0) else none))) else none) else none) else none) else none) else none) else none) else none) else none) else none) else none) else none) else none)) := by rw [kf_293.eq_2, if_neg (show ¬ ((3 : Nat) = 0) by decide), if_neg (show ¬ ((3 : Nat) = 1) by decide), if_neg (show ¬ ((3 : Nat) = 2) by decide), if_pos (show (3 : Nat) = 3 from rfl)]
set_option maxRecDepth 100000 in
theorem ke_293_4 (n : Nat) (dp : Nat) (e : EN) (I : JI) (L : JI) (i1 : Int) (i2 : Int) (i3 : Int) (i4 : Int) : kf_293 (n + 1) dp e 4 I L i1 i2 i3 i4 = (if -2147483648 ≤ i3 + 6 ∧ i3 + 6 ≤ 2147483647 then (kf_293 n dp e 1 I L i1 i2 (i3 + 6) 0) else none) := by rw [kf_293.eq_2, if_neg (show ¬ ((4 : Nat) = 0) by decide), if_neg (show ¬ ((4 : Nat) = 1) by decide), if_neg (show ¬ ((4 : Nat) = 2) by decide), if_neg (show ¬ ((4 : Nat) = 3) by decide), if_pos (show (4 : Nat) = 4 from rfl)]
set_option maxHeartbeats 8000000 in
set_option maxRecDepth 100000 in
theorem ks_293 : ∀ (n : Nat) (dp : Nat) (e : EN) (lab : Nat) (I : Nat → Nat → Int32) (I' : JI) (L : Nat → Nat → Int64) (L' : JI) (i1 : Int32) (i1' : Int) (i2 : Int32) (i2' : Int) (i3 : Int32) (i3' : Int) (i4 : Int32) (i4' : Int), Rli I I' → Rll L L' → Ui i1 i1' → Ui i2 i2' → Ui i3 i3' → Ui i4 i4' → Sim R3 (g_293 n dp e lab I L i1 i2 i3 i4) (kf_293 n dp e lab I' L' i1' i2' i3' i4') := by
  intro n
  induction n with
  | zero => intros; rw [kf_293.eq_1]; exact Sn
  | succ n ih =>
    intro dp e lab I I' L L' i1 i1' i2 i2' i3 i3' i4 i4' u_I u_L u_i1 u_i2 u_i3 u_i4
    rw [g_293.eq_2, kf_293.eq_2]
    refine Sc Iff.rfl (fun _ => ?_) (fun _ => ?_)
    · refine SsJ (ri_up u_I (rfl : ((0 : Nat) : Int) = 0) (rfl : Ui (0) (0))) (fun I_2 I_2' u_I_2 => ?_)
      refine SsJ (ri_up u_I_2 (rfl : ((7 : Nat) : Int) = 7) (rfl : Ui (0) (0))) (fun I_12 I_12' u_I_12 => ?_)
      refine Sc (eq_up (u_I_2 105 7) (rfl : Ui 0 0)) (fun c1 => ?_) (fun c1 => ?_)
      · refine Sc Iff.rfl (fun c2 => ?_) (fun _ => Sn)
        refine Sb3 (ks_194 n (dp - 1) e 0 _ _ _ _ _ _ u_I_12 u_L (rfl : Ui (-6) (-6))) (fun x0_22 x0_22' I0_22 I0_22' L0_22 L0_22' u_x0_22 u_I0_22 u_L0_22 => ?_)
        exact Sr ⟨u_x0_22, u_I0_22, u_L0_22⟩
      · refine SsJ (ri_up u_I_12 (rfl : ((63 : Nat) : Int) = 63) (rfl : Ui (0) (0))) (fun I_28 I_28' u_I_28 => ?_)
        exact (ih dp e 1 _ _ _ _ _ _ _ _ _ _ _ _ u_I_28 u_L (u_I_2 105 7) (rfl : Ui (0) (0)) (rfl : Ui (0) (0)) (rfl : Ui 0 0))
    refine Sc Iff.rfl (fun _ => ?_) (fun _ => ?_)
    · refine Sc (le_up u_i1 u_i3) (fun c1 => ?_) (fun c1 => ?_)
      · refine Sc Iff.rfl (fun c2 => ?_) (fun _ => Sn)
        refine Sb3 (ks_194 n (dp - 1) e 0 _ _ _ _ _ _ u_I u_L u_i2) (fun x0_209 x0_209' I0_209 I0_209' L0_209 L0_209' u_x0_209 u_I0_209 u_L0_209 => ?_)
        exact Sr ⟨u_x0_209, u_I0_209, u_L0_209⟩
      · refine Sg (fun g3 => ?_)
        refine Sc (le_up u_i1 (ui_add u_i3 (rfl : Ui (5) (5)) g3)) (fun c4 => ?_) (fun c4 => ?_)
        · exact (ih dp e 2 _ _ _ _ _ _ _ _ _ _ _ _ u_I u_L u_i1 u_i2 u_i3 (rfl : Ui 0 0))
        · refine Sc (le_up (rfl : Ui (16) (16)) (u_I 107 6)) (fun c5 => ?_) (fun c5 => ?_)
          · exact (ih dp e 2 _ _ _ _ _ _ _ _ _ _ _ _ u_I u_L u_i1 u_i2 u_i3 (rfl : Ui 0 0))
          · refine Sc (eq_up (rfl : Ui (1) (1)) (rfl : Ui 0 0)) (fun c6 => ?_) (fun c6 => ?_)
            · exact (ih dp e 3 _ _ _ _ _ _ _ _ _ _ _ _ u_I u_L u_i1 u_i2 u_i3 (rfl : Ui (1) (1)))
            · refine Sc (ix_up u_i3) (fun c7 => ?_) (fun _ => Sn)
              refine Sg (fun g8 => ?_)
              refine Sc (ix_up (ui_add u_i3 (rfl : Ui (1) (1)) g8)) (fun c9 => ?_) (fun _ => Sn)
              refine Sg (fun g10 => ?_)
              refine Sc (ix_up (ui_add u_i3 (rfl : Ui (2) (2)) g10)) (fun c11 => ?_) (fun _ => Sn)
              refine Sg (fun g12 => ?_)
              refine Sc (ix_up (ui_add u_i3 (rfl : Ui (3) (3)) g12)) (fun c13 => ?_) (fun _ => Sn)
              refine Sg (fun g14 => ?_)
              refine Sc (ix_up (ui_add u_i3 (rfl : Ui (4) (4)) g14)) (fun c15 => ?_) (fun _ => Sn)
              refine Sc (ix_up (ui_add u_i3 (rfl : Ui (5) (5)) g3)) (fun c16 => ?_) (fun _ => Sn)
              refine Sc Iff.rfl (fun c17 => ?_) (fun _ => Sn)
              refine Sb3 (ks_289 n (dp - 1) e 0 _ _ _ _ _ _ _ _ _ _ _ _ _ _ _ _ u_I u_L (ui_rd (a := 110) u_I u_i3 c7.1) (ui_rd (a := 110) u_I (ui_add u_i3 (rfl : Ui (1) (1)) g8) c9.1) (ui_rd (a := 110) u_I (ui_add u_i3 (rfl : Ui (2) (2)) g10) c11.1) (ui_rd (a := 110) u_I (ui_add u_i3 (rfl : Ui (3) (3)) g12) c13.1) (ui_rd (a := 110) u_I (ui_add u_i3 (rfl : Ui (4) (4)) g14) c15.1) (ui_rd (a := 110) u_I (ui_add u_i3 (rfl : Ui (5) (5)) g3) c16.1)) (fun x0_117 x0_117' I0_117 I0_117' L0_117 L0_117' u_x0_117 u_I0_117 u_L0_117 => ?_)
              refine Sc (eq_up u_x0_117 (rfl : Ui 0 0)) (fun c18 => ?_) (fun c18 => ?_)
              · exact (ih dp e 3 _ _ _ _ _ _ _ _ _ _ _ _ u_I0_117 u_L0_117 u_i1 u_i2 u_i3 (rfl : Ui (1) (1)))
              · refine Sc (eq_up (rfl : Ui (1) (1)) (rfl : Ui 0 0)) (fun c19 => ?_) (fun c19 => ?_)
                · refine Sg (fun g20 => ?_)
                  refine SsJ (ri_up u_I0_117 (rfl : ((63 : Nat) : Int) = 63) (ui_add (u_I0_117 105 63) (rfl : Ui (1) (1)) g20)) (fun I_198 I_198' u_I_198 => ?_)
                  exact (ih dp e 4 _ _ _ _ _ _ _ _ _ _ _ _ u_I_198 u_L0_117 u_i1 u_i2 u_i3 (rfl : Ui (1) (1)))
                · refine Sc (ix_up u_i3) (fun c21 => ?_) (fun _ => Sn)
                  refine Sc (ix_up (ui_add u_i3 (rfl : Ui (1) (1)) g8)) (fun c22 => ?_) (fun _ => Sn)
                  refine Sc (ix_up (ui_add u_i3 (rfl : Ui (2) (2)) g10)) (fun c23 => ?_) (fun _ => Sn)
                  refine Sc (ix_up (ui_add u_i3 (rfl : Ui (3) (3)) g12)) (fun c24 => ?_) (fun _ => Sn)
                  refine Sc (ix_up (ui_add u_i3 (rfl : Ui (4) (4)) g14)) (fun c25 => ?_) (fun _ => Sn)
                  refine Sc (ix_up (ui_add u_i3 (rfl : Ui (5) (5)) g3)) (fun c26 => ?_) (fun _ => Sn)
                  refine Sc Iff.rfl (fun c27 => ?_) (fun _ => Sn)
                  refine Sb2 (ks_290 n (dp - 1) e 0 _ _ _ _ _ _ _ _ _ _ _ _ _ _ _ _ u_I0_117 u_L0_117 (ui_rd (a := 110) u_I0_117 u_i3 c21.1) (ui_rd (a := 110) u_I0_117 (ui_add u_i3 (rfl : Ui (1) (1)) g8) c22.1) (ui_rd (a := 110) u_I0_117 (ui_add u_i3 (rfl : Ui (2) (2)) g10) c23.1) (ui_rd (a := 110) u_I0_117 (ui_add u_i3 (rfl : Ui (3) (3)) g12) c24.1) (ui_rd (a := 110) u_I0_117 (ui_add u_i3 (rfl : Ui (4) (4)) g14) c25.1) (ui_rd (a := 110) u_I0_117 (ui_add u_i3 (rfl : Ui (5) (5)) g3) c26.1)) (fun I1_182 I1_182' L1_182 L1_182' u_I1_182 u_L1_182 => ?_)
                  refine Sg (fun g28 => ?_)
                  exact (ih dp e 4 _ _ _ _ _ _ _ _ _ _ _ _ u_I1_182 u_L1_182 u_i1 (ui_add u_i2 (rfl : Ui (Int32.ofInt (1)) (1)) g28) u_i3 (rfl : Ui (1) (1)))
    refine Sc Iff.rfl (fun _ => ?_) (fun _ => ?_)
    · refine Sc (eq_up (rfl : Ui (0) (0)) (rfl : Ui 0 0)) (fun c1 => ?_) (fun c1 => ?_)
      · exact (ih dp e 3 _ _ _ _ _ _ _ _ _ _ _ _ u_I u_L u_i1 u_i2 u_i3 (rfl : Ui (0) (0)))
      · refine Sc (ix_up u_i3) (fun c2 => ?_) (fun _ => Sn)
        refine Sg (fun g3 => ?_)
        refine Sc (ix_up (ui_add u_i3 (rfl : Ui (1) (1)) g3)) (fun c4 => ?_) (fun _ => Sn)
        refine Sg (fun g5 => ?_)
        refine Sc (ix_up (ui_add u_i3 (rfl : Ui (2) (2)) g5)) (fun c6 => ?_) (fun _ => Sn)
        refine Sg (fun g7 => ?_)
        refine Sc (ix_up (ui_add u_i3 (rfl : Ui (3) (3)) g7)) (fun c8 => ?_) (fun _ => Sn)
        refine Sg (fun g9 => ?_)
        refine Sc (ix_up (ui_add u_i3 (rfl : Ui (4) (4)) g9)) (fun c10 => ?_) (fun _ => Sn)
        refine Sg (fun g11 => ?_)
        refine Sc (ix_up (ui_add u_i3 (rfl : Ui (5) (5)) g11)) (fun c12 => ?_) (fun _ => Sn)
        refine Sc Iff.rfl (fun c13 => ?_) (fun _ => Sn)
        refine Sb3 (ks_289 n (dp - 1) e 0 _ _ _ _ _ _ _ _ _ _ _ _ _ _ _ _ u_I u_L (ui_rd (a := 110) u_I u_i3 c2.1) (ui_rd (a := 110) u_I (ui_add u_i3 (rfl : Ui (1) (1)) g3) c4.1) (ui_rd (a := 110) u_I (ui_add u_i3 (rfl : Ui (2) (2)) g5) c6.1) (ui_rd (a := 110) u_I (ui_add u_i3 (rfl : Ui (3) (3)) g7) c8.1) (ui_rd (a := 110) u_I (ui_add u_i3 (rfl : Ui (4) (4)) g9) c10.1) (ui_rd (a := 110) u_I (ui_add u_i3 (rfl : Ui (5) (5)) g11) c12.1)) (fun x0_117 x0_117' I0_117 I0_117' L0_117 L0_117' u_x0_117 u_I0_117 u_L0_117 => ?_)
        refine Sc (eq_up u_x0_117 (rfl : Ui 0 0)) (fun c14 => ?_) (fun c14 => ?_)
        · exact (ih dp e 3 _ _ _ _ _ _ _ _ _ _ _ _ u_I0_117 u_L0_117 u_i1 u_i2 u_i3 (rfl : Ui (0) (0)))
        · refine Sc (eq_up (rfl : Ui (1) (1)) (rfl : Ui 0 0)) (fun c15 => ?_) (fun c15 => ?_)
          · refine Sg (fun g16 => ?_)
            refine SsJ (ri_up u_I0_117 (rfl : ((63 : Nat) : Int) = 63) (ui_add (u_I0_117 105 63) (rfl : Ui (1) (1)) g16)) (fun I_198 I_198' u_I_198 => ?_)
            exact (ih dp e 4 _ _ _ _ _ _ _ _ _ _ _ _ u_I_198 u_L0_117 u_i1 u_i2 u_i3 (rfl : Ui (1) (1)))
          · refine Sc (ix_up u_i3) (fun c17 => ?_) (fun _ => Sn)
            refine Sc (ix_up (ui_add u_i3 (rfl : Ui (1) (1)) g3)) (fun c18 => ?_) (fun _ => Sn)
            refine Sc (ix_up (ui_add u_i3 (rfl : Ui (2) (2)) g5)) (fun c19 => ?_) (fun _ => Sn)
            refine Sc (ix_up (ui_add u_i3 (rfl : Ui (3) (3)) g7)) (fun c20 => ?_) (fun _ => Sn)
            refine Sc (ix_up (ui_add u_i3 (rfl : Ui (4) (4)) g9)) (fun c21 => ?_) (fun _ => Sn)
            refine Sc (ix_up (ui_add u_i3 (rfl : Ui (5) (5)) g11)) (fun c22 => ?_) (fun _ => Sn)
            refine Sc Iff.rfl (fun c23 => ?_) (fun _ => Sn)
            refine Sb2 (ks_290 n (dp - 1) e 0 _ _ _ _ _ _ _ _ _ _ _ _ _ _ _ _ u_I0_117 u_L0_117 (ui_rd (a := 110) u_I0_117 u_i3 c17.1) (ui_rd (a := 110) u_I0_117 (ui_add u_i3 (rfl : Ui (1) (1)) g3) c18.1) (ui_rd (a := 110) u_I0_117 (ui_add u_i3 (rfl : Ui (2) (2)) g5) c19.1) (ui_rd (a := 110) u_I0_117 (ui_add u_i3 (rfl : Ui (3) (3)) g7) c20.1) (ui_rd (a := 110) u_I0_117 (ui_add u_i3 (rfl : Ui (4) (4)) g9) c21.1) (ui_rd (a := 110) u_I0_117 (ui_add u_i3 (rfl : Ui (5) (5)) g11) c22.1)) (fun I1_182 I1_182' L1_182 L1_182' u_I1_182 u_L1_182 => ?_)
            refine Sg (fun g24 => ?_)
            exact (ih dp e 4 _ _ _ _ _ _ _ _ _ _ _ _ u_I1_182 u_L1_182 u_i1 (ui_add u_i2 (rfl : Ui (Int32.ofInt (1)) (1)) g24) u_i3 (rfl : Ui (1) (1)))
    refine Sc Iff.rfl (fun _ => ?_) (fun _ => ?_)
    · refine Sc (eq_up (rfl : Ui (0) (0)) (rfl : Ui 0 0)) (fun c1 => ?_) (fun c1 => ?_)
      · refine Sg (fun g2 => ?_)
        refine SsJ (ri_up u_I (rfl : ((63 : Nat) : Int) = 63) (ui_add (u_I 105 63) (rfl : Ui (1) (1)) g2)) (fun I_198 I_198' u_I_198 => ?_)
        exact (ih dp e 4 _ _ _ _ _ _ _ _ _ _ _ _ u_I_198 u_L u_i1 u_i2 u_i3 (rfl : Ui (0) (0)))
      · refine Sc (ix_up u_i3) (fun c3 => ?_) (fun _ => Sn)
        refine Sg (fun g4 => ?_)
        refine Sc (ix_up (ui_add u_i3 (rfl : Ui (1) (1)) g4)) (fun c5 => ?_) (fun _ => Sn)
        refine Sg (fun g6 => ?_)
        refine Sc (ix_up (ui_add u_i3 (rfl : Ui (2) (2)) g6)) (fun c7 => ?_) (fun _ => Sn)
        refine Sg (fun g8 => ?_)
        refine Sc (ix_up (ui_add u_i3 (rfl : Ui (3) (3)) g8)) (fun c9 => ?_) (fun _ => Sn)
        refine Sg (fun g10 => ?_)
        refine Sc (ix_up (ui_add u_i3 (rfl : Ui (4) (4)) g10)) (fun c11 => ?_) (fun _ => Sn)
        refine Sg (fun g12 => ?_)
        refine Sc (ix_up (ui_add u_i3 (rfl : Ui (5) (5)) g12)) (fun c13 => ?_) (fun _ => Sn)
        refine Sc Iff.rfl (fun c14 => ?_) (fun _ => Sn)
        refine Sb2 (ks_290 n (dp - 1) e 0 _ _ _ _ _ _ _ _ _ _ _ _ _ _ _ _ u_I u_L (ui_rd (a := 110) u_I u_i3 c3.1) (ui_rd (a := 110) u_I (ui_add u_i3 (rfl : Ui (1) (1)) g4) c5.1) (ui_rd (a := 110) u_I (ui_add u_i3 (rfl : Ui (2) (2)) g6) c7.1) (ui_rd (a := 110) u_I (ui_add u_i3 (rfl : Ui (3) (3)) g8) c9.1) (ui_rd (a := 110) u_I (ui_add u_i3 (rfl : Ui (4) (4)) g10) c11.1) (ui_rd (a := 110) u_I (ui_add u_i3 (rfl : Ui (5) (5)) g12) c13.1)) (fun I0_182 I0_182' L0_182 L0_182' u_I0_182 u_L0_182 => ?_)
        refine Sg (fun g15 => ?_)
        exact (ih dp e 4 _ _ _ _ _ _ _ _ _ _ _ _ u_I0_182 u_L0_182 u_i1 (ui_add u_i2 (rfl : Ui (Int32.ofInt (1)) (1)) g15) u_i3 (rfl : Ui (0) (0)))
    refine Sc Iff.rfl (fun _ => ?_) (fun _ => ?_)
    · refine Sg (fun g1 => ?_)
      exact (ih dp e 1 _ _ _ _ _ _ _ _ _ _ _ _ u_I u_L u_i1 u_i2 (ui_add u_i3 (rfl : Ui (Int32.ofInt (6)) (6)) g1) (rfl : Ui 0 0))
    exact Sn
set_option maxHeartbeats 4000000 in
set_option maxRecDepth 100000 in
def kf_294 : Nat → Nat → EN → Nat → JI → JI → Option (Int × JI × JI)
  | 0, _, _, _, _, _ => none
  | n + 1, dp, e, lab, I, L =>
    if lab = 0 then (stI (w2 I 105 0 0) (fun I_2 => (some (((I_2 105 63) : Int), I_2, L))))
    else none
set_option maxRecDepth 100000 in
theorem ke_294_0 (n : Nat) (dp : Nat) (e : EN) (I : JI) (L : JI) : kf_294 (n + 1) dp e 0 I L = (stI (w2 I 105 0 0) (fun I_2 => (some (((I_2 105 63) : Int), I_2, L)))) := by rw [kf_294.eq_2, if_pos (show (0 : Nat) = 0 from rfl)]
set_option maxHeartbeats 8000000 in
set_option maxRecDepth 100000 in
theorem ks_294 : ∀ (n : Nat) (dp : Nat) (e : EN) (lab : Nat) (I : Nat → Nat → Int32) (I' : JI) (L : Nat → Nat → Int64) (L' : JI), Rli I I' → Rll L L' → Sim R3 (g_294 n dp e lab I L) (kf_294 n dp e lab I' L') := by
  intro n
  induction n with
  | zero => intros; rw [kf_294.eq_1]; exact Sn
  | succ n ih =>
    intro dp e lab I I' L L' u_I u_L
    rw [g_294.eq_2, kf_294.eq_2]
    refine Sc Iff.rfl (fun _ => ?_) (fun _ => ?_)
    · refine SsJ (ri_up u_I (rfl : ((0 : Nat) : Int) = 0) (rfl : Ui (0) (0))) (fun I_2 I_2' u_I_2 => ?_)
      exact Sr ⟨(u_I_2 105 63), u_I_2, u_L⟩
    exact Sn
set_option maxHeartbeats 4000000 in
set_option maxRecDepth 100000 in
def kf_295 : Nat → Nat → EN → Nat → JI → JI → Int → Int → Int → Int → Int → Int → Int → Int → Int → Int → Int → Int → Option (Int × JI × JI)
  | 0, _, _, _, _, _, _, _, _, _, _, _, _, _, _, _, _, _ => none
  | n + 1, dp, e, lab, I, L, i1, i2, i3, i4, i5, i6, i7, i8, i9, i10, i11, i12 =>
    if lab = 0 then (stI (w2 I 105 0 0) (fun I_2 => (if 1 ≤ dp then ((kf_193 n (dp - 1) e 0 I_2 L i1 1 1584).bind (fun ⟨x0_11, I0_11, L0_11⟩ => (if x0_11 = 0 then (some (((-1) : Int), I0_11, L0_11)) else (if 1 ≤ dp then ((kf_193 n (dp - 1) e 0 I0_11 L0_11 i2 1 1584).bind (fun ⟨x1_23, I1_23, L1_23⟩ => (if x1_23 = 0 then (some (((-1) : Int), I1_23, L1_23)) else (if 1 ≤ dp then ((kf_193 n (dp - 1) e 0 I1_23 L1_23 i3 0 100).bind (fun ⟨x2_35, I2_35, L2_35⟩ => (if x2_35 = 0 then (some (((-1) : Int), I2_35, L2_35)) else (if 1 ≤ dp then ((kf_193 n (dp - 1) e 0 I2_35 L2_35 i4 0 2).bind (fun ⟨x3_48, I3_48, L3_48⟩ => (if x3_48 = 0 then (some (((-1) : Int), I3_48, L3_48)) else (kf_295 n dp e 1 I3_48 L3_48 i1 i2 i3 i4 0 1000000000 (-1) 0 0 0 0 0)))) else none)))) else none)))) else none)))) else none)))
    else if lab = 1 then (if (I 107 6) ≤ i9 then (kf_295 n dp e 2 I L i1 i2 i3 i4 i5 i6 i7 i8 1 0 0 0) else (if 1 ≤ dp then ((kf_292 n (dp - 1) e 0 I L i9 6).bind (fun ⟨x0_92, I0_92, L0_92⟩ => (if x0_92 = 1 then (stI (bO i8 (bL 1 i9)) (fun v_108 => (if -2147483648 ≤ i9 + 1 ∧ i9 + 1 ≤ 2147483647 then (kf_295 n dp e 1 I0_92 L0_92 i1 i2 i3 i4 i5 i6 i7 v_108 (i9 + 1) 0 0 0) else none))) else (if -2147483648 ≤ i9 + 1 ∧ i9 + 1 ≤ 2147483647 then (kf_295 n dp e 1 I0_92 L0_92 i1 i2 i3 i4 i5 i6 i7 (bO i8 0) (i9 + 1) 0 0 0) else none)))) else none))
    else if lab = 2 then (if (bL 1 (I 107 6)) ≤ i9 then (if i4 = 2 then (some ((i5 : Int), I, L)) else (if i7 = (-1) then (some (((-1) : Int), I, L)) else (if i4 = 0 then (some ((i6 : Int), I, L)) else (some ((i7 : Int), I, L))))) else (if (bA i9 (bX i8 (-1))) = 0 then (kf_295 n dp e 3 I L i1 i2 i3 i4 i5 i6 i7 i8 i9 0 0 0) else (kf_295 n dp e 5 I L i1 i2 i3 i4 i5 i6 i7 i8 i9 0 0 0)))
    else if lab = 3 then (if (I 107 6) ≤ i12 then (if 1 ≤ dp then ((kf_193 n (dp - 1) e 0 I L i10 i1 i2).bind (fun ⟨x0_219, I0_219, L0_219⟩ => (if x0_219 = 0 then (kf_295 n dp e 5 I0_219 L0_219 i1 i2 i3 i4 i5 i6 i7 i8 i9 0 0 0) else (if -2147483648 ≤ i3 * i10 ∧ i3 * i10 ≤ 2147483647 then (if i11 < (i3 * i10) then (kf_295 n dp e 5 I0_219 L0_219 i1 i2 i3 i4 i5 i6 i7 i8 i9 0 0 0) else (if -2147483648 ≤ i11 - (i3 * i10) ∧ i11 - (i3 * i10) ≤ 2147483647 then (if i6 ≤ (i11 - (i3 * i10)) then (if i6 ≤ (i11 - (i3 * i10)) then (if -2147483648 ≤ i5 + 1 ∧ i5 + 1 ≤ 2147483647 then (kf_295 n dp e 5 I0_219 L0_219 i1 i2 i3 i4 (i5 + 1) i6 i7 i8 i9 0 0 0) else none) else (if -2147483648 ≤ i5 + 1 ∧ i5 + 1 ≤ 2147483647 then (kf_295 n dp e 5 I0_219 L0_219 i1 i2 i3 i4 (i5 + 1) (i11 - (i3 * i10)) i7 i8 i9 0 0 0) else none)) else (if i6 ≤ (i11 - (i3 * i10)) then (if -2147483648 ≤ i5 + 1 ∧ i5 + 1 ≤ 2147483647 then (kf_295 n dp e 5 I0_219 L0_219 i1 i2 i3 i4 (i5 + 1) i6 i9 i8 i9 0 0 0) else none) else (if -2147483648 ≤ i5 + 1 ∧ i5 + 1 ≤ 2147483647 then (kf_295 n dp e 5 I0_219 L0_219 i1 i2 i3 i4 (i5 + 1) (i11 - (i3 * i10)) i9 i8 i9 0 0 0) else none))) else none)) else none)))) else none) else (if 1 ≤ dp then ((kf_287 n (dp - 1) e 0 I L i9 i12).bind (fun ⟨x0_168, I0_168, L0_168⟩ => (if x0_168 = 0 then (kf_295 n dp e 4 I0_168 L0_168 i1 i2 i3 i4 i5 i6 i7 i8 i9 i10 i11 i12) else (if 1 ≤ dp then ((kf_292 n (dp - 1) e 0 I0_168 L0_168 i12 0).bind (fun ⟨x1_180, I1_180, L1_180⟩ => (if 1 ≤ dp then ((kf_292 n (dp - 1) e 0 I1_180 L1_180 i12 0).bind (fun ⟨x2_192, I2_192, L2_192⟩ => (if 1 ≤ dp then ((kf_292 n (dp - 1) e 0 I2_192 L2_192 i12 1).bind (fun ⟨x3_199, I3_199, L3_199⟩ => (if (-2147483648 ≤ x2_192 * x3_199 ∧ x2_192 * x3_199 ≤ 2147483647) ∧ (-2147483648 ≤ i11 + (x2_192 * x3_199) ∧ i11 + (x2_192 * x3_199) ≤ 2147483647) then (stI (i11 + (x2_192 * x3_199)) (fun v_204 => (if -2147483648 ≤ i10 + x1_180 ∧ i10 + x1_180 ≤ 2147483647 then (kf_295 n dp e 4 I3_199 L3_199 i1 i2 i3 i4 i5 i6 i7 i8 i9 (i10 + x1_180) v_204 i12) else none))) else none))) else none))) else none))) else none)))) else none))
    else if lab = 4 then (if -2147483648 ≤ i12 + 1 ∧ i12 + 1 ≤ 2147483647 then (kf_295 n dp e 3 I L i1 i2 i3 i4 i5 i6 i7 i8 i9 i10 i11 (i12 + 1)) else none)
    else if lab = 5 then (if -2147483648 ≤ i9 + 1 ∧ i9 + 1 ≤ 2147483647 then (kf_295 n dp e 2 I L i1 i2 i3 i4 i5 i6 i7 i8 (i9 + 1) 0 0 0) else none)
    else none
set_option maxRecDepth 100000 in
theorem ke_295_0 (n : Nat) (dp : Nat) (e : EN) (I : JI) (L : JI) (i1 : Int) (i2 : Int) (i3 : Int) (i4 : Int) (i5 : Int) (i6 : Int) (i7 : Int) (i8 : Int) (i9 : Int) (i10 : Int) (i11 : Int) (i12 : Int) : kf_295 (n + 1) dp e 0 I L i1 i2 i3 i4 i5 i6 i7 i8 i9 i10 i11 i12 = (stI (w2 I 105 0 0) (fun I_2 => (if 1 ≤ dp then ((kf_193 n (dp - 1) e 0 I_2 L i1 1 1584).bind (fun ⟨x0_11, I0_11, L0_11⟩ => (if x0_11 = 0 then (some (((-1) : Int), I0_11, L0_11)) else (if 1 ≤ dp then ((kf_193 n (dp - 1) e 0 I0_11 L0_11 i2 1 1584).bind (fun ⟨x1_23, I1_23, L1_23⟩ => (if x1_23 = 0 then (some (((-1) : Int), I1_23, L1_23)) else (if 1 ≤ dp then ((kf_193 n (dp - 1) e 0 I1_23 L1_23 i3 0 100).bind (fun ⟨x2_35, I2_35, L2_35⟩ => (if x2_35 = 0 then (some (((-1) : Int), I2_35, L2_35)) else (if 1 ≤ dp then ((kf_193 n (dp - 1) e 0 I2_35 L2_35 i4 0 2).bind (fun ⟨x3_48, I3_48, L3_48⟩ => (if x3_48 = 0 then (some (((-1) : Int), I3_48, L3_48)) else (kf_295 n dp e 1 I3_48 L3_48 i1 i2 i3 i4 0 1000000000 (-1) 0 0 0 0 0)))) else none)))) else none)))) else none)))) else none))) := by rw [kf_295.eq_2, if_pos (show (0 : Nat) = 0 from rfl)]
set_option maxRecDepth 100000 in
theorem ke_295_1 (n : Nat) (dp : Nat) (e : EN) (I : JI) (L : JI) (i1 : Int) (i2 : Int) (i3 : Int) (i4 : Int) (i5 : Int) (i6 : Int) (i7 : Int) (i8 : Int) (i9 : Int) (i10 : Int) (i11 : Int) (i12 : Int) : kf_295 (n + 1) dp e 1 I L i1 i2 i3 i4 i5 i6 i7 i8 i9 i10 i11 i12 = (if (I 107 6) ≤ i9 then (kf_295 n dp e 2 I L i1 i2 i3 i4 i5 i6 i7 i8 1 0 0 0) else (if 1 ≤ dp then ((kf_292 n (dp - 1) e 0 I L i9 6).bind (fun ⟨x0_92, I0_92, L0_92⟩ => (if x0_92 = 1 then (stI (bO i8 (bL 1 i9)) (fun v_108 => (if -2147483648 ≤ i9 + 1 ∧ i9 + 1 ≤ 2147483647 then (kf_295 n dp e 1 I0_92 L0_92 i1 i2 i3 i4 i5 i6 i7 v_108 (i9 + 1) 0 0 0) else none))) else (if -2147483648 ≤ i9 + 1 ∧ i9 + 1 ≤ 2147483647 then (kf_295 n dp e 1 I0_92 L0_92 i1 i2 i3 i4 i5 i6 i7 (bO i8 0) (i9 + 1) 0 0 0) else none)))) else none)) := by rw [kf_295.eq_2, if_neg (show ¬ ((1 : Nat) = 0) by decide), if_pos (show (1 : Nat) = 1 from rfl)]
set_option maxRecDepth 100000 in
theorem ke_295_2 (n : Nat) (dp : Nat) (e : EN) (I : JI) (L : JI) (i1 : Int) (i2 : Int) (i3 : Int) (i4 : Int) (i5 : Int) (i6 : Int) (i7 : Int) (i8 : Int) (i9 : Int) (i10 : Int) (i11 : Int) (i12 : Int) : kf_295 (n + 1) dp e 2 I L i1 i2 i3 i4 i5 i6 i7 i8 i9 i10 i11 i12 = (if (bL 1 (I 107 6)) ≤ i9 then (if i4 = 2 then (some ((i5 : Int), I, L)) else (if i7 = (-1) then (some (((-1) : Int), I, L)) else (if i4 = 0 then (some ((i6 : Int), I, L)) else (some ((i7 : Int), I, L))))) else (if (bA i9 (bX i8 (-1))) = 0 then (kf_295 n dp e 3 I L i1 i2 i3 i4 i5 i6 i7 i8 i9 0 0 0) else (kf_295 n dp e 5 I L i1 i2 i3 i4 i5 i6 i7 i8 i9 0 0 0))) := by rw [kf_295.eq_2, if_neg (show ¬ ((2 : Nat) = 0) by decide), if_neg (show ¬ ((2 : Nat) = 1) by decide), if_pos (show (2 : Nat) = 2 from rfl)]
set_option maxRecDepth 100000 in
theorem ke_295_3 (n : Nat) (dp : Nat) (e : EN) (I : JI) (L : JI) (i1 : Int) (i2 : Int) (i3 : Int) (i4 : Int) (i5 : Int) (i6 : Int) (i7 : Int) (i8 : Int) (i9 : Int) (i10 : Int) (i11 : Int) (i12 : Int) : kf_295 (n + 1) dp e 3 I L i1 i2 i3 i4 i5 i6 i7 i8 i9 i10 i11 i12 = (if (I 107 6) ≤ i12 then (if 1 ≤ dp then ((kf_193 n (dp - 1) e 0 I L i10 i1 i2).bind (fun ⟨x0_219, I0_219, L0_219⟩ => (if x0_219 = 0 then (kf_295 n dp e 5 I0_219 L0_219 i1 i2 i3 i4 i5 i6 i7 i8 i9 0 0 0) else (if -2147483648 ≤ i3 * i10 ∧ i3 * i10 ≤ 2147483647 then (if i11 < (i3 * i10) then (kf_295 n dp e 5 I0_219 L0_219 i1 i2 i3 i4 i5 i6 i7 i8 i9 0 0 0) else (if -2147483648 ≤ i11 - (i3 * i10) ∧ i11 - (i3 * i10) ≤ 2147483647 then (if i6 ≤ (i11 - (i3 * i10)) then (if i6 ≤ (i11 - (i3 * i10)) then (if -2147483648 ≤ i5 + 1 ∧ i5 + 1 ≤ 2147483647 then (kf_295 n dp e 5 I0_219 L0_219 i1 i2 i3 i4 (i5 + 1) i6 i7 i8 i9 0 0 0) else none) else (if -2147483648 ≤ i5 + 1 ∧ i5 + 1 ≤ 2147483647 then (kf_295 n dp e 5 I0_219 L0_219 i1 i2 i3 i4 (i5 + 1) (i11 - (i3 * i10)) i7 i8 i9 0 0 0) else none)) else (if i6 ≤ (i11 - (i3 * i10)) then (if -2147483648 ≤ i5 + 1 ∧ i5 + 1 ≤ 2147483647 then (kf_295 n dp e 5 I0_219 L0_219 i1 i2 i3 i4 (i5 + 1) i6 i9 i8 i9 0 0 0) else none) else (if -2147483648 ≤ i5 + 1 ∧ i5 + 1 ≤ 2147483647 then (kf_295 n dp e 5 I0_219 L0_219 i1 i2 i3 i4 (i5 + 1) (i11 - (i3 * i10)) i9 i8 i9 0 0 0) else none))) else none)) else none)))) else none) else (if 1 ≤ dp then ((kf_287 n (dp - 1) e 0 I L i9 i12).bind (fun ⟨x0_168, I0_168, L0_168⟩ => (if x0_168 = 0 then (kf_295 n dp e 4 I0_168 L0_168 i1 i2 i3 i4 i5 i6 i7 i8 i9 i10 i11 i12) else (if 1 ≤ dp then ((kf_292 n (dp - 1) e 0 I0_168 L0_168 i12 0).bind (fun ⟨x1_180, I1_180, L1_180⟩ => (if 1 ≤ dp then ((kf_292 n (dp - 1) e 0 I1_180 L1_180 i12 0).bind (fun ⟨x2_192, I2_192, L2_192⟩ => (if 1 ≤ dp then ((kf_292 n (dp - 1) e 0 I2_192 L2_192 i12 1).bind (fun ⟨x3_199, I3_199, L3_199⟩ => (if (-2147483648 ≤ x2_192 * x3_199 ∧ x2_192 * x3_199 ≤ 2147483647) ∧ (-2147483648 ≤ i11 + (x2_192 * x3_199) ∧ i11 + (x2_192 * x3_199) ≤ 2147483647) then (stI (i11 + (x2_192 * x3_199)) (fun v_204 => (if -2147483648 ≤ i10 + x1_180 ∧ i10 + x1_180 ≤ 2147483647 then (kf_295 n dp e 4 I3_199 L3_199 i1 i2 i3 i4 i5 i6 i7 i8 i9 (i10 + x1_180) v_204 i12) else none))) else none))) else none))) else none))) else none)))) else none)) := by rw [kf_295.eq_2, if_neg (show ¬ ((3 : Nat) = 0) by decide), if_neg (show ¬ ((3 : Nat) = 1) by decide), if_neg (show ¬ ((3 : Nat) = 2) by decide), if_pos (show (3 : Nat) = 3 from rfl)]
set_option maxRecDepth 100000 in
theorem ke_295_4 (n : Nat) (dp : Nat) (e : EN) (I : JI) (L : JI) (i1 : Int) (i2 : Int) (i3 : Int) (i4 : Int) (i5 : Int) (i6 : Int) (i7 : Int) (i8 : Int) (i9 : Int) (i10 : Int) (i11 : Int) (i12 : Int) : kf_295 (n + 1) dp e 4 I L i1 i2 i3 i4 i5 i6 i7 i8 i9 i10 i11 i12 = (if -2147483648 ≤ i12 + 1 ∧ i12 + 1 ≤ 2147483647 then (kf_295 n dp e 3 I L i1 i2 i3 i4 i5 i6 i7 i8 i9 i10 i11 (i12 + 1)) else none) := by rw [kf_295.eq_2, if_neg (show ¬ ((4 : Nat) = 0) by decide), if_neg (show ¬ ((4 : Nat) = 1) by decide), if_neg (show ¬ ((4 : Nat) = 2) by decide), if_neg (show ¬ ((4 : Nat) = 3) by decide), if_pos (show (4 : Nat) = 4 from rfl)]
set_option maxRecDepth 100000 in
theorem ke_295_5 (n : Nat) (dp : Nat) (e : EN) (I : JI) (L : JI) (i1 : Int) (i2 : Int) (i3 : Int) (i4 : Int) (i5 : Int) (i6 : Int) (i7 : Int) (i8 : Int) (i9 : Int) (i10 : Int) (i11 : Int) (i12 : Int) : kf_295 (n + 1) dp e 5 I L i1 i2 i3 i4 i5 i6 i7 i8 i9 i10 i11 i12 = (if -2147483648 ≤ i9 + 1 ∧ i9 + 1 ≤ 2147483647 then (kf_295 n dp e 2 I L i1 i2 i3 i4 i5 i6 i7 i8 (i9 + 1) 0 0 0) else none) := by rw [kf_295.eq_2, if_neg (show ¬ ((5 : Nat) = 0) by decide), if_neg (show ¬ ((5 : Nat) = 1) by decide), if_neg (show ¬ ((5 : Nat) = 2) by decide), if_neg (show ¬ ((5 : Nat) = 3) by decide), if_neg (show ¬ ((5 : Nat) = 4) by decide), if_pos (show (5 : Nat) = 5 from rfl)]
set_option maxHeartbeats 8000000 in
set_option maxRecDepth 100000 in
theorem ks_295 : ∀ (n : Nat) (dp : Nat) (e : EN) (lab : Nat) (I : Nat → Nat → Int32) (I' : JI) (L : Nat → Nat → Int64) (L' : JI) (i1 : Int32) (i1' : Int) (i2 : Int32) (i2' : Int) (i3 : Int32) (i3' : Int) (i4 : Int32) (i4' : Int) (i5 : Int32) (i5' : Int) (i6 : Int32) (i6' : Int) (i7 : Int32) (i7' : Int) (i8 : Int32) (i8' : Int) (i9 : Int32) (i9' : Int) (i10 : Int32) (i10' : Int) (i11 : Int32) (i11' : Int) (i12 : Int32) (i12' : Int), Rli I I' → Rll L L' → Ui i1 i1' → Ui i2 i2' → Ui i3 i3' → Ui i4 i4' → Ui i5 i5' → Ui i6 i6' → Ui i7 i7' → Ui i8 i8' → Ui i9 i9' → Ui i10 i10' → Ui i11 i11' → Ui i12 i12' → Sim R3 (g_295 n dp e lab I L i1 i2 i3 i4 i5 i6 i7 i8 i9 i10 i11 i12) (kf_295 n dp e lab I' L' i1' i2' i3' i4' i5' i6' i7' i8' i9' i10' i11' i12') := by
  intro n
  induction n with
  | zero => intros; rw [kf_295.eq_1]; exact Sn
  | succ n ih =>
    intro dp e lab I I' L L' i1 i1' i2 i2' i3 i3' i4 i4' i5 i5' i6 i6' i7 i7' i8 i8' i9 i9' i10 i10' i11 i11' i12 i12' u_I u_L u_i1 u_i2 u_i3 u_i4 u_i5 u_i6 u_i7 u_i8 u_i9 u_i10 u_i11 u_i12
    rw [g_295.eq_2, kf_295.eq_2]
    refine Sc Iff.rfl (fun _ => ?_) (fun _ => ?_)
    · refine SsJ (ri_up u_I (rfl : ((0 : Nat) : Int) = 0) (rfl : Ui (0) (0))) (fun I_2 I_2' u_I_2 => ?_)
      refine Sc Iff.rfl (fun c1 => ?_) (fun _ => Sn)
      refine Sb3 (ks_193 n (dp - 1) e 0 _ _ _ _ _ _ _ _ _ _ u_I_2 u_L (ul_i2l u_i1) (rfl : Ul (1) (1)) (rfl : Ul (1584) (1584))) (fun x0_11 x0_11' I0_11 I0_11' L0_11 L0_11' u_x0_11 u_I0_11 u_L0_11 => ?_)
      refine Sc (eq_up u_x0_11 (rfl : Ui 0 0)) (fun c2 => ?_) (fun c2 => ?_)
      · exact Sr ⟨(rfl : Ui (-1) (-1)), u_I0_11, u_L0_11⟩
      · refine Sc Iff.rfl (fun c3 => ?_) (fun _ => Sn)
        refine Sb3 (ks_193 n (dp - 1) e 0 _ _ _ _ _ _ _ _ _ _ u_I0_11 u_L0_11 (ul_i2l u_i2) (rfl : Ul (1) (1)) (rfl : Ul (1584) (1584))) (fun x1_23 x1_23' I1_23 I1_23' L1_23 L1_23' u_x1_23 u_I1_23 u_L1_23 => ?_)
        refine Sc (eq_up u_x1_23 (rfl : Ui 0 0)) (fun c4 => ?_) (fun c4 => ?_)
        · exact Sr ⟨(rfl : Ui (-1) (-1)), u_I1_23, u_L1_23⟩
        · refine Sc Iff.rfl (fun c5 => ?_) (fun _ => Sn)
          refine Sb3 (ks_193 n (dp - 1) e 0 _ _ _ _ _ _ _ _ _ _ u_I1_23 u_L1_23 (ul_i2l u_i3) (rfl : Ul (0) (0)) (rfl : Ul (100) (100))) (fun x2_35 x2_35' I2_35 I2_35' L2_35 L2_35' u_x2_35 u_I2_35 u_L2_35 => ?_)
          refine Sc (eq_up u_x2_35 (rfl : Ui 0 0)) (fun c6 => ?_) (fun c6 => ?_)
          · exact Sr ⟨(rfl : Ui (-1) (-1)), u_I2_35, u_L2_35⟩
          · refine Sc Iff.rfl (fun c7 => ?_) (fun _ => Sn)
            refine Sb3 (ks_193 n (dp - 1) e 0 _ _ _ _ _ _ _ _ _ _ u_I2_35 u_L2_35 (ul_i2l u_i4) (rfl : Ul (0) (0)) (rfl : Ul (2) (2))) (fun x3_48 x3_48' I3_48 I3_48' L3_48 L3_48' u_x3_48 u_I3_48 u_L3_48 => ?_)
            refine Sc (eq_up u_x3_48 (rfl : Ui 0 0)) (fun c8 => ?_) (fun c8 => ?_)
            · exact Sr ⟨(rfl : Ui (-1) (-1)), u_I3_48, u_L3_48⟩
            · exact (ih dp e 1 _ _ _ _ _ _ _ _ _ _ _ _ _ _ _ _ _ _ _ _ _ _ _ _ _ _ _ _ u_I3_48 u_L3_48 u_i1 u_i2 u_i3 u_i4 (rfl : Ui (0) (0)) (rfl : Ui (1000000000) (1000000000)) (rfl : Ui (-1) (-1)) (rfl : Ui (0) (0)) (rfl : Ui (0) (0)) (rfl : Ui 0 0) (rfl : Ui 0 0) (rfl : Ui 0 0))
    refine Sc Iff.rfl (fun _ => ?_) (fun _ => ?_)
    · refine Sc (le_up (u_I 107 6) u_i9) (fun c1 => ?_) (fun c1 => ?_)
      · exact (ih dp e 2 _ _ _ _ _ _ _ _ _ _ _ _ _ _ _ _ _ _ _ _ _ _ _ _ _ _ _ _ u_I u_L u_i1 u_i2 u_i3 u_i4 u_i5 u_i6 u_i7 u_i8 (rfl : Ui (1) (1)) (rfl : Ui 0 0) (rfl : Ui 0 0) (rfl : Ui 0 0))
      · refine Sc Iff.rfl (fun c2 => ?_) (fun _ => Sn)
        refine Sb3 (ks_292 n (dp - 1) e 0 _ _ _ _ _ _ _ _ u_I u_L u_i9 (rfl : Ui (6) (6))) (fun x0_92 x0_92' I0_92 I0_92' L0_92 L0_92' u_x0_92 u_I0_92 u_L0_92 => ?_)
        refine Sc (eq_up u_x0_92 (rfl : Ui (1) (1))) (fun c3 => ?_) (fun c3 => ?_)
        · refine SsI (ui_or u_i8 (ui_shl (rfl : Ui (1) (1)) u_i9)) (fun v_108 v_108' u_v_108 => ?_)
          refine Sg (fun g4 => ?_)
          exact (ih dp e 1 _ _ _ _ _ _ _ _ _ _ _ _ _ _ _ _ _ _ _ _ _ _ _ _ _ _ _ _ u_I0_92 u_L0_92 u_i1 u_i2 u_i3 u_i4 u_i5 u_i6 u_i7 u_v_108 (ui_add u_i9 (rfl : Ui (Int32.ofInt (1)) (1)) g4) (rfl : Ui 0 0) (rfl : Ui 0 0) (rfl : Ui 0 0))
        · refine Sg (fun g5 => ?_)
          exact (ih dp e 1 _ _ _ _ _ _ _ _ _ _ _ _ _ _ _ _ _ _ _ _ _ _ _ _ _ _ _ _ u_I0_92 u_L0_92 u_i1 u_i2 u_i3 u_i4 u_i5 u_i6 u_i7 (ui_or u_i8 (rfl : Ui (0) (0))) (ui_add u_i9 (rfl : Ui (Int32.ofInt (1)) (1)) g5) (rfl : Ui 0 0) (rfl : Ui 0 0) (rfl : Ui 0 0))
    refine Sc Iff.rfl (fun _ => ?_) (fun _ => ?_)
    · refine Sc (le_up (ui_shl (rfl : Ui (1) (1)) (u_I 107 6)) u_i9) (fun c1 => ?_) (fun c1 => ?_)
      · refine Sc (eq_up u_i4 (rfl : Ui (2) (2))) (fun c2 => ?_) (fun c2 => ?_)
        · exact Sr ⟨u_i5, u_I, u_L⟩
        · refine Sc (eq_up u_i7 (rfl : Ui (-1) (-1))) (fun c3 => ?_) (fun c3 => ?_)
          · exact Sr ⟨(rfl : Ui (-1) (-1)), u_I, u_L⟩
          · refine Sc (eq_up u_i4 (rfl : Ui 0 0)) (fun c4 => ?_) (fun c4 => ?_)
            · exact Sr ⟨u_i6, u_I, u_L⟩
            · exact Sr ⟨u_i7, u_I, u_L⟩
      · refine Sc (eq_up (ui_and u_i9 (ui_xor u_i8 (rfl : Ui (-1) (-1)))) (rfl : Ui 0 0)) (fun c5 => ?_) (fun c5 => ?_)
        · exact (ih dp e 3 _ _ _ _ _ _ _ _ _ _ _ _ _ _ _ _ _ _ _ _ _ _ _ _ _ _ _ _ u_I u_L u_i1 u_i2 u_i3 u_i4 u_i5 u_i6 u_i7 u_i8 u_i9 (rfl : Ui (0) (0)) (rfl : Ui (0) (0)) (rfl : Ui (0) (0)))
        · exact (ih dp e 5 _ _ _ _ _ _ _ _ _ _ _ _ _ _ _ _ _ _ _ _ _ _ _ _ _ _ _ _ u_I u_L u_i1 u_i2 u_i3 u_i4 u_i5 u_i6 u_i7 u_i8 u_i9 (rfl : Ui 0 0) (rfl : Ui 0 0) (rfl : Ui 0 0))
    refine Sc Iff.rfl (fun _ => ?_) (fun _ => ?_)
    · refine Sc (le_up (u_I 107 6) u_i12) (fun c1 => ?_) (fun c1 => ?_)
      · refine Sc Iff.rfl (fun c2 => ?_) (fun _ => Sn)
        refine Sb3 (ks_193 n (dp - 1) e 0 _ _ _ _ _ _ _ _ _ _ u_I u_L (ul_i2l u_i10) (ul_i2l u_i1) (ul_i2l u_i2)) (fun x0_219 x0_219' I0_219 I0_219' L0_219 L0_219' u_x0_219 u_I0_219 u_L0_219 => ?_)
        refine Sc (eq_up u_x0_219 (rfl : Ui 0 0)) (fun c3 => ?_) (fun c3 => ?_)
        · exact (ih dp e 5 _ _ _ _ _ _ _ _ _ _ _ _ _ _ _ _ _ _ _ _ _ _ _ _ _ _ _ _ u_I0_219 u_L0_219 u_i1 u_i2 u_i3 u_i4 u_i5 u_i6 u_i7 u_i8 u_i9 (rfl : Ui 0 0) (rfl : Ui 0 0) (rfl : Ui 0 0))
        · refine Sg (fun g4 => ?_)
          refine Sc (lt_up u_i11 (ui_mul u_i3 u_i10 g4)) (fun c5 => ?_) (fun c5 => ?_)
          · exact (ih dp e 5 _ _ _ _ _ _ _ _ _ _ _ _ _ _ _ _ _ _ _ _ _ _ _ _ _ _ _ _ u_I0_219 u_L0_219 u_i1 u_i2 u_i3 u_i4 u_i5 u_i6 u_i7 u_i8 u_i9 (rfl : Ui 0 0) (rfl : Ui 0 0) (rfl : Ui 0 0))
          · refine Sg (fun g6 => ?_)
            refine Sc (le_up u_i6 (ui_sub u_i11 (ui_mul u_i3 u_i10 g4) g6)) (fun c7 => ?_) (fun c7 => ?_)
            · refine Sc (le_up u_i6 (ui_sub u_i11 (ui_mul u_i3 u_i10 g4) g6)) (fun c8 => ?_) (fun c8 => ?_)
              · refine Sg (fun g9 => ?_)
                exact (ih dp e 5 _ _ _ _ _ _ _ _ _ _ _ _ _ _ _ _ _ _ _ _ _ _ _ _ _ _ _ _ u_I0_219 u_L0_219 u_i1 u_i2 u_i3 u_i4 (ui_add u_i5 (rfl : Ui (Int32.ofInt (1)) (1)) g9) u_i6 u_i7 u_i8 u_i9 (rfl : Ui 0 0) (rfl : Ui 0 0) (rfl : Ui 0 0))
              · refine Sg (fun g10 => ?_)
                exact (ih dp e 5 _ _ _ _ _ _ _ _ _ _ _ _ _ _ _ _ _ _ _ _ _ _ _ _ _ _ _ _ u_I0_219 u_L0_219 u_i1 u_i2 u_i3 u_i4 (ui_add u_i5 (rfl : Ui (Int32.ofInt (1)) (1)) g10) (ui_sub u_i11 (ui_mul u_i3 u_i10 g4) g6) u_i7 u_i8 u_i9 (rfl : Ui 0 0) (rfl : Ui 0 0) (rfl : Ui 0 0))
            · refine Sc (le_up u_i6 (ui_sub u_i11 (ui_mul u_i3 u_i10 g4) g6)) (fun c11 => ?_) (fun c11 => ?_)
              · refine Sg (fun g12 => ?_)
                exact (ih dp e 5 _ _ _ _ _ _ _ _ _ _ _ _ _ _ _ _ _ _ _ _ _ _ _ _ _ _ _ _ u_I0_219 u_L0_219 u_i1 u_i2 u_i3 u_i4 (ui_add u_i5 (rfl : Ui (Int32.ofInt (1)) (1)) g12) u_i6 u_i9 u_i8 u_i9 (rfl : Ui 0 0) (rfl : Ui 0 0) (rfl : Ui 0 0))
              · refine Sg (fun g13 => ?_)
                exact (ih dp e 5 _ _ _ _ _ _ _ _ _ _ _ _ _ _ _ _ _ _ _ _ _ _ _ _ _ _ _ _ u_I0_219 u_L0_219 u_i1 u_i2 u_i3 u_i4 (ui_add u_i5 (rfl : Ui (Int32.ofInt (1)) (1)) g13) (ui_sub u_i11 (ui_mul u_i3 u_i10 g4) g6) u_i9 u_i8 u_i9 (rfl : Ui 0 0) (rfl : Ui 0 0) (rfl : Ui 0 0))
      · refine Sc Iff.rfl (fun c14 => ?_) (fun _ => Sn)
        refine Sb3 (ks_287 n (dp - 1) e 0 _ _ _ _ _ _ _ _ u_I u_L u_i9 u_i12) (fun x0_168 x0_168' I0_168 I0_168' L0_168 L0_168' u_x0_168 u_I0_168 u_L0_168 => ?_)
        refine Sc (eq_up u_x0_168 (rfl : Ui 0 0)) (fun c15 => ?_) (fun c15 => ?_)
        · exact (ih dp e 4 _ _ _ _ _ _ _ _ _ _ _ _ _ _ _ _ _ _ _ _ _ _ _ _ _ _ _ _ u_I0_168 u_L0_168 u_i1 u_i2 u_i3 u_i4 u_i5 u_i6 u_i7 u_i8 u_i9 u_i10 u_i11 u_i12)
        · refine Sc Iff.rfl (fun c16 => ?_) (fun _ => Sn)
          refine Sb3 (ks_292 n (dp - 1) e 0 _ _ _ _ _ _ _ _ u_I0_168 u_L0_168 u_i12 (rfl : Ui (0) (0))) (fun x1_180 x1_180' I1_180 I1_180' L1_180 L1_180' u_x1_180 u_I1_180 u_L1_180 => ?_)
          refine Sc Iff.rfl (fun c17 => ?_) (fun _ => Sn)
          refine Sb3 (ks_292 n (dp - 1) e 0 _ _ _ _ _ _ _ _ u_I1_180 u_L1_180 u_i12 (rfl : Ui (0) (0))) (fun x2_192 x2_192' I2_192 I2_192' L2_192 L2_192' u_x2_192 u_I2_192 u_L2_192 => ?_)
          refine Sc Iff.rfl (fun c18 => ?_) (fun _ => Sn)
          refine Sb3 (ks_292 n (dp - 1) e 0 _ _ _ _ _ _ _ _ u_I2_192 u_L2_192 u_i12 (rfl : Ui (1) (1))) (fun x3_199 x3_199' I3_199 I3_199' L3_199 L3_199' u_x3_199 u_I3_199 u_L3_199 => ?_)
          refine Sg (fun g19 => ?_)
          refine SsI (ui_add u_i11 (ui_mul u_x2_192 u_x3_199 g19.1) g19.2) (fun v_204 v_204' u_v_204 => ?_)
          refine Sg (fun g20 => ?_)
          exact (ih dp e 4 _ _ _ _ _ _ _ _ _ _ _ _ _ _ _ _ _ _ _ _ _ _ _ _ _ _ _ _ u_I3_199 u_L3_199 u_i1 u_i2 u_i3 u_i4 u_i5 u_i6 u_i7 u_i8 u_i9 (ui_add u_i10 u_x1_180 g20) u_v_204 u_i12)
    refine Sc Iff.rfl (fun _ => ?_) (fun _ => ?_)
    · refine Sg (fun g1 => ?_)
      exact (ih dp e 3 _ _ _ _ _ _ _ _ _ _ _ _ _ _ _ _ _ _ _ _ _ _ _ _ _ _ _ _ u_I u_L u_i1 u_i2 u_i3 u_i4 u_i5 u_i6 u_i7 u_i8 u_i9 u_i10 u_i11 (ui_add u_i12 (rfl : Ui (Int32.ofInt (1)) (1)) g1))
    refine Sc Iff.rfl (fun _ => ?_) (fun _ => ?_)
    · refine Sg (fun g1 => ?_)
      exact (ih dp e 2 _ _ _ _ _ _ _ _ _ _ _ _ _ _ _ _ _ _ _ _ _ _ _ _ _ _ _ _ u_I u_L u_i1 u_i2 u_i3 u_i4 u_i5 u_i6 u_i7 u_i8 (ui_add u_i9 (rfl : Ui (Int32.ofInt (1)) (1)) g1) (rfl : Ui 0 0) (rfl : Ui 0 0) (rfl : Ui 0 0))
    exact Sn
