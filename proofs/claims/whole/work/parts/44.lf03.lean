/-! lifted functions 03, printed by lift.py -/
set_option maxHeartbeats 4000000 in
set_option maxRecDepth 100000 in
def kf_115 : Nat → Nat → EN → Nat → JI → JI → Int → Int → Int → Int → Int → Int → Int → Int → Int → Option (JI × JI)
  | 0, _, _, _, _, _, _, _, _, _, _, _, _, _, _ => none
  | n + 1, dp, e, lab, I, L, i1, i2, i3, i4, i5, i6, i7, i8, i9 =>
    if lab = 0 then (if 0 ≤ i1 ∧ i1 < 3 then (if (-2147483648 ≤ i1 * 64 ∧ i1 * 64 ≤ 2147483647) ∧ (-2147483648 ≤ (i1 * 64) + (I 32 i1) ∧ (i1 * 64) + (I 32 i1) ≤ 2147483647) then (stI ((i1 * 64) + (I 32 i1)) (fun v_16 => (if 0 ≤ i1 ∧ i1 < 3 then (if -2147483648 ≤ (I 33 i1) + 1 ∧ (I 33 i1) + 1 ≤ 2147483647 then (stI ((I 33 i1) + 1) (fun v_29 => (stI (w2 I 44 8 (-1)) (fun I_33 => (stI (w2 I_33 44 9 0) (fun I_38 => (if 0 ≤ (I_38 44 3) ∧ (I_38 44 3) < 10 then (stI (I_38 45 (I_38 44 3)) (fun v_50 => (kf_115 n dp e 1 I_38 L i1 i2 (i1 * 64) v_16 v_29 v_50 0 0 0))) else none))))))) else none) else none))) else none) else none)
    else if lab = 1 then (if -2147483648 ≤ (I 44 3) + 1 ∧ (I 44 3) + 1 ≤ 2147483647 then (if 0 ≤ ((I 44 3) + 1) ∧ ((I 44 3) + 1) < 10 then (if (I 45 ((I 44 3) + 1)) ≤ i6 then (some (I, L)) else ((e.2.2 44 4).bind (fun b_69 => (if ((b_69 < e.1) ∧ (((e.2.1 b_69).1 = 13) ∧ ((e.2.1 b_69).2 < (2 ^ 31)))) ∧ (0 ≤ i6 ∧ i6 < (((e.2.1 b_69).2 : Nat) : Int)) then (stI (I b_69 i6) (fun v_75 => ((e.2.2 44 5).bind (fun b_78 => (if ((b_78 < e.1) ∧ (((e.2.1 b_78).1 = 13) ∧ ((e.2.1 b_78).2 < (2 ^ 31)))) ∧ (0 ≤ i6 ∧ i6 < (((e.2.1 b_78).2 : Nat) : Int)) then (if 1 ≤ dp then ((kf_116 n (dp - 1) e 0 I L v_75).bind (fun ⟨x0_90, I0_90, L0_90⟩ => (if (-2147483648 ≤ (I b_78 i6) + x0_90 ∧ (I b_78 i6) + x0_90 ≤ 2147483647) ∧ (-2147483648 ≤ ((I b_78 i6) + x0_90) + i5 ∧ ((I b_78 i6) + x0_90) + i5 ≤ 2147483647) then (if (I0_90 44 8) ≤ (((I b_78 i6) + x0_90) + i5) then (kf_115 n dp e 2 I0_90 L0_90 i1 i2 i3 i4 i5 i6 v_75 i3 0) else (kf_115 n dp e 4 I0_90 L0_90 i1 i2 i3 i4 i5 i6 v_75 0 0)) else none))) else none) else none))))) else none)))) else none) else none)
    else if lab = 2 then (if i4 ≤ i8 then (kf_115 n dp e 4 I L i1 i2 i3 i4 i5 i6 i7 0 0) else ((e.2.2 44 5).bind (fun b_118 => (if ((b_118 < e.1) ∧ (((e.2.1 b_118).1 = 13) ∧ ((e.2.1 b_118).2 < (2 ^ 31)))) ∧ (0 ≤ i6 ∧ i6 < (((e.2.1 b_118).2 : Nat) : Int)) then (if 0 ≤ i8 ∧ i8 < 192 then (if i8 = i2 then (if 0 ≤ i8 ∧ i8 < 192 then (if 1 ≤ dp then ((kf_111 n (dp - 1) e 0 I L i7 (I 27 i8)).bind (fun ⟨x0_163, I0_163, L0_163⟩ => (if 1 ≤ dp then ((kf_116 n (dp - 1) e 0 I0_163 L0_163 x0_163).bind (fun ⟨x1_166, I1_166, L1_166⟩ => (if (-2147483648 ≤ (I b_118 i6) + (I 28 i8) ∧ (I b_118 i6) + (I 28 i8) ≤ 2147483647) ∧ (-2147483648 ≤ ((I b_118 i6) + (I 28 i8)) + 1 ∧ ((I b_118 i6) + (I 28 i8)) + 1 ≤ 2147483647) ∧ (-2147483648 ≤ (((I b_118 i6) + (I 28 i8)) + 1) + x1_166 ∧ (((I b_118 i6) + (I 28 i8)) + 1) + x1_166 ≤ 2147483647) then (stI ((((I b_118 i6) + (I 28 i8)) + 1) + x1_166) (fun v_170 => (if v_170 ≤ (I1_166 44 8) then (if v_170 = (I1_166 44 8) then ((e.2.2 44 6).bind (fun b_230 => (if ((b_230 < e.1) ∧ (((e.2.1 b_230).1 = 13) ∧ ((e.2.1 b_230).2 < (2 ^ 31)))) ∧ (0 ≤ i6 ∧ i6 < (((e.2.1 b_230).2 : Nat) : Int)) then (if 0 ≤ i8 ∧ i8 < 192 then (if 1 ≤ dp then ((kf_113 n (dp - 1) e 0 I1_166 L1_166 (I1_166 44 9) (I1_166 b_230 i6) (I1_166 29 i8)).bind (fun ⟨x2_246, I2_246, L2_246⟩ => (stI (w2 I2_246 44 9 x2_246) (fun I_249 => (kf_115 n dp e 3 I_249 L2_246 i1 i2 i3 i4 i5 i6 i7 i8 v_170))))) else none) else none) else none))) else (kf_115 n dp e 3 I1_166 L1_166 i1 i2 i3 i4 i5 i6 i7 i8 v_170)) else (stI (w2 I1_166 44 8 v_170) (fun I_184 => ((e.2.2 44 6).bind (fun b_190 => (if ((b_190 < e.1) ∧ (((e.2.1 b_190).1 = 13) ∧ ((e.2.1 b_190).2 < (2 ^ 31)))) ∧ (0 ≤ i6 ∧ i6 < (((e.2.1 b_190).2 : Nat) : Int)) then (if 0 ≤ i8 ∧ i8 < 192 then (if 1 ≤ dp then ((kf_113 n (dp - 1) e 0 I_184 L1_166 0 (I_184 b_190 i6) (I_184 29 i8)).bind (fun ⟨x2_206, I2_206, L2_206⟩ => (stI (w2 I2_206 44 9 x2_206) (fun I_209 => (kf_115 n dp e 3 I_209 L2_206 i1 i2 i3 i4 i5 i6 i7 i8 v_170))))) else none) else none) else none)))))))) else none))) else none))) else none) else none) else (if 0 ≤ i8 ∧ i8 < 192 then (if 1 ≤ dp then ((kf_111 n (dp - 1) e 0 I L i7 (I 27 i8)).bind (fun ⟨x0_163, I0_163, L0_163⟩ => (if 1 ≤ dp then ((kf_116 n (dp - 1) e 0 I0_163 L0_163 x0_163).bind (fun ⟨x1_166, I1_166, L1_166⟩ => (if (-2147483648 ≤ (I b_118 i6) + (I 28 i8) ∧ (I b_118 i6) + (I 28 i8) ≤ 2147483647) ∧ (-2147483648 ≤ ((I b_118 i6) + (I 28 i8)) + 0 ∧ ((I b_118 i6) + (I 28 i8)) + 0 ≤ 2147483647) ∧ (-2147483648 ≤ (((I b_118 i6) + (I 28 i8)) + 0) + x1_166 ∧ (((I b_118 i6) + (I 28 i8)) + 0) + x1_166 ≤ 2147483647) then (stI ((((I b_118 i6) + (I 28 i8)) + 0) + x1_166) (fun v_170 => (if v_170 ≤ (I1_166 44 8) then (if v_170 = (I1_166 44 8) then ((e.2.2 44 6).bind (fun b_230 => (if ((b_230 < e.1) ∧ (((e.2.1 b_230).1 = 13) ∧ ((e.2.1 b_230).2 < (2 ^ 31)))) ∧ (0 ≤ i6 ∧ i6 < (((e.2.1 b_230).2 : Nat) : Int)) then (if 0 ≤ i8 ∧ i8 < 192 then (if 1 ≤ dp then ((kf_113 n (dp - 1) e 0 I1_166 L1_166 (I1_166 44 9) (I1_166 b_230 i6) (I1_166 29 i8)).bind (fun ⟨x2_246, I2_246, L2_246⟩ => (stI (w2 I2_246 44 9 x2_246) (fun I_249 => (kf_115 n dp e 3 I_249 L2_246 i1 i2 i3 i4 i5 i6 i7 i8 v_170))))) else none) else none) else none))) else (kf_115 n dp e 3 I1_166 L1_166 i1 i2 i3 i4 i5 i6 i7 i8 v_170)) else (stI (w2 I1_166 44 8 v_170) (fun I_184 => ((e.2.2 44 6).bind (fun b_190 => (if ((b_190 < e.1) ∧ (((e.2.1 b_190).1 = 13) ∧ ((e.2.1 b_190).2 < (2 ^ 31)))) ∧ (0 ≤ i6 ∧ i6 < (((e.2.1 b_190).2 : Nat) : Int)) then (if 0 ≤ i8 ∧ i8 < 192 then (if 1 ≤ dp then ((kf_113 n (dp - 1) e 0 I_184 L1_166 0 (I_184 b_190 i6) (I_184 29 i8)).bind (fun ⟨x2_206, I2_206, L2_206⟩ => (stI (w2 I2_206 44 9 x2_206) (fun I_209 => (kf_115 n dp e 3 I_209 L2_206 i1 i2 i3 i4 i5 i6 i7 i8 v_170))))) else none) else none) else none)))))))) else none))) else none))) else none) else none)) else none) else none))))
    else if lab = 3 then (if -2147483648 ≤ i8 + 1 ∧ i8 + 1 ≤ 2147483647 then (kf_115 n dp e 2 I L i1 i2 i3 i4 i5 i6 i7 (i8 + 1) 0) else none)
    else if lab = 4 then (if -2147483648 ≤ i6 + 1 ∧ i6 + 1 ≤ 2147483647 then (kf_115 n dp e 1 I L i1 i2 i3 i4 i5 (i6 + 1) 0 0 0) else none)
    else none
set_option maxRecDepth 100000 in
theorem ke_115_0 (n : Nat) (dp : Nat) (e : EN) (I : JI) (L : JI) (i1 : Int) (i2 : Int) (i3 : Int) (i4 : Int) (i5 : Int) (i6 : Int) (i7 : Int) (i8 : Int) (i9 : Int) : kf_115 (n + 1) dp e 0 I L i1 i2 i3 i4 i5 i6 i7 i8 i9 = (if 0 ≤ i1 ∧ i1 < 3 then (if (-2147483648 ≤ i1 * 64 ∧ i1 * 64 ≤ 2147483647) ∧ (-2147483648 ≤ (i1 * 64) + (I 32 i1) ∧ (i1 * 64) + (I 32 i1) ≤ 2147483647) then (stI ((i1 * 64) + (I 32 i1)) (fun v_16 => (if 0 ≤ i1 ∧ i1 < 3 then (if -2147483648 ≤ (I 33 i1) + 1 ∧ (I 33 i1) + 1 ≤ 2147483647 then (stI ((I 33 i1) + 1) (fun v_29 => (stI (w2 I 44 8 (-1)) (fun I_33 => (stI (w2 I_33 44 9 0) (fun I_38 => (if 0 ≤ (I_38 44 3) ∧ (I_38 44 3) < 10 then (stI (I_38 45 (I_38 44 3)) (fun v_50 => (kf_115 n dp e 1 I_38 L i1 i2 (i1 * 64) v_16 v_29 v_50 0 0 0))) else none))))))) else none) else none))) else none) else none) := by rw [kf_115.eq_2, if_pos (show (0 : Nat) = 0 from rfl)]
set_option maxRecDepth 100000 in
theorem ke_115_1 (n : Nat) (dp : Nat) (e : EN) (I : JI) (L : JI) (i1 : Int) (i2 : Int) (i3 : Int) (i4 : Int) (i5 : Int) (i6 : Int) (i7 : Int) (i8 : Int) (i9 : Int) : kf_115 (n + 1) dp e 1 I L i1 i2 i3 i4 i5 i6 i7 i8 i9 = (if -2147483648 ≤ (I 44 3) + 1 ∧ (I 44 3) + 1 ≤ 2147483647 then (if 0 ≤ ((I 44 3) + 1) ∧ ((I 44 3) + 1) < 10 then (if (I 45 ((I 44 3) + 1)) ≤ i6 then (some (I, L)) else ((e.2.2 44 4).bind (fun b_69 => (if ((b_69 < e.1) ∧ (((e.2.1 b_69).1 = 13) ∧ ((e.2.1 b_69).2 < (2 ^ 31)))) ∧ (0 ≤ i6 ∧ i6 < (((e.2.1 b_69).2 : Nat) : Int)) then (stI (I b_69 i6) (fun v_75 => ((e.2.2 44 5).bind (fun b_78 => (if ((b_78 < e.1) ∧ (((e.2.1 b_78).1 = 13) ∧ ((e.2.1 b_78).2 < (2 ^ 31)))) ∧ (0 ≤ i6 ∧ i6 < (((e.2.1 b_78).2 : Nat) : Int)) then (if 1 ≤ dp then ((kf_116 n (dp - 1) e 0 I L v_75).bind (fun ⟨x0_90, I0_90, L0_90⟩ => (if (-2147483648 ≤ (I b_78 i6) + x0_90 ∧ (I b_78 i6) + x0_90 ≤ 2147483647) ∧ (-2147483648 ≤ ((I b_78 i6) + x0_90) + i5 ∧ ((I b_78 i6) + x0_90) + i5 ≤ 2147483647) then (if (I0_90 44 8) ≤ (((I b_78 i6) + x0_90) + i5) then (kf_115 n dp e 2 I0_90 L0_90 i1 i2 i3 i4 i5 i6 v_75 i3 0) else (kf_115 n dp e 4 I0_90 L0_90 i1 i2 i3 i4 i5 i6 v_75 0 0)) else none))) else none) else none))))) else none)))) else none) else none) := by rw [kf_115.eq_2, if_neg (show ¬ ((1 : Nat) = 0) by decide), if_pos (show (1 : Nat) = 1 from rfl)]
set_option maxRecDepth 100000 in
theorem ke_115_2 (n : Nat) (dp : Nat) (e : EN) (I : JI) (L : JI) (i1 : Int) (i2 : Int) (i3 : Int) (i4 : Int) (i5 : Int) (i6 : Int) (i7 : Int) (i8 : Int) (i9 : Int) : kf_115 (n + 1) dp e 2 I L i1 i2 i3 i4 i5 i6 i7 i8 i9 = (if i4 ≤ i8 then (kf_115 n dp e 4 I L i1 i2 i3 i4 i5 i6 i7 0 0) else ((e.2.2 44 5).bind (fun b_118 => (if ((b_118 < e.1) ∧ (((e.2.1 b_118).1 = 13) ∧ ((e.2.1 b_118).2 < (2 ^ 31)))) ∧ (0 ≤ i6 ∧ i6 < (((e.2.1 b_118).2 : Nat) : Int)) then (if 0 ≤ i8 ∧ i8 < 192 then (if i8 = i2 then (if 0 ≤ i8 ∧ i8 < 192 then (if 1 ≤ dp then ((kf_111 n (dp - 1) e 0 I L i7 (I 27 i8)).bind (fun ⟨x0_163, I0_163, L0_163⟩ => (if 1 ≤ dp then ((kf_116 n (dp - 1) e 0 I0_163 L0_163 x0_163).bind (fun ⟨x1_166, I1_166, L1_166⟩ => (if (-2147483648 ≤ (I b_118 i6) + (I 28 i8) ∧ (I b_118 i6) + (I 28 i8) ≤ 2147483647) ∧ (-2147483648 ≤ ((I b_118 i6) + (I 28 i8)) + 1 ∧ ((I b_118 i6) + (I 28 i8)) + 1 ≤ 2147483647) ∧ (-2147483648 ≤ (((I b_118 i6) + (I 28 i8)) + 1) + x1_166 ∧ (((I b_118 i6) + (I 28 i8)) + 1) + x1_166 ≤ 2147483647) then (stI ((((I b_118 i6) + (I 28 i8)) + 1) + x1_166) (fun v_170 => (if v_170 ≤ (I1_166 44 8) then (if v_170 = (I1_166 44 8) then ((e.2.2 44 6).bind (fun b_230 => (if ((b_230 < e.1) ∧ (((e.2.1 b_230).1 = 13) ∧ ((e.2.1 b_230).2 < (2 ^ 31)))) ∧ (0 ≤ i6 ∧ i6 < (((e.2.1 b_230).2 : Nat) : Int)) then (if 0 ≤ i8 ∧ i8 < 192 then (if 1 ≤ dp then ((kf_113 n (dp - 1) e 0 I1_166 L1_166 (I1_166 44 9) (I1_166 b_230 i6) (I1_166 29 i8)).bind (fun ⟨x2_246, I2_246, L2_246⟩ => (stI (w2 I2_246 44 9 x2_246) (fun I_249 => (kf_115 n dp e 3 I_249 L2_246 i1 i2 i3 i4 i5 i6 i7 i8 v_170))))) else none) else none) else none))) else (kf_115 n dp e 3 I1_166 L1_166 i1 i2 i3 i4 i5 i6 i7 i8 v_170)) else (stI (w2 I1_166 44 8 v_170) (fun I_184 => ((e.2.2 44 6).bind (fun b_190 => (if ((b_190 < e.1) ∧ (((e.2.1 b_190).1 = 13) ∧ ((e.2.1 b_190).2 < (2 ^ 31)))) ∧ (0 ≤ i6 ∧ i6 < (((e.2.1 b_190).2 : Nat) : Int)) then (if 0 ≤ i8 ∧ i8 < 192 then (if 1 ≤ dp then ((kf_113 n (dp - 1) e 0 I_184 L1_166 0 (I_184 b_190 i6) (I_184 29 i8)).bind (fun ⟨x2_206, I2_206, L2_206⟩ => (stI (w2 I2_206 44 9 x2_206) (fun I_209 => (kf_115 n dp e 3 I_209 L2_206 i1 i2 i3 i4 i5 i6 i7 i8 v_170))))) else none) else none) else none)))))))) else none))) else none))) else none) else none) else (if 0 ≤ i8 ∧ i8 < 192 then (if 1 ≤ dp then ((kf_111 n (dp - 1) e 0 I L i7 (I 27 i8)).bind (fun ⟨x0_163, I0_163, L0_163⟩ => (if 1 ≤ dp then ((kf_116 n (dp - 1) e 0 I0_163 L0_163 x0_163).bind (fun ⟨x1_166, I1_166, L1_166⟩ => (if (-2147483648 ≤ (I b_118 i6) + (I 28 i8) ∧ (I b_118 i6) + (I 28 i8) ≤ 2147483647) ∧ (-2147483648 ≤ ((I b_118 i6) + (I 28 i8)) + 0 ∧ ((I b_118 i6) + (I 28 i8)) + 0 ≤ 2147483647) ∧ (-2147483648 ≤ (((I b_118 i6) + (I 28 i8)) + 0) + x1_166 ∧ (((I b_118 i6) + (I 28 i8)) + 0) + x1_166 ≤ 2147483647) then (stI ((((I b_118 i6) + (I 28 i8)) + 0) + x1_166) (fun v_170 => (if v_170 ≤ (I1_166 44 8) then (if v_170 = (I1_166 44 8) then ((e.2.2 44 6).bind (fun b_230 => (if ((b_230 < e.1) ∧ (((e.2.1 b_230).1 = 13) ∧ ((e.2.1 b_230).2 < (2 ^ 31)))) ∧ (0 ≤ i6 ∧ i6 < (((e.2.1 b_230).2 : Nat) : Int)) then (if 0 ≤ i8 ∧ i8 < 192 then (if 1 ≤ dp then ((kf_113 n (dp - 1) e 0 I1_166 L1_166 (I1_166 44 9) (I1_166 b_230 i6) (I1_166 29 i8)).bind (fun ⟨x2_246, I2_246, L2_246⟩ => (stI (w2 I2_246 44 9 x2_246) (fun I_249 => (kf_115 n dp e 3 I_249 L2_246 i1 i2 i3 i4 i5 i6 i7 i8 v_170))))) else none) else none) else none))) else (kf_115 n dp e 3 I1_166 L1_166 i1 i2 i3 i4 i5 i6 i7 i8 v_170)) else (stI (w2 I1_166 44 8 v_170) (fun I_184 => ((e.2.2 44 6).bind (fun b_190 => (if ((b_190 < e.1) ∧ (((e.2.1 b_190).1 = 13) ∧ ((e.2.1 b_190).2 < (2 ^ 31)))) ∧ (0 ≤ i6 ∧ i6 < (((e.2.1 b_190).2 : Nat) : Int)) then (if 0 ≤ i8 ∧ i8 < 192 then (if 1 ≤ dp then ((kf_113 n (dp - 1) e 0 I_184 L1_166 0 (I_184 b_190 i6) (I_184 29 i8)).bind (fun ⟨x2_206, I2_206, L2_206⟩ => (stI (w2 I2_206 44 9 x2_206) (fun I_209 => (kf_115 n dp e 3 I_209 L2_206 i1 i2 i3 i4 i5 i6 i7 i8 v_170))))) else none) else none) else none)))))))) else none))) else none))) else none) else none)) else none) else none)))) := by rw [kf_115.eq_2, if_neg (show ¬ ((2 : Nat) = 0) by decide), if_neg (show ¬ ((2 : Nat) = 1) by decide), if_pos (show (2 : Nat) = 2 from rfl)]
set_option maxRecDepth 100000 in
theorem ke_115_3 (n : Nat) (dp : Nat) (e : EN) (I : JI) (L : JI) (i1 : Int) (i2 : Int) (i3 : Int) (i4 : Int) (i5 : Int) (i6 : Int) (i7 : Int) (i8 : Int) (i9 : Int) : kf_115 (n + 1) dp e 3 I L i1 i2 i3 i4 i5 i6 i7 i8 i9 = (if -2147483648 ≤ i8 + 1 ∧ i8 + 1 ≤ 2147483647 then (kf_115 n dp e 2 I L i1 i2 i3 i4 i5 i6 i7 (i8 + 1) 0) else none) := by rw [kf_115.eq_2, if_neg (show ¬ ((3 : Nat) = 0) by decide), if_neg (show ¬ ((3 : Nat) = 1) by decide), if_neg (show ¬ ((3 : Nat) = 2) by decide), if_pos (show (3 : Nat) = 3 from rfl)]
set_option maxRecDepth 100000 in
theorem ke_115_4 (n : Nat) (dp : Nat) (e : EN) (I : JI) (L : JI) (i1 : Int) (i2 : Int) (i3 : Int) (i4 : Int) (i5 : Int) (i6 : Int) (i7 : Int) (i8 : Int) (i9 : Int) : kf_115 (n + 1) dp e 4 I L i1 i2 i3 i4 i5 i6 i7 i8 i9 = (if -2147483648 ≤ i6 + 1 ∧ i6 + 1 ≤ 2147483647 then (kf_115 n dp e 1 I L i1 i2 i3 i4 i5 (i6 + 1) 0 0 0) else none) := by rw [kf_115.eq_2, if_neg (show ¬ ((4 : Nat) = 0) by decide), if_neg (show ¬ ((4 : Nat) = 1) by decide), if_neg (show ¬ ((4 : Nat) = 2) by decide), if_neg (show ¬ ((4 : Nat) = 3) by decide), if_pos (show (4 : Nat) = 4 from rfl)]
set_option maxHeartbeats 8000000 in
set_option maxRecDepth 100000 in
theorem ks_115 : ∀ (n : Nat) (dp : Nat) (e : EN) (lab : Nat) (I : Nat → Nat → Int32) (I' : JI) (L : Nat → Nat → Int64) (L' : JI) (i1 : Int32) (i1' : Int) (i2 : Int32) (i2' : Int) (i3 : Int32) (i3' : Int) (i4 : Int32) (i4' : Int) (i5 : Int32) (i5' : Int) (i6 : Int32) (i6' : Int) (i7 : Int32) (i7' : Int) (i8 : Int32) (i8' : Int) (i9 : Int32) (i9' : Int), Rli I I' → Rll L L' → Ui i1 i1' → Ui i2 i2' → Ui i3 i3' → Ui i4 i4' → Ui i5 i5' → Ui i6 i6' → Ui i7 i7' → Ui i8 i8' → Ui i9 i9' → Sim R2 (g_115 n dp e lab I L i1 i2 i3 i4 i5 i6 i7 i8 i9) (kf_115 n dp e lab I' L' i1' i2' i3' i4' i5' i6' i7' i8' i9') := by
  intro n
  induction n with
  | zero => intros; rw [kf_115.eq_1]; exact Sn
  | succ n ih =>
    intro dp e lab I I' L L' i1 i1' i2 i2' i3 i3' i4 i4' i5 i5' i6 i6' i7 i7' i8 i8' i9 i9' u_I u_L u_i1 u_i2 u_i3 u_i4 u_i5 u_i6 u_i7 u_i8 u_i9
    rw [g_115.eq_2, kf_115.eq_2]
    refine Sc Iff.rfl (fun _ => ?_) (fun _ => ?_)
    · refine Sc (ix_up u_i1) (fun c1 => ?_) (fun _ => Sn)
      refine Sg (fun g2 => ?_)
      refine SsI (ui_add (ui_mul u_i1 (rfl : Ui (64) (64)) g2.1) (ui_rd (a := 32) u_I u_i1 c1.1) g2.2) (fun v_16 v_16' u_v_16 => ?_)
      refine Sc (ix_up u_i1) (fun c3 => ?_) (fun _ => Sn)
      refine Sg (fun g4 => ?_)
      refine SsI (ui_add (ui_rd (a := 33) u_I u_i1 c3.1) (rfl : Ui (1) (1)) g4) (fun v_29 v_29' u_v_29 => ?_)
      refine SsJ (ri_up u_I (rfl : ((8 : Nat) : Int) = 8) (rfl : Ui (-1) (-1))) (fun I_33 I_33' u_I_33 => ?_)
      refine SsJ (ri_up u_I_33 (rfl : ((9 : Nat) : Int) = 9) (rfl : Ui (0) (0))) (fun I_38 I_38' u_I_38 => ?_)
      refine Sc (ix_up (u_I_38 44 3)) (fun c5 => ?_) (fun _ => Sn)
      refine SsI (ui_rd (a := 45) u_I_38 (u_I_38 44 3) c5.1) (fun v_50 v_50' u_v_50 => ?_)
      exact (ih dp e 1 _ _ _ _ _ _ _ _ _ _ _ _ _ _ _ _ _ _ _ _ _ _ u_I_38 u_L u_i1 u_i2 (ui_mul u_i1 (rfl : Ui (64) (64)) g2.1) u_v_16 u_v_29 u_v_50 (rfl : Ui 0 0) (rfl : Ui 0 0) (rfl : Ui 0 0))
    refine Sc Iff.rfl (fun _ => ?_) (fun _ => ?_)
    · refine Sg (fun g1 => ?_)
      refine Sc (ix_up (ui_add (u_I 44 3) (rfl : Ui (1) (1)) g1)) (fun c2 => ?_) (fun _ => Sn)
      refine Sc (le_up (ui_rd (a := 45) u_I (ui_add (u_I 44 3) (rfl : Ui (1) (1)) g1) c2.1) u_i6) (fun c3 => ?_) (fun c3 => ?_)
      · exact Sr ⟨u_I, u_L⟩
      · refine SbE rfl (fun b_69 => ?_)
        refine Sc (and_congr Iff.rfl (ix_up u_i6)) (fun c4 => ?_) (fun _ => Sn)
        refine SsI (ui_rd (a := b_69) u_I u_i6 c4.2.1) (fun v_75 v_75' u_v_75 => ?_)
        refine SbE rfl (fun b_78 => ?_)
        refine Sc (and_congr Iff.rfl (ix_up u_i6)) (fun c5 => ?_) (fun _ => Sn)
        refine Sc Iff.rfl (fun c6 => ?_) (fun _ => Sn)
        refine Sb3 (ks_116 n (dp - 1) e 0 _ _ _ _ _ _ u_I u_L u_v_75) (fun x0_90 x0_90' I0_90 I0_90' L0_90 L0_90' u_x0_90 u_I0_90 u_L0_90 => ?_)
        refine Sg (fun g7 => ?_)
        refine Sc (le_up (u_I0_90 44 8) (ui_add (ui_add (ui_rd (a := b_78) u_I u_i6 c5.2.1) u_x0_90 g7.1) u_i5 g7.2)) (fun c8 => ?_) (fun c8 => ?_)
        · exact (ih dp e 2 _ _ _ _ _ _ _ _ _ _ _ _ _ _ _ _ _ _ _ _ _ _ u_I0_90 u_L0_90 u_i1 u_i2 u_i3 u_i4 u_i5 u_i6 u_v_75 u_i3 (rfl : Ui 0 0))
        · exact (ih dp e 4 _ _ _ _ _ _ _ _ _ _ _ _ _ _ _ _ _ _ _ _ _ _ u_I0_90 u_L0_90 u_i1 u_i2 u_i3 u_i4 u_i5 u_i6 u_v_75 (rfl : Ui 0 0) (rfl : Ui 0 0))
    refine Sc Iff.rfl (fun _ => ?_) (fun _ => ?_)
    · refine Sc (le_up u_i4 u_i8) (fun c1 => ?_) (fun c1 => ?_)
      · exact (ih dp e 4 _ _ _ _ _ _ _ _ _ _ _ _ _ _ _ _ _ _ _ _ _ _ u_I u_L u_i1 u_i2 u_i3 u_i4 u_i5 u_i6 u_i7 (rfl : Ui 0 0) (rfl : Ui 0 0))
      · refine SbE rfl (fun b_118 => ?_)
        refine Sc (and_congr Iff.rfl (ix_up u_i6)) (fun c2 => ?_) (fun _ => Sn)
        refine Sc (ix_up u_i8) (fun c3 => ?_) (fun _ => Sn)
        refine Sc (eq_up u_i8 u_i2) (fun c4 => ?_) (fun c4 => ?_)
        · refine Sc (ix_up u_i8) (fun c5 => ?_) (fun _ => Sn)
          refine Sc Iff.rfl (fun c6 => ?_) (fun _ => Sn)
          refine Sb3 (ks_111 n (dp - 1) e 0 _ _ _ _ _ _ _ _ u_I u_L u_i7 (ui_rd (a := 27) u_I u_i8 c5.1)) (fun x0_163 x0_163' I0_163 I0_163' L0_163 L0_163' u_x0_163 u_I0_163 u_L0_163 => ?_)
          refine Sc Iff.rfl (fun c7 => ?_) (fun _ => Sn)
          refine Sb3 (ks_116 n (dp - 1) e 0 _ _ _ _ _ _ u_I0_163 u_L0_163 u_x0_163) (fun x1_166 x1_166' I1_166 I1_166' L1_166 L1_166' u_x1_166 u_I1_166 u_L1_166 => ?_)
          refine Sg (fun g8 => ?_)
          refine SsI (ui_add (ui_add (ui_add (ui_rd (a := b_118) u_I u_i6 c2.2.1) (ui_rd (a := 28) u_I u_i8 c5.1) g8.1) (rfl : Ui (1) (1)) g8.2.1) u_x1_166 g8.2.2) (fun v_170 v_170' u_v_170 => ?_)
          refine Sc (le_up u_v_170 (u_I1_166 44 8)) (fun c9 => ?_) (fun c9 => ?_)
          · refine Sc (eq_up u_v_170 (u_I1_166 44 8)) (fun c10 => ?_) (fun c10 => ?_)
            · refine SbE rfl (fun b_230 => ?_)
              refine Sc (and_congr Iff.rfl (ix_up u_i6)) (fun c11 => ?_) (fun _ => Sn)
              refine Sc (ix_up u_i8) (fun c12 => ?_) (fun _ => Sn)
              refine Sc Iff.rfl (fun c13 => ?_) (fun _ => Sn)
              refine Sb3 (ks_113 n (dp - 1) e 0 _ _ _ _ _ _ _ _ _ _ u_I1_166 u_L1_166 (u_I1_166 44 9) (ui_rd (a := b_230) u_I1_166 u_i6 c11.2.1) (ui_rd (a := 29) u_I1_166 u_i8 c12.1)) (fun x2_246 x2_246' I2_246 I2_246' L2_246 L2_246' u_x2_246 u_I2_246 u_L2_246 => ?_)
              refine SsJ (ri_up u_I2_246 (rfl : ((9 : Nat) : Int) = 9) u_x2_246) (fun I_249 I_249' u_I_249 => ?_)
              exact (ih dp e 3 _ _ _ _ _ _ _ _ _ _ _ _ _ _ _ _ _ _ _ _ _ _ u_I_249 u_L2_246 u_i1 u_i2 u_i3 u_i4 u_i5 u_i6 u_i7 u_i8 u_v_170)
            · exact (ih dp e 3 _ _ _ _ _ _ _ _ _ _ _ _ _ _ _ _ _ _ _ _ _ _ u_I1_166 u_L1_166 u_i1 u_i2 u_i3 u_i4 u_i5 u_i6 u_i7 u_i8 u_v_170)
          · refine SsJ (ri_up u_I1_166 (rfl : ((8 : Nat) : Int) = 8) u_v_170) (fun I_184 I_184' u_I_184 => ?_)
            refine SbE rfl (fun b_190 => ?_)
            refine Sc (and_congr Iff.rfl (ix_up u_i6)) (fun c14 => ?_) (fun _ => Sn)
            refine Sc (ix_up u_i8) (fun c15 => ?_) (fun _ => Sn)
            refine Sc Iff.rfl (fun c16 => ?_) (fun _ => Sn)
            refine Sb3 (ks_113 n (dp - 1) e 0 _ _ _ _ _ _ _ _ _ _ u_I_184 u_L1_166 (rfl : Ui (0) (0)) (ui_rd (a := b_190) u_I_184 u_i6 c14.2.1) (ui_rd (a := 29) u_I_184 u_i8 c15.1)) (fun x2_206 x2_206' I2_206 I2_206' L2_206 L2_206' u_x2_206 u_I2_206 u_L2_206 => ?_)
            refine SsJ (ri_up u_I2_206 (rfl : ((9 : Nat) : Int) = 9) u_x2_206) (fun I_209 I_209' u_I_209 => ?_)
            exact (ih dp e 3 _ _ _ _ _ _ _ _ _ _ _ _ _ _ _ _ _ _ _ _ _ _ u_I_209 u_L2_206 u_i1 u_i2 u_i3 u_i4 u_i5 u_i6 u_i7 u_i8 u_v_170)
        · refine Sc (ix_up u_i8) (fun c17 => ?_) (fun _ => Sn)
          refine Sc Iff.rfl (fun c18 => ?_) (fun _ => Sn)
          refine Sb3 (ks_111 n (dp - 1) e 0 _ _ _ _ _ _ _ _ u_I u_L u_i7 (ui_rd (a := 27) u_I u_i8 c17.1)) (fun x0_163 x0_163' I0_163 I0_163' L0_163 L0_163' u_x0_163 u_I0_163 u_L0_163 => ?_)
          refine Sc Iff.rfl (fun c19 => ?_) (fun _ => Sn)
          refine Sb3 (ks_116 n (dp - 1) e 0 _ _ _ _ _ _ u_I0_163 u_L0_163 u_x0_163) (fun x1_166 x1_166' I1_166 I1_166' L1_166 L1_166' u_x1_166 u_I1_166 u_L1_166 => ?_)
          refine Sg (fun g20 => ?_)
          refine SsI (ui_add (ui_add (ui_add (ui_rd (a := b_118) u_I u_i6 c2.2.1) (ui_rd (a := 28) u_I u_i8 c17.1) g20.1) (rfl : Ui (0) (0)) g20.2.1) u_x1_166 g20.2.2) (fun v_170 v_170' u_v_170 => ?_)
          refine Sc (le_up u_v_170 (u_I1_166 44 8)) (fun c21 => ?_) (fun c21 => ?_)
          · refine Sc (eq_up u_v_170 (u_I1_166 44 8)) (fun c22 => ?_) (fun c22 => ?_)
            · refine SbE rfl (fun b_230 => ?_)
              refine Sc (and_congr Iff.rfl (ix_up u_i6)) (fun c23 => ?_) (fun _ => Sn)
              refine Sc (ix_up u_i8) (fun c24 => ?_) (fun _ => Sn)
              refine Sc Iff.rfl (fun c25 => ?_) (fun _ => Sn)
              refine Sb3 (ks_113 n (dp - 1) e 0 _ _ _ _ _ _ _ _ _ _ u_I1_166 u_L1_166 (u_I1_166 44 9) (ui_rd (a := b_230) u_I1_166 u_i6 c23.2.1) (ui_rd (a := 29) u_I1_166 u_i8 c24.1)) (fun x2_246 x2_246' I2_246 I2_246' L2_246 L2_246' u_x2_246 u_I2_246 u_L2_246 => ?_)
              refine SsJ (ri_up u_I2_246 (rfl : ((9 : Nat) : Int) = 9) u_x2_246) (fun I_249 I_249' u_I_249 => ?_)
              exact (ih dp e 3 _ _ _ _ _ _ _ _ _ _ _ _ _ _ _ _ _ _ _ _ _ _ u_I_249 u_L2_246 u_i1 u_i2 u_i3 u_i4 u_i5 u_i6 u_i7 u_i8 u_v_170)
            · exact (ih dp e 3 _ _ _ _ _ _ _ _ _ _ _ _ _ _ _ _ _ _ _ _ _ _ u_I1_166 u_L1_166 u_i1 u_i2 u_i3 u_i4 u_i5 u_i6 u_i7 u_i8 u_v_170)
          · refine SsJ (ri_up u_I1_166 (rfl : ((8 : Nat) : Int) = 8) u_v_170) (fun I_184 I_184' u_I_184 => ?_)
            refine SbE rfl (fun b_190 => ?_)
            refine Sc (and_congr Iff.rfl (ix_up u_i6)) (fun c26 => ?_) (fun _ => Sn)
            refine Sc (ix_up u_i8) (fun c27 => ?_) (fun _ => Sn)
            refine Sc Iff.rfl (fun c28 => ?_) (fun _ => Sn)
            refine Sb3 (ks_113 n (dp - 1) e 0 _ _ _ _ _ _ _ _ _ _ u_I_184 u_L1_166 (rfl : Ui (0) (0)) (ui_rd (a := b_190) u_I_184 u_i6 c26.2.1) (ui_rd (a := 29) u_I_184 u_i8 c27.1)) (fun x2_206 x2_206' I2_206 I2_206' L2_206 L2_206' u_x2_206 u_I2_206 u_L2_206 => ?_)
            refine SsJ (ri_up u_I2_206 (rfl : ((9 : Nat) : Int) = 9) u_x2_206) (fun I_209 I_209' u_I_209 => ?_)
            exact (ih dp e 3 _ _ _ _ _ _ _ _ _ _ _ _ _ _ _ _ _ _ _ _ _ _ u_I_209 u_L2_206 u_i1 u_i2 u_i3 u_i4 u_i5 u_i6 u_i7 u_i8 u_v_170)
    refine Sc Iff.rfl (fun _ => ?_) (fun _ => ?_)
    · refine Sg (fun g1 => ?_)
      exact (ih dp e 2 _ _ _ _ _ _ _ _ _ _ _ _ _ _ _ _ _ _ _ _ _ _ u_I u_L u_i1 u_i2 u_i3 u_i4 u_i5 u_i6 u_i7 (ui_add u_i8 (rfl : Ui (Int32.ofInt (1)) (1)) g1) (rfl : Ui 0 0))
    refine Sc Iff.rfl (fun _ => ?_) (fun _ => ?_)
    · refine Sg (fun g1 => ?_)
      exact (ih dp e 1 _ _ _ _ _ _ _ _ _ _ _ _ _ _ _ _ _ _ _ _ _ _ u_I u_L u_i1 u_i2 u_i3 u_i4 u_i5 (ui_add u_i6 (rfl : Ui (Int32.ofInt (1)) (1)) g1) (rfl : Ui 0 0) (rfl : Ui 0 0) (rfl : Ui 0 0))
    exact Sn
set_option maxHeartbeats 4000000 in
set_option maxRecDepth 100000 in
def kf_117 : Nat → Nat → EN → Nat → JI → JI → Option (Int × JI × JI)
  | 0, _, _, _, _, _ => none
  | n + 1, dp, e, lab, I, L =>
    if lab = 0 then (if 1 ≤ dp then ((kf_94 n (dp - 1) e 0 I L (I 2 0) (I 2 1) (I 2 2)).bind (fun ⟨x0_31, I0_31, L0_31⟩ => (if 0 ≤ x0_31 ∧ x0_31 < 729 then (some (((I0_31 51 x0_31) : Int), I0_31, L0_31)) else none))) else none)
    else none
set_option maxRecDepth 100000 in
theorem ke_117_0 (n : Nat) (dp : Nat) (e : EN) (I : JI) (L : JI) : kf_117 (n + 1) dp e 0 I L = (if 1 ≤ dp then ((kf_94 n (dp - 1) e 0 I L (I 2 0) (I 2 1) (I 2 2)).bind (fun ⟨x0_31, I0_31, L0_31⟩ => (if 0 ≤ x0_31 ∧ x0_31 < 729 then (some (((I0_31 51 x0_31) : Int), I0_31, L0_31)) else none))) else none) := by rw [kf_117.eq_2, if_pos (show (0 : Nat) = 0 from rfl)]
set_option maxHeartbeats 8000000 in
set_option maxRecDepth 100000 in
theorem ks_117 : ∀ (n : Nat) (dp : Nat) (e : EN) (lab : Nat) (I : Nat → Nat → Int32) (I' : JI) (L : Nat → Nat → Int64) (L' : JI), Rli I I' → Rll L L' → Sim R3 (g_117 n dp e lab I L) (kf_117 n dp e lab I' L') := by
  intro n
  induction n with
  | zero => intros; rw [kf_117.eq_1]; exact Sn
  | succ n ih =>
    intro dp e lab I I' L L' u_I u_L
    rw [g_117.eq_2, kf_117.eq_2]
    refine Sc Iff.rfl (fun _ => ?_) (fun _ => ?_)
    · refine Sc Iff.rfl (fun c1 => ?_) (fun _ => Sn)
      refine Sb3 (ks_94 n (dp - 1) e 0 _ _ _ _ _ _ _ _ _ _ u_I u_L (u_I 2 0) (u_I 2 1) (u_I 2 2)) (fun x0_31 x0_31' I0_31 I0_31' L0_31 L0_31' u_x0_31 u_I0_31 u_L0_31 => ?_)
      refine Sc (ix_up u_x0_31) (fun c2 => ?_) (fun _ => Sn)
      exact Sr ⟨(ui_rd (a := 51) u_I0_31 u_x0_31 c2.1), u_I0_31, u_L0_31⟩
    exact Sn
set_option maxHeartbeats 4000000 in
set_option maxRecDepth 100000 in
def kf_118 : Nat → Nat → EN → Nat → JI → JI → Option (Int × JI × JI)
  | 0, _, _, _, _, _ => none
  | n + 1, dp, e, lab, I, L =>
    if lab = 0 then (if 1 ≤ dp then ((kf_94 n (dp - 1) e 0 I L (I 2 0) (I 2 1) (I 2 2)).bind (fun ⟨x0_31, I0_31, L0_31⟩ => (if 0 ≤ x0_31 ∧ x0_31 < 729 then (some (((I0_31 52 x0_31) : Int), I0_31, L0_31)) else none))) else none)
    else none
set_option maxRecDepth 100000 in
theorem ke_118_0 (n : Nat) (dp : Nat) (e : EN) (I : JI) (L : JI) : kf_118 (n + 1) dp e 0 I L = (if 1 ≤ dp then ((kf_94 n (dp - 1) e 0 I L (I 2 0) (I 2 1) (I 2 2)).bind (fun ⟨x0_31, I0_31, L0_31⟩ => (if 0 ≤ x0_31 ∧ x0_31 < 729 then (some (((I0_31 52 x0_31) : Int), I0_31, L0_31)) else none))) else none) := by rw [kf_118.eq_2, if_pos (show (0 : Nat) = 0 from rfl)]
set_option maxHeartbeats 8000000 in
set_option maxRecDepth 100000 in
theorem ks_118 : ∀ (n : Nat) (dp : Nat) (e : EN) (lab : Nat) (I : Nat → Nat → Int32) (I' : JI) (L : Nat → Nat → Int64) (L' : JI), Rli I I' → Rll L L' → Sim R3 (g_118 n dp e lab I L) (kf_118 n dp e lab I' L') := by
  intro n
  induction n with
  | zero => intros; rw [kf_118.eq_1]; exact Sn
  | succ n ih =>
    intro dp e lab I I' L L' u_I u_L
    rw [g_118.eq_2, kf_118.eq_2]
    refine Sc Iff.rfl (fun _ => ?_) (fun _ => ?_)
    · refine Sc Iff.rfl (fun c1 => ?_) (fun _ => Sn)
      refine Sb3 (ks_94 n (dp - 1) e 0 _ _ _ _ _ _ _ _ _ _ u_I u_L (u_I 2 0) (u_I 2 1) (u_I 2 2)) (fun x0_31 x0_31' I0_31 I0_31' L0_31 L0_31' u_x0_31 u_I0_31 u_L0_31 => ?_)
      refine Sc (ix_up u_x0_31) (fun c2 => ?_) (fun _ => Sn)
      exact Sr ⟨(ui_rd (a := 52) u_I0_31 u_x0_31 c2.1), u_I0_31, u_L0_31⟩
    exact Sn
set_option maxHeartbeats 4000000 in
set_option maxRecDepth 100000 in
def kf_121 : Nat → Nat → EN → Nat → JI → JI → Int → Option (Int × JI × JI)
  | 0, _, _, _, _, _, _ => none
  | n + 1, dp, e, lab, I, L, i1 =>
    if lab = 0 then (if (I 2 0) ≤ i1 then (if -2147483648 ≤ (I 2 0) + (I 2 1) ∧ (I 2 0) + (I 2 1) ≤ 2147483647 then (if ((I 2 0) + (I 2 1)) ≤ i1 then (some ((2 : Int), I, L)) else (some ((1 : Int), I, L))) else none) else (some ((0 : Int), I, L)))
    else none
set_option maxRecDepth 100000 in
theorem ke_121_0 (n : Nat) (dp : Nat) (e : EN) (I : JI) (L : JI) (i1 : Int) : kf_121 (n + 1) dp e 0 I L i1 = (if (I 2 0) ≤ i1 then (if -2147483648 ≤ (I 2 0) + (I 2 1) ∧ (I 2 0) + (I 2 1) ≤ 2147483647 then (if ((I 2 0) + (I 2 1)) ≤ i1 then (some ((2 : Int), I, L)) else (some ((1 : Int), I, L))) else none) else (some ((0 : Int), I, L))) := by rw [kf_121.eq_2, if_pos (show (0 : Nat) = 0 from rfl)]
set_option maxHeartbeats 8000000 in
set_option maxRecDepth 100000 in
theorem ks_121 : ∀ (n : Nat) (dp : Nat) (e : EN) (lab : Nat) (I : Nat → Nat → Int32) (I' : JI) (L : Nat → Nat → Int64) (L' : JI) (i1 : Int32) (i1' : Int), Rli I I' → Rll L L' → Ui i1 i1' → Sim R3 (g_121 n dp e lab I L i1) (kf_121 n dp e lab I' L' i1') := by
  intro n
  induction n with
  | zero => intros; rw [kf_121.eq_1]; exact Sn
  | succ n ih =>
    intro dp e lab I I' L L' i1 i1' u_I u_L u_i1
    rw [g_121.eq_2, kf_121.eq_2]
    refine Sc Iff.rfl (fun _ => ?_) (fun _ => ?_)
    · refine Sc (le_up (u_I 2 0) u_i1) (fun c1 => ?_) (fun c1 => ?_)
      · refine Sg (fun g2 => ?_)
        refine Sc (le_up (ui_add (u_I 2 0) (u_I 2 1) g2) u_i1) (fun c3 => ?_) (fun c3 => ?_)
        · exact Sr ⟨(rfl : Ui (2) (2)), u_I, u_L⟩
        · exact Sr ⟨(rfl : Ui (1) (1)), u_I, u_L⟩
      · exact Sr ⟨(rfl : Ui (0) (0)), u_I, u_L⟩
    exact Sn
set_option maxHeartbeats 4000000 in
set_option maxRecDepth 100000 in
def kf_123 : Nat → Nat → EN → Nat → JI → JI → Int → Int → Int → Int → Int → Option (Int × JI × JI)
  | 0, _, _, _, _, _, _, _, _, _, _ => none
  | n + 1, dp, e, lab, I, L, i1, i2, i3, i4, i5 =>
    if lab = 0 then (if 0 ≤ i1 ∧ i1 < 10 then (stI (I 45 i1) (fun v_17 => (if -2147483648 ≤ i2 - (I 26 18) ∧ i2 - (I 26 18) ≤ 2147483647 then (kf_123 n dp e 1 I L i1 i2 i3 (i2 - (I 26 18)) v_17) else none))) else none)
    else if lab = 1 then (if -2147483648 ≤ i1 + 1 ∧ i1 + 1 ≤ 2147483647 then (if 0 ≤ (i1 + 1) ∧ (i1 + 1) < 10 then (if (I 45 (i1 + 1)) ≤ i5 then (some ((0 : Int), I, L)) else ((e.2.2 44 5).bind (fun b_33 => (if ((b_33 < e.1) ∧ (((e.2.1 b_33).1 = 13) ∧ ((e.2.1 b_33).2 < (2 ^ 31)))) ∧ (0 ≤ i5 ∧ i5 < (((e.2.1 b_33).2 : Nat) : Int)) then ((e.2.2 44 4).bind (fun b_44 => (if ((b_44 < e.1) ∧ (((e.2.1 b_44).1 = 13) ∧ ((e.2.1 b_44).2 < (2 ^ 31)))) ∧ (0 ≤ i5 ∧ i5 < (((e.2.1 b_44).2 : Nat) : Int)) then (if 1 ≤ dp then ((kf_111 n (dp - 1) e 0 I L (I b_44 i5) i4).bind (fun ⟨x0_52, I0_52, L0_52⟩ => (if 1 ≤ dp then ((kf_116 n (dp - 1) e 0 I0_52 L0_52 x0_52).bind (fun ⟨x1_55, I1_55, L1_55⟩ => (if -2147483648 ≤ (I b_33 i5) + x1_55 ∧ (I b_33 i5) + x1_55 ≤ 2147483647 then (if ((I b_33 i5) + x1_55) = i3 then (some ((1 : Int), I1_55, L1_55)) else (if -2147483648 ≤ i5 + 1 ∧ i5 + 1 ≤ 2147483647 then (kf_123 n dp e 1 I1_55 L1_55 i1 i2 i3 i4 (i5 + 1)) else none)) else none))) else none))) else none) else none))) else none)))) else none) else none)
    else none
set_option maxRecDepth 100000 in
theorem ke_123_0 (n : Nat) (dp : Nat) (e : EN) (I : JI) (L : JI) (i1 : Int) (i2 : Int) (i3 : Int) (i4 : Int) (i5 : Int) : kf_123 (n + 1) dp e 0 I L i1 i2 i3 i4 i5 = (if 0 ≤ i1 ∧ i1 < 10 then (stI (I 45 i1) (fun v_17 => (if -2147483648 ≤ i2 - (I 26 18) ∧ i2 - (I 26 18) ≤ 2147483647 then (kf_123 n dp e 1 I L i1 i2 i3 (i2 - (I 26 18)) v_17) else none))) else none) := by rw [kf_123.eq_2, if_pos (show (0 : Nat) = 0 from rfl)]
set_option maxRecDepth 100000 in
theorem ke_123_1 (n : Nat) (dp : Nat) (e : EN) (I : JI) (L : JI) (i1 : Int) (i2 : Int) (i3 : Int) (i4 : Int) (i5 : Int) : kf_123 (n + 1) dp e 1 I L i1 i2 i3 i4 i5 = (if -2147483648 ≤ i1 + 1 ∧ i1 + 1 ≤ 2147483647 then (if 0 ≤ (i1 + 1) ∧ (i1 + 1) < 10 then (if (I 45 (i1 + 1)) ≤ i5 then (some ((0 : Int), I, L)) else ((e.2.2 44 5).bind (fun b_33 => (if ((b_33 < e.1) ∧ (((e.2.1 b_33).1 = 13) ∧ ((e.2.1 b_33).2 < (2 ^ 31)))) ∧ (0 ≤ i5 ∧ i5 < (((e.2.1 b_33).2 : Nat) : Int)) then ((e.2.2 44 4).bind (fun b_44 => (if ((b_44 < e.1) ∧ (((e.2.1 b_44).1 = 13) ∧ ((e.2.1 b_44).2 < (2 ^ 31)))) ∧ (0 ≤ i5 ∧ i5 < (((e.2.1 b_44).2 : Nat) : Int)) then (if 1 ≤ dp then ((kf_111 n (dp - 1) e 0 I L (I b_44 i5) i4).bind (fun ⟨x0_52, I0_52, L0_52⟩ => (if 1 ≤ dp then ((kf_116 n (dp - 1) e 0 I0_52 L0_52 x0_52).bind (fun ⟨x1_55, I1_55, L1_55⟩ => (if -2147483648 ≤ (I b_33 i5) + x1_55 ∧ (I b_33 i5) + x1_55 ≤ 2147483647 then (if ((I b_33 i5) + x1_55) = i3 then (some ((1 : Int), I1_55, L1_55)) else (if -2147483648 ≤ i5 + 1 ∧ i5 + 1 ≤ 2147483647 then (kf_123 n dp e 1 I1_55 L1_55 i1 i2 i3 i4 (i5 + 1)) else none)) else none))) else none))) else none) else none))) else none)))) else none) else none) := by rw [kf_123.eq_2, if_neg (show ¬ ((1 : Nat) = 0) by decide), if_pos (show (1 : Nat) = 1 from rfl)]
set_option maxHeartbeats 8000000 in
set_option maxRecDepth 100000 in
theorem ks_123 : ∀ (n : Nat) (dp : Nat) (e : EN) (lab : Nat) (I : Nat → Nat → Int32) (I' : JI) (L : Nat → Nat → Int64) (L' : JI) (i1 : Int32) (i1' : Int) (i2 : Int32) (i2' : Int) (i3 : Int32) (i3' : Int) (i4 : Int32) (i4' : Int) (i5 : Int32) (i5' : Int), Rli I I' → Rll L L' → Ui i1 i1' → Ui i2 i2' → Ui i3 i3' → Ui i4 i4' → Ui i5 i5' → Sim R3 (g_123 n dp e lab I L i1 i2 i3 i4 i5) (kf_123 n dp e lab I' L' i1' i2' i3' i4' i5') := by
  intro n
  induction n with
  | zero => intros; rw [kf_123.eq_1]; exact Sn
  | succ n ih =>
    intro dp e lab I I' L L' i1 i1' i2 i2' i3 i3' i4 i4' i5 i5' u_I u_L u_i1 u_i2 u_i3 u_i4 u_i5
    rw [g_123.eq_2, kf_123.eq_2]
    refine Sc Iff.rfl (fun _ => ?_) (fun _ => ?_)
    · refine Sc (ix_up u_i1) (fun c1 => ?_) (fun _ => Sn)
      refine SsI (ui_rd (a := 45) u_I u_i1 c1.1) (fun v_17 v_17' u_v_17 => ?_)
      refine Sg (fun g2 => ?_)
      exact (ih dp e 1 _ _ _ _ _ _ _ _ _ _ _ _ _ _ u_I u_L u_i1 u_i2 u_i3 (ui_sub u_i2 (u_I 26 18) g2) u_v_17)
    refine Sc Iff.rfl (fun _ => ?_) (fun _ => ?_)
    · refine Sg (fun g1 => ?_)
      refine Sc (ix_up (ui_add u_i1 (rfl : Ui (1) (1)) g1)) (fun c2 => ?_) (fun _ => Sn)
      refine Sc (le_up (ui_rd (a := 45) u_I (ui_add u_i1 (rfl : Ui (1) (1)) g1) c2.1) u_i5) (fun c3 => ?_) (fun c3 => ?_)
      · exact Sr ⟨(rfl : Ui (0) (0)), u_I, u_L⟩
      · refine SbE rfl (fun b_33 => ?_)
        refine Sc (and_congr Iff.rfl (ix_up u_i5)) (fun c4 => ?_) (fun _ => Sn)
        refine SbE rfl (fun b_44 => ?_)
        refine Sc (and_congr Iff.rfl (ix_up u_i5)) (fun c5 => ?_) (fun _ => Sn)
        refine Sc Iff.rfl (fun c6 => ?_) (fun _ => Sn)
        refine Sb3 (ks_111 n (dp - 1) e 0 _ _ _ _ _ _ _ _ u_I u_L (ui_rd (a := b_44) u_I u_i5 c5.2.1) u_i4) (fun x0_52 x0_52' I0_52 I0_52' L0_52 L0_52' u_x0_52 u_I0_52 u_L0_52 => ?_)
        refine Sc Iff.rfl (fun c7 => ?_) (fun _ => Sn)
        refine Sb3 (ks_116 n (dp - 1) e 0 _ _ _ _ _ _ u_I0_52 u_L0_52 u_x0_52) (fun x1_55 x1_55' I1_55 I1_55' L1_55 L1_55' u_x1_55 u_I1_55 u_L1_55 => ?_)
        refine Sg (fun g8 => ?_)
        refine Sc (eq_up (ui_add (ui_rd (a := b_33) u_I u_i5 c5.2.1) u_x1_55 g8) u_i3) (fun c9 => ?_) (fun c9 => ?_)
        · exact Sr ⟨(rfl : Ui (1) (1)), u_I1_55, u_L1_55⟩
        · refine Sg (fun g10 => ?_)
          exact (ih dp e 1 _ _ _ _ _ _ _ _ _ _ _ _ _ _ u_I1_55 u_L1_55 u_i1 u_i2 u_i3 u_i4 (ui_add u_i5 (rfl : Ui (Int32.ofInt (1)) (1)) g10))
    exact Sn
set_option maxHeartbeats 4000000 in
set_option maxRecDepth 100000 in
def kf_122 : Nat → Nat → EN → Nat → JI → JI → Int → Int → Int → Int → Int → Int → Int → Option (Int × JI × JI)
  | 0, _, _, _, _, _, _, _, _, _, _, _, _ => none
  | n + 1, dp, e, lab, I, L, i1, i2, i3, i4, i5, i6, i7 =>
    if lab = 0 then (if -2147483648 ≤ i1 * 64 ∧ i1 * 64 ≤ 2147483647 then (kf_122 n dp e 1 I L i1 i2 i3 i4 (i1 * 64) 0 0) else none)
    else if lab = 1 then (if 0 ≤ i1 ∧ i1 < 3 then ((e.2.2 25 (Int.toNat i1)).bind (fun b_16 => (if (b_16 < e.1) ∧ ((e.2.1 b_16).1 = 2) then (if (I b_16 4) ≤ i6 then (some ((i5 : Int), I, L)) else (if 64 ≤ i6 then (some ((i5 : Int), I, L)) else (if -2147483648 ≤ i5 + i6 ∧ i5 + i6 ≤ 2147483647 then (if 0 ≤ (i5 + i6) ∧ (i5 + i6) < 192 then (stI (I 31 (i5 + i6)) (fun v_43 => (if 0 ≤ v_43 ∧ v_43 < 192 then (if (I 30 v_43) = i6 then (if 0 ≤ v_43 ∧ v_43 < 192 then (if 1 ≤ dp then ((kf_111 n (dp - 1) e 0 I L i3 (I 27 v_43)).bind (fun ⟨x0_76, I0_76, L0_76⟩ => (if 0 ≤ v_43 ∧ v_43 < 192 then (if 1 ≤ dp then (if -2147483648 ≤ i4 - (I0_76 28 v_43) ∧ i4 - (I0_76 28 v_43) ≤ 2147483647 then ((kf_123 n (dp - 1) e 0 I0_76 L0_76 i2 x0_76 (i4 - (I0_76 28 v_43)) 0 0).bind (fun ⟨x1_92, I1_92, L1_92⟩ => (if x1_92 = 0 then (kf_122 n dp e 2 I1_92 L1_92 i1 i2 i3 i4 i5 i6 v_43) else (some ((v_43 : Int), I1_92, L1_92))))) else none) else none) else none))) else none) else none) else (kf_122 n dp e 2 I L i1 i2 i3 i4 i5 i6 v_43)) else none))) else none) else none))) else none))) else none)
    else if lab = 2 then (if -2147483648 ≤ i6 + 1 ∧ i6 + 1 ≤ 2147483647 then (kf_122 n dp e 1 I L i1 i2 i3 i4 i5 (i6 + 1) 0) else none)
    else none
set_option maxRecDepth 100000 in
theorem ke_122_0 (n : Nat) (dp : Nat) (e : EN) (I : JI) (L : JI) (i1 : Int) (i2 : Int) (i3 : Int) (i4 : Int) (i5 : Int) (i6 : Int) (i7 : Int) : kf_122 (n + 1) dp e 0 I L i1 i2 i3 i4 i5 i6 i7 = (if -2147483648 ≤ i1 * 64 ∧ i1 * 64 ≤ 2147483647 then (kf_122 n dp e 1 I L i1 i2 i3 i4 (i1 * 64) 0 0) else none) := by rw [kf_122.eq_2, if_pos (show (0 : Nat) = 0 from rfl)]
set_option maxRecDepth 100000 in
theorem ke_122_1 (n : Nat) (dp : Nat) (e : EN) (I : JI) (L : JI) (i1 : Int) (i2 : Int) (i3 : Int) (i4 : Int) (i5 : Int) (i6 : Int) (i7 : Int) : kf_122 (n + 1) dp e 1 I L i1 i2 i3 i4 i5 i6 i7 = (if 0 ≤ i1 ∧ i1 < 3 then ((e.2.2 25 (Int.toNat i1)).bind (fun b_16 => (if (b_16 < e.1) ∧ ((e.2.1 b_16).1 = 2) then (if (I b_16 4) ≤ i6 then (some ((i5 : Int), I, L)) else (if 64 ≤ i6 then (some ((i5 : Int), I, L)) else (if -2147483648 ≤ i5 + i6 ∧ i5 + i6 ≤ 2147483647 then (if 0 ≤ (i5 + i6) ∧ (i5 + i6) < 192 then (stI (I 31 (i5 + i6)) (fun v_43 => (if 0 ≤ v_43 ∧ v_43 < 192 then (if (I 30 v_43) = i6 then (if 0 ≤ v_43 ∧ v_43 < 192 then (if 1 ≤ dp then ((kf_111 n (dp - 1) e 0 I L i3 (I 27 v_43)).bind (fun ⟨x0_76, I0_76, L0_76⟩ => (if 0 ≤ v_43 ∧ v_43 < 192 then (if 1 ≤ dp then (if -2147483648 ≤ i4 - (I0_76 28 v_43) ∧ i4 - (I0_76 28 v_43) ≤ 2147483647 then ((kf_123 n (dp - 1) e 0 I0_76 L0_76 i2 x0_76 (i4 - (I0_76 28 v_43)) 0 0).bind (fun ⟨x1_92, I1_92, L1_92⟩ => (if x1_92 = 0 then (kf_122 n dp e 2 I1_92 L1_92 i1 i2 i3 i4 i5 i6 v_43) else (some ((v_43 : Int), I1_92, L1_92))))) else none) else none) else none))) else none) else none) else (kf_122 n dp e 2 I L i1 i2 i3 i4 i5 i6 v_43)) else none))) else none) else none))) else none))) else none) := by rw [kf_122.eq_2, if_neg (show ¬ ((1 : Nat) = 0) by decide), if_pos (show (1 : Nat) = 1 from rfl)]
set_option maxRecDepth 100000 in
theorem ke_122_2 (n : Nat) (dp : Nat) (e : EN) (I : JI) (L : JI) (i1 : Int) (i2 : Int) (i3 : Int) (i4 : Int) (i5 : Int) (i6 : Int) (i7 : Int) : kf_122 (n + 1) dp e 2 I L i1 i2 i3 i4 i5 i6 i7 = (if -2147483648 ≤ i6 + 1 ∧ i6 + 1 ≤ 2147483647 then (kf_122 n dp e 1 I L i1 i2 i3 i4 i5 (i6 + 1) 0) else none) := by rw [kf_122.eq_2, if_neg (show ¬ ((2 : Nat) = 0) by decide), if_neg (show ¬ ((2 : Nat) = 1) by decide), if_pos (show (2 : Nat) = 2 from rfl)]
set_option maxHeartbeats 8000000 in
set_option maxRecDepth 100000 in
theorem ks_122 : ∀ (n : Nat) (dp : Nat) (e : EN) (lab : Nat) (I : Nat → Nat → Int32) (I' : JI) (L : Nat → Nat → Int64) (L' : JI) (i1 : Int32) (i1' : Int) (i2 : Int32) (i2' : Int) (i3 : Int32) (i3' : Int) (i4 : Int32) (i4' : Int) (i5 : Int32) (i5' : Int) (i6 : Int32) (i6' : Int) (i7 : Int32) (i7' : Int), Rli I I' → Rll L L' → Ui i1 i1' → Ui i2 i2' → Ui i3 i3' → Ui i4 i4' → Ui i5 i5' → Ui i6 i6' → Ui i7 i7' → Sim R3 (g_122 n dp e lab I L i1 i2 i3 i4 i5 i6 i7) (kf_122 n dp e lab I' L' i1' i2' i3' i4' i5' i6' i7') := by
  intro n
  induction n with
  | zero => intros; rw [kf_122.eq_1]; exact Sn
  | succ n ih =>
    intro dp e lab I I' L L' i1 i1' i2 i2' i3 i3' i4 i4' i5 i5' i6 i6' i7 i7' u_I u_L u_i1 u_i2 u_i3 u_i4 u_i5 u_i6 u_i7
    rw [g_122.eq_2, kf_122.eq_2]
    refine Sc Iff.rfl (fun _ => ?_) (fun _ => ?_)
    · refine Sg (fun g1 => ?_)
      exact (ih dp e 1 _ _ _ _ _ _ _ _ _ _ _ _ _ _ _ _ _ _ u_I u_L u_i1 u_i2 u_i3 u_i4 (ui_mul u_i1 (rfl : Ui (64) (64)) g1) (rfl : Ui (0) (0)) (rfl : Ui 0 0))
    refine Sc Iff.rfl (fun _ => ?_) (fun _ => ?_)
    · refine Sc (ix_up u_i1) (fun c1 => ?_) (fun _ => Sn)
      refine SbE (by first | (rw [cl_up u_i1]; done) | (rw [cl_up u_i1]; rfl)) (fun b_16 => ?_)
      refine Sc Iff.rfl (fun c2 => ?_) (fun _ => Sn)
      refine Sc (le_up (u_I b_16 4) u_i6) (fun c3 => ?_) (fun c3 => ?_)
      · exact Sr ⟨u_i5, u_I, u_L⟩
      · refine Sc (le_up (rfl : Ui (64) (64)) u_i6) (fun c4 => ?_) (fun c4 => ?_)
        · exact Sr ⟨u_i5, u_I, u_L⟩
        · refine Sg (fun g5 => ?_)
          refine Sc (ix_up (ui_add u_i5 u_i6 g5)) (fun c6 => ?_) (fun _ => Sn)
          refine SsI (ui_rd (a := 31) u_I (ui_add u_i5 u_i6 g5) c6.1) (fun v_43 v_43' u_v_43 => ?_)
          refine Sc (ix_up u_v_43) (fun c7 => ?_) (fun _ => Sn)
          refine Sc (eq_up (ui_rd (a := 30) u_I u_v_43 c7.1) u_i6) (fun c8 => ?_) (fun c8 => ?_)
          · refine Sc (ix_up u_v_43) (fun c9 => ?_) (fun _ => Sn)
            refine Sc Iff.rfl (fun c10 => ?_) (fun _ => Sn)
            refine Sb3 (ks_111 n (dp - 1) e 0 _ _ _ _ _ _ _ _ u_I u_L u_i3 (ui_rd (a := 27) u_I u_v_43 c9.1)) (fun x0_76 x0_76' I0_76 I0_76' L0_76 L0_76' u_x0_76 u_I0_76 u_L0_76 => ?_)
            refine Sc (ix_up u_v_43) (fun c11 => ?_) (fun _ => Sn)
            refine Sc Iff.rfl (fun c12 => ?_) (fun _ => Sn)
            refine Sg (fun g13 => ?_)
            refine Sb3 (ks_123 n (dp - 1) e 0 _ _ _ _ _ _ _ _ _ _ _ _ _ _ u_I0_76 u_L0_76 u_i2 u_x0_76 (ui_sub u_i4 (ui_rd (a := 28) u_I0_76 u_v_43 c11.1) g13) (rfl : Ui 0 0) (rfl : Ui 0 0)) (fun x1_92 x1_92' I1_92 I1_92' L1_92 L1_92' u_x1_92 u_I1_92 u_L1_92 => ?_)
            refine Sc (eq_up u_x1_92 (rfl : Ui 0 0)) (fun c14 => ?_) (fun c14 => ?_)
            · exact (ih dp e 2 _ _ _ _ _ _ _ _ _ _ _ _ _ _ _ _ _ _ u_I1_92 u_L1_92 u_i1 u_i2 u_i3 u_i4 u_i5 u_i6 u_v_43)
            · exact Sr ⟨u_v_43, u_I1_92, u_L1_92⟩
          · exact (ih dp e 2 _ _ _ _ _ _ _ _ _ _ _ _ _ _ _ _ _ _ u_I u_L u_i1 u_i2 u_i3 u_i4 u_i5 u_i6 u_v_43)
    refine Sc Iff.rfl (fun _ => ?_) (fun _ => ?_)
    · refine Sg (fun g1 => ?_)
      exact (ih dp e 1 _ _ _ _ _ _ _ _ _ _ _ _ _ _ _ _ _ _ u_I u_L u_i1 u_i2 u_i3 u_i4 u_i5 (ui_add u_i6 (rfl : Ui (Int32.ofInt (1)) (1)) g1) (rfl : Ui 0 0))
    exact Sn
set_option maxHeartbeats 4000000 in
set_option maxRecDepth 100000 in
def kf_125 : Nat → Nat → EN → Nat → JI → JI → Int → Int → Int → Int → Option (Int × JI × JI)
  | 0, _, _, _, _, _, _, _, _, _ => none
  | n + 1, dp, e, lab, I, L, i1, i2, i3, i4 =>
    if lab = 0 then (if 1 ≤ dp then ((kf_16 n (dp - 1) e 0 I L).bind (fun ⟨x0_6, I0_6, L0_6⟩ => (kf_125 n dp e 1 I0_6 L0_6 i1 0 x0_6 0))) else none)
    else if lab = 1 then (if i3 ≤ i4 then (some ((i2 : Int), I, L)) else (if 1 ≤ dp then ((kf_121 n (dp - 1) e 0 I L i4).bind (fun ⟨x0_30, I0_30, L0_30⟩ => (if 0 ≤ x0_30 ∧ x0_30 < 3 then ((e.2.2 25 (Int.toNat x0_30)).bind (fun b_33 => (if (b_33 < e.1) ∧ ((e.2.1 b_33).1 = 2) then ((e.2.2 b_33 1).bind (fun b_34 => (if 0 ≤ i4 ∧ i4 < 8 then (if (-2147483648 ≤ (I0_30 55 i4) * 10 ∧ (I0_30 55 i4) * 10 ≤ 2147483647) ∧ (-2147483648 ≤ ((I0_30 55 i4) * 10) + i1 ∧ ((I0_30 55 i4) * 10) + i1 ≤ 2147483647) then (if ((b_34 < e.1) ∧ (((e.2.1 b_34).1 = 13) ∧ ((e.2.1 b_34).2 < (2 ^ 31)))) ∧ (0 ≤ (((I0_30 55 i4) * 10) + i1) ∧ (((I0_30 55 i4) * 10) + i1) < (((e.2.1 b_34).2 : Nat) : Int)) then (if -2147483648 ≤ i2 + (I0_30 b_34 (((I0_30 55 i4) * 10) + i1)) ∧ i2 + (I0_30 b_34 (((I0_30 55 i4) * 10) + i1)) ≤ 2147483647 then (stI (i2 + (I0_30 b_34 (((I0_30 55 i4) * 10) + i1))) (fun v_51 => (if -2147483648 ≤ i4 + 1 ∧ i4 + 1 ≤ 2147483647 then (kf_125 n dp e 1 I0_30 L0_30 i1 v_51 i3 (i4 + 1)) else none))) else none) else none) else none) else none))) else none))) else none))) else none))
    else none
set_option maxRecDepth 100000 in
theorem ke_125_0 (n : Nat) (dp : Nat) (e : EN) (I : JI) (L : JI) (i1 : Int) (i2 : Int) (i3 : Int) (i4 : Int) : kf_125 (n + 1) dp e 0 I L i1 i2 i3 i4 = (if 1 ≤ dp then ((kf_16 n (dp - 1) e 0 I L).bind (fun ⟨x0_6, I0_6, L0_6⟩ => (kf_125 n dp e 1 I0_6 L0_6 i1 0 x0_6 0))) else none) := by rw [kf_125.eq_2, if_pos (show (0 : Nat) = 0 from rfl)]
set_option maxRecDepth 100000 in
theorem ke_125_1 (n : Nat) (dp : Nat) (e : EN) (I : JI) (L : JI) (i1 : Int) (i2 : Int) (i3 : Int) (i4 : Int) : kf_125 (n + 1) dp e 1 I L i1 i2 i3 i4 = (if i3 ≤ i4 then (some ((i2 : Int), I, L)) else (if 1 ≤ dp then ((kf_121 n (dp - 1) e 0 I L i4).bind (fun ⟨x0_30, I0_30, L0_30⟩ => (if 0 ≤ x0_30 ∧ x0_30 < 3 then ((e.2.2 25 (Int.toNat x0_30)).bind (fun b_33 => (if (b_33 < e.1) ∧ ((e.2.1 b_33).1 = 2) then ((e.2.2 b_33 1).bind (fun b_34 => (if 0 ≤ i4 ∧ i4 < 8 then (if (-2147483648 ≤ (I0_30 55 i4) * 10 ∧ (I0_30 55 i4) * 10 ≤ 2147483647) ∧ (-2147483648 ≤ ((I0_30 55 i4) * 10) + i1 ∧ ((I0_30 55 i4) * 10) + i1 ≤ 2147483647) then (if ((b_34 < e.1) ∧ (((e.2.1 b_34).1 = 13) ∧ ((e.2.1 b_34).2 < (2 ^ 31)))) ∧ (0 ≤ (((I0_30 55 i4) * 10) + i1) ∧ (((I0_30 55 i4) * 10) + i1) < (((e.2.1 b_34).2 : Nat) : Int)) then (if -2147483648 ≤ i2 + (I0_30 b_34 (((I0_30 55 i4) * 10) + i1)) ∧ i2 + (I0_30 b_34 (((I0_30 55 i4) * 10) + i1)) ≤ 2147483647 then (stI (i2 + (I0_30 b_34 (((I0_30 55 i4) * 10) + i1))) (fun v_51 => (if -2147483648 ≤ i4 + 1 ∧ i4 + 1 ≤ 2147483647 then (kf_125 n dp e 1 I0_30 L0_30 i1 v_51 i3 (i4 + 1)) else none))) else none) else none) else none) else none))) else none))) else none))) else none)) := by rw [kf_125.eq_2, if_neg (show ¬ ((1 : Nat) = 0) by decide), if_pos (show (1 : Nat) = 1 from rfl)]
set_option maxHeartbeats 8000000 in
set_option maxRecDepth 100000 in
theorem ks_125 : ∀ (n : Nat) (dp : Nat) (e : EN) (lab : Nat) (I : Nat → Nat → Int32) (I' : JI) (L : Nat → Nat → Int64) (L' : JI) (i1 : Int32) (i1' : Int) (i2 : Int32) (i2' : Int) (i3 : Int32) (i3' : Int) (i4 : Int32) (i4' : Int), Rli I I' → Rll L L' → Ui i1 i1' → Ui i2 i2' → Ui i3 i3' → Ui i4 i4' → Sim R3 (g_125 n dp e lab I L i1 i2 i3 i4) (kf_125 n dp e lab I' L' i1' i2' i3' i4') := by
  intro n
  induction n with
  | zero => intros; rw [kf_125.eq_1]; exact Sn
  | succ n ih =>
    intro dp e lab I I' L L' i1 i1' i2 i2' i3 i3' i4 i4' u_I u_L u_i1 u_i2 u_i3 u_i4
    rw [g_125.eq_2, kf_125.eq_2]
    refine Sc Iff.rfl (fun _ => ?_) (fun _ => ?_)
    · refine Sc Iff.rfl (fun c1 => ?_) (fun _ => Sn)
      refine Sb3 (ks_16 n (dp - 1) e 0 _ _ _ _ u_I u_L) (fun x0_6 x0_6' I0_6 I0_6' L0_6 L0_6' u_x0_6 u_I0_6 u_L0_6 => ?_)
      exact (ih dp e 1 _ _ _ _ _ _ _ _ _ _ _ _ u_I0_6 u_L0_6 u_i1 (rfl : Ui (0) (0)) u_x0_6 (rfl : Ui (0) (0)))
    refine Sc Iff.rfl (fun _ => ?_) (fun _ => ?_)
    · refine Sc (le_up u_i3 u_i4) (fun c1 => ?_) (fun c1 => ?_)
      · exact Sr ⟨u_i2, u_I, u_L⟩
      · refine Sc Iff.rfl (fun c2 => ?_) (fun _ => Sn)
        refine Sb3 (ks_121 n (dp - 1) e 0 _ _ _ _ _ _ u_I u_L u_i4) (fun x0_30 x0_30' I0_30 I0_30' L0_30 L0_30' u_x0_30 u_I0_30 u_L0_30 => ?_)
        refine Sc (ix_up u_x0_30) (fun c3 => ?_) (fun _ => Sn)
        refine SbE (by first | (rw [cl_up u_x0_30]; done) | (rw [cl_up u_x0_30]; rfl)) (fun b_33 => ?_)
        refine Sc Iff.rfl (fun c4 => ?_) (fun _ => Sn)
        refine SbE rfl (fun b_34 => ?_)
        refine Sc (ix_up u_i4) (fun c5 => ?_) (fun _ => Sn)
        refine Sg (fun g6 => ?_)
        refine Sc (and_congr Iff.rfl (ix_up (ui_add (ui_mul (ui_rd (a := 55) u_I0_30 u_i4 c5.1) (rfl : Ui (10) (10)) g6.1) u_i1 g6.2))) (fun c7 => ?_) (fun _ => Sn)
        refine Sg (fun g8 => ?_)
        refine SsI (ui_add u_i2 (ui_rd (a := b_34) u_I0_30 (ui_add (ui_mul (ui_rd (a := 55) u_I0_30 u_i4 c5.1) (rfl : Ui (10) (10)) g6.1) u_i1 g6.2) c7.2.1) g8) (fun v_51 v_51' u_v_51 => ?_)
        refine Sg (fun g9 => ?_)
        exact (ih dp e 1 _ _ _ _ _ _ _ _ _ _ _ _ u_I0_30 u_L0_30 u_i1 u_v_51 u_i3 (ui_add u_i4 (rfl : Ui (Int32.ofInt (1)) (1)) g9))
    exact Sn
set_option maxHeartbeats 4000000 in
set_option maxRecDepth 100000 in
def kf_126 : Nat → Nat → EN → Nat → JI → JI → Int → Int → Option (Int × JI × JI)
  | 0, _, _, _, _, _, _, _ => none
  | n + 1, dp, e, lab, I, L, i1, i2 =>
    if lab = 0 then (if -2147483648 ≤ 20 + i1 ∧ 20 + i1 ≤ 2147483647 then (if 0 ≤ (20 + i1) ∧ (20 + i1) < 30 then (if 1 ≤ dp then (if -2147483648 ≤ (I 4 (20 + i1)) - i2 ∧ (I 4 (20 + i1)) - i2 ≤ 2147483647 then (some (((max 0 ((I 4 (20 + i1)) - i2)) : Int), I, L)) else none) else none) else none) else none)
    else none
set_option maxRecDepth 100000 in
theorem ke_126_0 (n : Nat) (dp : Nat) (e : EN) (I : JI) (L : JI) (i1 : Int) (i2 : Int) : kf_126 (n + 1) dp e 0 I L i1 i2 = (if -2147483648 ≤ 20 + i1 ∧ 20 + i1 ≤ 2147483647 then (if 0 ≤ (20 + i1) ∧ (20 + i1) < 30 then (if 1 ≤ dp then (if -2147483648 ≤ (I 4 (20 + i1)) - i2 ∧ (I 4 (20 + i1)) - i2 ≤ 2147483647 then (some (((max 0 ((I 4 (20 + i1)) - i2)) : Int), I, L)) else none) else none) else none) else none) := by rw [kf_126.eq_2, if_pos (show (0 : Nat) = 0 from rfl)]
set_option maxHeartbeats 8000000 in
set_option maxRecDepth 100000 in
theorem ks_126 : ∀ (n : Nat) (dp : Nat) (e : EN) (lab : Nat) (I : Nat → Nat → Int32) (I' : JI) (L : Nat → Nat → Int64) (L' : JI) (i1 : Int32) (i1' : Int) (i2 : Int32) (i2' : Int), Rli I I' → Rll L L' → Ui i1 i1' → Ui i2 i2' → Sim R3 (g_126 n dp e lab I L i1 i2) (kf_126 n dp e lab I' L' i1' i2') := by
  intro n
  induction n with
  | zero => intros; rw [kf_126.eq_1]; exact Sn
  | succ n ih =>
    intro dp e lab I I' L L' i1 i1' i2 i2' u_I u_L u_i1 u_i2
    rw [g_126.eq_2, kf_126.eq_2]
    refine Sc Iff.rfl (fun _ => ?_) (fun _ => ?_)
    · refine Sg (fun g1 => ?_)
      refine Sc (ix_up (ui_add (rfl : Ui (20) (20)) u_i1 g1)) (fun c2 => ?_) (fun _ => Sn)
      refine Sc Iff.rfl (fun c3 => ?_) (fun _ => Sn)
      refine Sg (fun g4 => ?_)
      exact Sr ⟨(ui_max (rfl : Ui (0) (0)) (ui_sub (ui_rd (a := 4) u_I (ui_add (rfl : Ui (20) (20)) u_i1 g1) c2.1) u_i2 g4)), u_I, u_L⟩
    exact Sn
set_option maxHeartbeats 4000000 in
set_option maxRecDepth 100000 in
def kf_132 : Nat → Nat → EN → Nat → JI → JI → Int → Int → Int → Int → Int → Option (Int × JI × JI)
  | 0, _, _, _, _, _, _, _, _, _, _ => none
  | n + 1, dp, e, lab, I, L, i1, i2, i3, i4, i5 =>
    if lab = 0 then (kf_132 n dp e 1 I L i1 0 0 0 0)
    else if lab = 1 then (if 3 ≤ i3 then (some ((i2 : Int), I, L)) else (kf_132 n dp e 2 I L i1 i2 i3 0 0))
    else if lab = 2 then (if 0 ≤ i3 ∧ i3 < 3 then ((e.2.2 25 (Int.toNat i3)).bind (fun b_22 => (if (b_22 < e.1) ∧ ((e.2.1 b_22).1 = 2) then (if (I b_22 4) ≤ i5 then (kf_132 n dp e 3 I L i1 i2 i3 i4 i5) else (if 64 ≤ i5 then (kf_132 n dp e 3 I L i1 i2 i3 i4 i5) else (if 0 ≤ i3 ∧ i3 < 3 then ((e.2.2 25 (Int.toNat i3)).bind (fun b_43 => (if (b_43 < e.1) ∧ ((e.2.1 b_43).1 = 2) then ((e.2.2 b_43 1).bind (fun b_44 => (if (-2147483648 ≤ i5 * 10 ∧ i5 * 10 ≤ 2147483647) ∧ (-2147483648 ≤ (i5 * 10) + i1 ∧ (i5 * 10) + i1 ≤ 2147483647) then (if ((b_44 < e.1) ∧ (((e.2.1 b_44).1 = 13) ∧ ((e.2.1 b_44).2 < (2 ^ 31)))) ∧ (0 ≤ ((i5 * 10) + i1) ∧ ((i5 * 10) + i1) < (((e.2.1 b_44).2 : Nat) : Int)) then (if 1 ≤ dp then (stI (max i4 (I b_44 ((i5 * 10) + i1))) (fun v_58 => (if -2147483648 ≤ i5 + 1 ∧ i5 + 1 ≤ 2147483647 then (kf_132 n dp e 2 I L i1 i2 i3 v_58 (i5 + 1)) else none))) else none) else none) else none))) else none))) else none))) else none))) else none)
    else if lab = 3 then (if 0 ≤ i3 ∧ i3 < 3 then (if (-2147483648 ≤ (I 2 i3) * i4 ∧ (I 2 i3) * i4 ≤ 2147483647) ∧ (-2147483648 ≤ i2 + ((I 2 i3) * i4) ∧ i2 + ((I 2 i3) * i4) ≤ 2147483647) then (stI (i2 + ((I 2 i3) * i4)) (fun v_80 => (if -2147483648 ≤ i3 + 1 ∧ i3 + 1 ≤ 2147483647 then (kf_132 n dp e 1 I L i1 v_80 (i3 + 1) 0 0) else none))) else none) else none)
    else none
set_option maxRecDepth 100000 in
theorem ke_132_0 (n : Nat) (dp : Nat) (e : EN) (I : JI) (L : JI) (i1 : Int) (i2 : Int) (i3 : Int) (i4 : Int) (i5 : Int) : kf_132 (n + 1) dp e 0 I L i1 i2 i3 i4 i5 = (kf_132 n dp e 1 I L i1 0 0 0 0) := by rw [kf_132.eq_2, if_pos (show (0 : Nat) = 0 from rfl)]
set_option maxRecDepth 100000 in
theorem ke_132_1 (n : Nat) (dp : Nat) (e : EN) (I : JI) (L : JI) (i1 : Int) (i2 : Int) (i3 : Int) (i4 : Int) (i5 : Int) : kf_132 (n + 1) dp e 1 I L i1 i2 i3 i4 i5 = (if 3 ≤ i3 then (some ((i2 : Int), I, L)) else (kf_132 n dp e 2 I L i1 i2 i3 0 0)) := by rw [kf_132.eq_2, if_neg (show ¬ ((1 : Nat) = 0) by decide), if_pos (show (1 : Nat) = 1 from rfl)]
set_option maxRecDepth 100000 in
theorem ke_132_2 (n : Nat) (dp : Nat) (e : EN) (I : JI) (L : JI) (i1 : Int) (i2 : Int) (i3 : Int) (i4 : Int) (i5 : Int) : kf_132 (n + 1) dp e 2 I L i1 i2 i3 i4 i5 = (if 0 ≤ i3 ∧ i3 < 3 then ((e.2.2 25 (Int.toNat i3)).bind (fun b_22 => (if (b_22 < e.1) ∧ ((e.2.1 b_22).1 = 2) then (if (I b_22 4) ≤ i5 then (kf_132 n dp e 3 I L i1 i2 i3 i4 i5) else (if 64 ≤ i5 then (kf_132 n dp e 3 I L i1 i2 i3 i4 i5) else (if 0 ≤ i3 ∧ i3 < 3 then ((e.2.2 25 (Int.toNat i3)).bind (fun b_43 => (if (b_43 < e.1) ∧ ((e.2.1 b_43).1 = 2) then ((e.2.2 b_43 1).bind (fun b_44 => (if (-2147483648 ≤ i5 * 10 ∧ i5 * 10 ≤ 2147483647) ∧ (-2147483648 ≤ (i5 * 10) + i1 ∧ (i5 * 10) + i1 ≤ 2147483647) then (if ((b_44 < e.1) ∧ (((e.2.1 b_44).1 = 13) ∧ ((e.2.1 b_44).2 < (2 ^ 31)))) ∧ (0 ≤ ((i5 * 10) + i1) ∧ ((i5 * 10) + i1) < (((e.2.1 b_44).2 : Nat) : Int)) then (if 1 ≤ dp then (stI (max i4 (I b_44 ((i5 * 10) + i1))) (fun v_58 => (if -2147483648 ≤ i5 + 1 ∧ i5 + 1 ≤ 2147483647 then (kf_132 n dp e 2 I L i1 i2 i3 v_58 (i5 + 1)) else none))) else none) else none) else none))) else none))) else none))) else none))) else none) := by rw [kf_132.eq_2, if_neg (show ¬ ((2 : Nat) = 0) by decide), if_neg (show ¬ ((2 : Nat) = 1) by decide), if_pos (show (2 : Nat) = 2 from rfl)]
set_option maxRecDepth 100000 in
theorem ke_132_3 (n : Nat) (dp : Nat) (e : EN) (I : JI) (L : JI) (i1 : Int) (i2 : Int) (i3 : Int) (i4 : Int) (i5 : Int) : kf_132 (n + 1) dp e 3 I L i1 i2 i3 i4 i5 = (if 0 ≤ i3 ∧ i3 < 3 then (if (-2147483648 ≤ (I 2 i3) * i4 ∧ (I 2 i3) * i4 ≤ 2147483647) ∧ (-2147483648 ≤ i2 + ((I 2 i3) * i4) ∧ i2 + ((I 2 i3) * i4) ≤ 2147483647) then (stI (i2 + ((I 2 i3) * i4)) (fun v_80 => (if -2147483648 ≤ i3 + 1 ∧ i3 + 1 ≤ 2147483647 then (kf_132 n dp e 1 I L i1 v_80 (i3 + 1) 0 0) else none))) else none) else none) := by rw [kf_132.eq_2, if_neg (show ¬ ((3 : Nat) = 0) by decide), if_neg (show ¬ ((3 : Nat) = 1) by decide), if_neg (show ¬ ((3 : Nat) = 2) by decide), if_pos (show (3 : Nat) = 3 from rfl)]
set_option maxHeartbeats 8000000 in
set_option maxRecDepth 100000 in
theorem ks_132 : ∀ (n : Nat) (dp : Nat) (e : EN) (lab : Nat) (I : Nat → Nat → Int32) (I' : JI) (L : Nat → Nat → Int64) (L' : JI) (i1 : Int32) (i1' : Int) (i2 : Int32) (i2' : Int) (i3 : Int32) (i3' : Int) (i4 : Int32) (i4' : Int) (i5 : Int32) (i5' : Int), Rli I I' → Rll L L' → Ui i1 i1' → Ui i2 i2' → Ui i3 i3' → Ui i4 i4' → Ui i5 i5' → Sim R3 (g_132 n dp e lab I L i1 i2 i3 i4 i5) (kf_132 n dp e lab I' L' i1' i2' i3' i4' i5') := by
  intro n
  induction n with
  | zero => intros; rw [kf_132.eq_1]; exact Sn
  | succ n ih =>
    intro dp e lab I I' L L' i1 i1' i2 i2' i3 i3' i4 i4' i5 i5' u_I u_L u_i1 u_i2 u_i3 u_i4 u_i5
    rw [g_132.eq_2, kf_132.eq_2]
    refine Sc Iff.rfl (fun _ => ?_) (fun _ => ?_)
    · exact (ih dp e 1 _ _ _ _ _ _ _ _ _ _ _ _ _ _ u_I u_L u_i1 (rfl : Ui (0) (0)) (rfl : Ui (0) (0)) (rfl : Ui 0 0) (rfl : Ui 0 0))
    refine Sc Iff.rfl (fun _ => ?_) (fun _ => ?_)
    · refine Sc (le_up (rfl : Ui (3) (3)) u_i3) (fun c1 => ?_) (fun c1 => ?_)
      · exact Sr ⟨u_i2, u_I, u_L⟩
      · exact (ih dp e 2 _ _ _ _ _ _ _ _ _ _ _ _ _ _ u_I u_L u_i1 u_i2 u_i3 (rfl : Ui (0) (0)) (rfl : Ui (0) (0)))
    refine Sc Iff.rfl (fun _ => ?_) (fun _ => ?_)
    · refine Sc (ix_up u_i3) (fun c1 => ?_) (fun _ => Sn)
      refine SbE (by first | (rw [cl_up u_i3]; done) | (rw [cl_up u_i3]; rfl)) (fun b_22 => ?_)
      refine Sc Iff.rfl (fun c2 => ?_) (fun _ => Sn)
      refine Sc (le_up (u_I b_22 4) u_i5) (fun c3 => ?_) (fun c3 => ?_)
      · exact (ih dp e 3 _ _ _ _ _ _ _ _ _ _ _ _ _ _ u_I u_L u_i1 u_i2 u_i3 u_i4 u_i5)
      · refine Sc (le_up (rfl : Ui (64) (64)) u_i5) (fun c4 => ?_) (fun c4 => ?_)
        · exact (ih dp e 3 _ _ _ _ _ _ _ _ _ _ _ _ _ _ u_I u_L u_i1 u_i2 u_i3 u_i4 u_i5)
        · refine Sc (ix_up u_i3) (fun c5 => ?_) (fun _ => Sn)
          refine SbE (by first | (rw [cl_up u_i3]; done) | (rw [cl_up u_i3]; rfl)) (fun b_43 => ?_)
          refine Sc Iff.rfl (fun c6 => ?_) (fun _ => Sn)
          refine SbE rfl (fun b_44 => ?_)
          refine Sg (fun g7 => ?_)
          refine Sc (and_congr Iff.rfl (ix_up (ui_add (ui_mul u_i5 (rfl : Ui (10) (10)) g7.1) u_i1 g7.2))) (fun c8 => ?_) (fun _ => Sn)
          refine Sc Iff.rfl (fun c9 => ?_) (fun _ => Sn)
          refine SsI (ui_max u_i4 (ui_rd (a := b_44) u_I (ui_add (ui_mul u_i5 (rfl : Ui (10) (10)) g7.1) u_i1 g7.2) c8.2.1)) (fun v_58 v_58' u_v_58 => ?_)
          refine Sg (fun g10 => ?_)
          exact (ih dp e 2 _ _ _ _ _ _ _ _ _ _ _ _ _ _ u_I u_L u_i1 u_i2 u_i3 u_v_58 (ui_add u_i5 (rfl : Ui (Int32.ofInt (1)) (1)) g10))
    refine Sc Iff.rfl (fun _ => ?_) (fun _ => ?_)
    · refine Sc (ix_up u_i3) (fun c1 => ?_) (fun _ => Sn)
      refine Sg (fun g2 => ?_)
      refine SsI (ui_add u_i2 (ui_mul (ui_rd (a := 2) u_I u_i3 c1.1) u_i4 g2.1) g2.2) (fun v_80 v_80' u_v_80 => ?_)
      refine Sg (fun g3 => ?_)
      exact (ih dp e 1 _ _ _ _ _ _ _ _ _ _ _ _ _ _ u_I u_L u_i1 u_v_80 (ui_add u_i3 (rfl : Ui (Int32.ofInt (1)) (1)) g3) (rfl : Ui 0 0) (rfl : Ui 0 0))
    exact Sn
set_option maxHeartbeats 4000000 in
set_option maxRecDepth 100000 in
def kf_135 : Nat → Nat → EN → Nat → JI → JI → Int → Option (Int × JI × JI)
  | 0, _, _, _, _, _, _ => none
  | n + 1, dp, e, lab, I, L, i1 =>
    if lab = 0 then (if 1 ≤ dp then ((kf_121 n (dp - 1) e 0 I L i1).bind (fun ⟨x0_12, I0_12, L0_12⟩ => (if 0 ≤ i1 ∧ i1 < 8 then (if (-2147483648 ≤ x0_12 * 64 ∧ x0_12 * 64 ≤ 2147483647) ∧ (-2147483648 ≤ (x0_12 * 64) + (I0_12 55 i1) ∧ (x0_12 * 64) + (I0_12 55 i1) ≤ 2147483647) then (if 0 ≤ ((x0_12 * 64) + (I0_12 55 i1)) ∧ ((x0_12 * 64) + (I0_12 55 i1)) < 192 then (some (((I0_12 31 ((x0_12 * 64) + (I0_12 55 i1))) : Int), I0_12, L0_12)) else none) else none) else none))) else none)
    else none
set_option maxRecDepth 100000 in
theorem ke_135_0 (n : Nat) (dp : Nat) (e : EN) (I : JI) (L : JI) (i1 : Int) : kf_135 (n + 1) dp e 0 I L i1 = (if 1 ≤ dp then ((kf_121 n (dp - 1) e 0 I L i1).bind (fun ⟨x0_12, I0_12, L0_12⟩ => (if 0 ≤ i1 ∧ i1 < 8 then (if (-2147483648 ≤ x0_12 * 64 ∧ x0_12 * 64 ≤ 2147483647) ∧ (-2147483648 ≤ (x0_12 * 64) + (I0_12 55 i1) ∧ (x0_12 * 64) + (I0_12 55 i1) ≤ 2147483647) then (if 0 ≤ ((x0_12 * 64) + (I0_12 55 i1)) ∧ ((x0_12 * 64) + (I0_12 55 i1)) < 192 then (some (((I0_12 31 ((x0_12 * 64) + (I0_12 55 i1))) : Int), I0_12, L0_12)) else none) else none) else none))) else none) := by rw [kf_135.eq_2, if_pos (show (0 : Nat) = 0 from rfl)]
set_option maxHeartbeats 8000000 in
set_option maxRecDepth 100000 in
theorem ks_135 : ∀ (n : Nat) (dp : Nat) (e : EN) (lab : Nat) (I : Nat → Nat → Int32) (I' : JI) (L : Nat → Nat → Int64) (L' : JI) (i1 : Int32) (i1' : Int), Rli I I' → Rll L L' → Ui i1 i1' → Sim R3 (g_135 n dp e lab I L i1) (kf_135 n dp e lab I' L' i1') := by
  intro n
  induction n with
  | zero => intros; rw [kf_135.eq_1]; exact Sn
  | succ n ih =>
    intro dp e lab I I' L L' i1 i1' u_I u_L u_i1
    rw [g_135.eq_2, kf_135.eq_2]
    refine Sc Iff.rfl (fun _ => ?_) (fun _ => ?_)
    · refine Sc Iff.rfl (fun c1 => ?_) (fun _ => Sn)
      refine Sb3 (ks_121 n (dp - 1) e 0 _ _ _ _ _ _ u_I u_L u_i1) (fun x0_12 x0_12' I0_12 I0_12' L0_12 L0_12' u_x0_12 u_I0_12 u_L0_12 => ?_)
      refine Sc (ix_up u_i1) (fun c2 => ?_) (fun _ => Sn)
      refine Sg (fun g3 => ?_)
      refine Sc (ix_up (ui_add (ui_mul u_x0_12 (rfl : Ui (64) (64)) g3.1) (ui_rd (a := 55) u_I0_12 u_i1 c2.1) g3.2)) (fun c4 => ?_) (fun _ => Sn)
      exact Sr ⟨(ui_rd (a := 31) u_I0_12 (ui_add (ui_mul u_x0_12 (rfl : Ui (64) (64)) g3.1) (ui_rd (a := 55) u_I0_12 u_i1 c2.1) g3.2) c4.1), u_I0_12, u_L0_12⟩
    exact Sn
set_option maxHeartbeats 4000000 in
set_option maxRecDepth 100000 in
def kf_136 : Nat → Nat → EN → Nat → JI → JI → Int → Int → Option (Int × JI × JI)
  | 0, _, _, _, _, _, _, _ => none
  | n + 1, dp, e, lab, I, L, i1, i2 =>
    if lab = 0 then (if 1 ≤ dp then ((kf_14 n (dp - 1) e 0 I L i1 0 7).bind (fun ⟨x0_4, I0_4, L0_4⟩ => (if x0_4 = 0 then (if 1 ≤ dp then ((kf_15 n (dp - 1) e 0 I0_4 L0_4 (-1)).bind (fun ⟨x1_22, I1_22, L1_22⟩ => (some ((x1_22 : Int), I1_22, L1_22)))) else none) else (if 1 ≤ dp then ((kf_14 n (dp - 1) e 0 I0_4 L0_4 i2 0 63).bind (fun ⟨x1_14, I1_14, L1_14⟩ => (if x1_14 = 0 then (if 1 ≤ dp then ((kf_15 n (dp - 1) e 0 I1_14 L1_14 (-1)).bind (fun ⟨x2_22, I2_22, L2_22⟩ => (some ((x2_22 : Int), I2_22, L2_22)))) else none) else (if 0 ≤ i1 ∧ i1 < 8 then (stI (I1_14 6 i1) (fun v_35 => (if 0 ≤ i1 ∧ i1 < 8 then (stI (w2 I1_14 6 i1 i2) (fun I_45 => (if 1 ≤ dp then ((kf_19 n (dp - 1) e 0 I_45 L1_14 v_35).bind (fun ⟨x2_48, I2_48, L2_48⟩ => (some ((x2_48 : Int), I2_48, L2_48)))) else none))) else none))) else none)))) else none)))) else none)
    else none
set_option maxRecDepth 100000 in
theorem ke_136_0 (n : Nat) (dp : Nat) (e : EN) (I : JI) (L : JI) (i1 : Int) (i2 : Int) : kf_136 (n + 1) dp e 0 I L i1 i2 = (if 1 ≤ dp then ((kf_14 n (dp - 1) e 0 I L i1 0 7).bind (fun ⟨x0_4, I0_4, L0_4⟩ => (if x0_4 = 0 then (if 1 ≤ dp then ((kf_15 n (dp - 1) e 0 I0_4 L0_4 (-1)).bind (fun ⟨x1_22, I1_22, L1_22⟩ => (some ((x1_22 : Int), I1_22, L1_22)))) else none) else (if 1 ≤ dp then ((kf_14 n (dp - 1) e 0 I0_4 L0_4 i2 0 63).bind (fun ⟨x1_14, I1_14, L1_14⟩ => (if x1_14 = 0 then (if 1 ≤ dp then ((kf_15 n (dp - 1) e 0 I1_14 L1_14 (-1)).bind (fun ⟨x2_22, I2_22, L2_22⟩ => (some ((x2_22 : Int), I2_22, L2_22)))) else none) else (if 0 ≤ i1 ∧ i1 < 8 then (stI (I1_14 6 i1) (fun v_35 => (if 0 ≤ i1 ∧ i1 < 8 then (stI (w2 I1_14 6 i1 i2) (fun I_45 => (if 1 ≤ dp then ((kf_19 n (dp - 1) e 0 I_45 L1_14 v_35).bind (fun ⟨x2_48, I2_48, L2_48⟩ => (some ((x2_48 : Int), I2_48, L2_48)))) else none))) else none))) else none)))) else none)))) else none) := by rw [kf_136.eq_2, if_pos (show (0 : Nat) = 0 from rfl)]
set_option maxHeartbeats 8000000 in
set_option maxRecDepth 100000 in
theorem ks_136 : ∀ (n : Nat) (dp : Nat) (e : EN) (lab : Nat) (I : Nat → Nat → Int32) (I' : JI) (L : Nat → Nat → Int64) (L' : JI) (i1 : Int32) (i1' : Int) (i2 : Int32) (i2' : Int), Rli I I' → Rll L L' → Ui i1 i1' → Ui i2 i2' → Sim R3 (g_136 n dp e lab I L i1 i2) (kf_136 n dp e lab I' L' i1' i2') := by
  intro n
  induction n with
  | zero => intros; rw [kf_136.eq_1]; exact Sn
  | succ n ih =>
    intro dp e lab I I' L L' i1 i1' i2 i2' u_I u_L u_i1 u_i2
    rw [g_136.eq_2, kf_136.eq_2]
    refine Sc Iff.rfl (fun _ => ?_) (fun _ => ?_)
    · refine Sc Iff.rfl (fun c1 => ?_) (fun _ => Sn)
      refine Sb3 (ks_14 n (dp - 1) e 0 _ _ _ _ _ _ _ _ _ _ u_I u_L u_i1 (rfl : Ui (0) (0)) (rfl : Ui (7) (7))) (fun x0_4 x0_4' I0_4 I0_4' L0_4 L0_4' u_x0_4 u_I0_4 u_L0_4 => ?_)
      refine Sc (eq_up u_x0_4 (rfl : Ui 0 0)) (fun c2 => ?_) (fun c2 => ?_)
      · refine Sc Iff.rfl (fun c3 => ?_) (fun _ => Sn)
        refine Sb3 (ks_15 n (dp - 1) e 0 _ _ _ _ _ _ u_I0_4 u_L0_4 (rfl : Ui (-1) (-1))) (fun x1_22 x1_22' I1_22 I1_22' L1_22 L1_22' u_x1_22 u_I1_22 u_L1_22 => ?_)
        exact Sr ⟨u_x1_22, u_I1_22, u_L1_22⟩
      · refine Sc Iff.rfl (fun c4 => ?_) (fun _ => Sn)
        refine Sb3 (ks_14 n (dp - 1) e 0 _ _ _ _ _ _ _ _ _ _ u_I0_4 u_L0_4 u_i2 (rfl : Ui (0) (0)) (rfl : Ui (63) (63))) (fun x1_14 x1_14' I1_14 I1_14' L1_14 L1_14' u_x1_14 u_I1_14 u_L1_14 => ?_)
        refine Sc (eq_up u_x1_14 (rfl : Ui 0 0)) (fun c5 => ?_) (fun c5 => ?_)
        · refine Sc Iff.rfl (fun c6 => ?_) (fun _ => Sn)
          refine Sb3 (ks_15 n (dp - 1) e 0 _ _ _ _ _ _ u_I1_14 u_L1_14 (rfl : Ui (-1) (-1))) (fun x2_22 x2_22' I2_22 I2_22' L2_22 L2_22' u_x2_22 u_I2_22 u_L2_22 => ?_)
          exact Sr ⟨u_x2_22, u_I2_22, u_L2_22⟩
        · refine Sc (ix_up u_i1) (fun c7 => ?_) (fun _ => Sn)
          refine SsI (ui_rd (a := 6) u_I1_14 u_i1 c7.1) (fun v_35 v_35' u_v_35 => ?_)
          refine Sc (ix_up u_i1) (fun c8 => ?_) (fun _ => Sn)
          refine SsJ (ri_up u_I1_14 (kc_up u_i1 c8.1) u_i2) (fun I_45 I_45' u_I_45 => ?_)
          refine Sc Iff.rfl (fun c9 => ?_) (fun _ => Sn)
          refine Sb3 (ks_19 n (dp - 1) e 0 _ _ _ _ _ _ u_I_45 u_L1_14 u_v_35) (fun x2_48 x2_48' I2_48 I2_48' L2_48 L2_48' u_x2_48 u_I2_48 u_L2_48 => ?_)
          exact Sr ⟨u_x2_48, u_I2_48, u_L2_48⟩
    exact Sn
set_option maxHeartbeats 4000000 in
set_option maxRecDepth 100000 in
def kf_140 : Nat → Nat → EN → Nat → JI → JI → Int → Option (Int × JI × JI)
  | 0, _, _, _, _, _, _ => none
  | n + 1, dp, e, lab, I, L, i1 =>
    if lab = 0 then (if 0 ≤ i1 ∧ i1 < 8 then (stI (I 6 i1) (fun v_9 => (if 1 ≤ dp then ((kf_121 n (dp - 1) e 0 I L i1).bind (fun ⟨x0_20, I0_20, L0_20⟩ => (if 0 ≤ x0_20 ∧ x0_20 < 3 then ((e.2.2 25 (Int.toNat x0_20)).bind (fun b_23 => (if (b_23 < e.1) ∧ ((e.2.1 b_23).1 = 2) then (if (I0_20 b_23 4) ≤ v_9 then (some ((0 : Int), I0_20, L0_20)) else (some ((v_9 : Int), I0_20, L0_20))) else none))) else none))) else none))) else none)
    else none
set_option maxRecDepth 100000 in
theorem ke_140_0 (n : Nat) (dp : Nat) (e : EN) (I : JI) (L : JI) (i1 : Int) : kf_140 (n + 1) dp e 0 I L i1 = (if 0 ≤ i1 ∧ i1 < 8 then (stI (I 6 i1) (fun v_9 => (if 1 ≤ dp then ((kf_121 n (dp - 1) e 0 I L i1).bind (fun ⟨x0_20, I0_20, L0_20⟩ => (if 0 ≤ x0_20 ∧ x0_20 < 3 then ((e.2.2 25 (Int.toNat x0_20)).bind (fun b_23 => (if (b_23 < e.1) ∧ ((e.2.1 b_23).1 = 2) then (if (I0_20 b_23 4) ≤ v_9 then (some ((0 : Int), I0_20, L0_20)) else (some ((v_9 : Int), I0_20, L0_20))) else none))) else none))) else none))) else none) := by rw [kf_140.eq_2, if_pos (show (0 : Nat) = 0 from rfl)]
set_option maxHeartbeats 8000000 in
set_option maxRecDepth 100000 in
theorem ks_140 : ∀ (n : Nat) (dp : Nat) (e : EN) (lab : Nat) (I : Nat → Nat → Int32) (I' : JI) (L : Nat → Nat → Int64) (L' : JI) (i1 : Int32) (i1' : Int), Rli I I' → Rll L L' → Ui i1 i1' → Sim R3 (g_140 n dp e lab I L i1) (kf_140 n dp e lab I' L' i1') := by
  intro n
  induction n with
  | zero => intros; rw [kf_140.eq_1]; exact Sn
  | succ n ih =>
    intro dp e lab I I' L L' i1 i1' u_I u_L u_i1
    rw [g_140.eq_2, kf_140.eq_2]
    refine Sc Iff.rfl (fun _ => ?_) (fun _ => ?_)
    · refine Sc (ix_up u_i1) (fun c1 => ?_) (fun _ => Sn)
      refine SsI (ui_rd (a := 6) u_I u_i1 c1.1) (fun v_9 v_9' u_v_9 => ?_)
      refine Sc Iff.rfl (fun c2 => ?_) (fun _ => Sn)
      refine Sb3 (ks_121 n (dp - 1) e 0 _ _ _ _ _ _ u_I u_L u_i1) (fun x0_20 x0_20' I0_20 I0_20' L0_20 L0_20' u_x0_20 u_I0_20 u_L0_20 => ?_)
      refine Sc (ix_up u_x0_20) (fun c3 => ?_) (fun _ => Sn)
      refine SbE (by first | (rw [cl_up u_x0_20]; done) | (rw [cl_up u_x0_20]; rfl)) (fun b_23 => ?_)
      refine Sc Iff.rfl (fun c4 => ?_) (fun _ => Sn)
      refine Sc (le_up (u_I0_20 b_23 4) u_v_9) (fun c5 => ?_) (fun c5 => ?_)
      · exact Sr ⟨(rfl : Ui (0) (0)), u_I0_20, u_L0_20⟩
      · exact Sr ⟨u_v_9, u_I0_20, u_L0_20⟩
    exact Sn
set_option maxHeartbeats 4000000 in
set_option maxRecDepth 100000 in
def kf_139 : Nat → Nat → EN → Nat → JI → JI → Int → Int → Int → Int → Option (Int × JI × JI)
  | 0, _, _, _, _, _, _, _, _, _ => none
  | n + 1, dp, e, lab, I, L, i1, i2, i3, i4 =>
    if lab = 0 then (if 1 ≤ dp then ((kf_16 n (dp - 1) e 0 I L).bind (fun ⟨x0_6, I0_6, L0_6⟩ => (kf_139 n dp e 1 I0_6 L0_6 i1 0 x0_6 0))) else none)
    else if lab = 1 then (if i3 ≤ i4 then (some ((i2 : Int), I, L)) else (if 1 ≤ dp then ((kf_121 n (dp - 1) e 0 I L i4).bind (fun ⟨x0_30, I0_30, L0_30⟩ => (if 0 ≤ x0_30 ∧ x0_30 < 3 then ((e.2.2 25 (Int.toNat x0_30)).bind (fun b_33 => (if (b_33 < e.1) ∧ ((e.2.1 b_33).1 = 2) then ((e.2.2 b_33 1).bind (fun b_34 => (if 1 ≤ dp then ((kf_140 n (dp - 1) e 0 I0_30 L0_30 i4).bind (fun ⟨x1_40, I1_40, L1_40⟩ => (if (-2147483648 ≤ x1_40 * 10 ∧ x1_40 * 10 ≤ 2147483647) ∧ (-2147483648 ≤ (x1_40 * 10) + i1 ∧ (x1_40 * 10) + i1 ≤ 2147483647) then (if ((b_34 < e.1) ∧ (((e.2.1 b_34).1 = 13) ∧ ((e.2.1 b_34).2 < (2 ^ 31)))) ∧ (0 ≤ ((x1_40 * 10) + i1) ∧ ((x1_40 * 10) + i1) < (((e.2.1 b_34).2 : Nat) : Int)) then (if -2147483648 ≤ i2 + (I1_40 b_34 ((x1_40 * 10) + i1)) ∧ i2 + (I1_40 b_34 ((x1_40 * 10) + i1)) ≤ 2147483647 then (stI (i2 + (I1_40 b_34 ((x1_40 * 10) + i1))) (fun v_50 => (if -2147483648 ≤ i4 + 1 ∧ i4 + 1 ≤ 2147483647 then (kf_139 n dp e 1 I1_40 L1_40 i1 v_50 i3 (i4 + 1)) else none))) else none) else none) else none))) else none))) else none))) else none))) else none))
    else none
set_option maxRecDepth 100000 in
theorem ke_139_0 (n : Nat) (dp : Nat) (e : EN) (I : JI) (L : JI) (i1 : Int) (i2 : Int) (i3 : Int) (i4 : Int) : kf_139 (n + 1) dp e 0 I L i1 i2 i3 i4 = (if 1 ≤ dp then ((kf_16 n (dp - 1) e 0 I L).bind (fun ⟨x0_6, I0_6, L0_6⟩ => (kf_139 n dp e 1 I0_6 L0_6 i1 0 x0_6 0))) else none) := by rw [kf_139.eq_2, if_pos (show (0 : Nat) = 0 from rfl)]
set_option maxRecDepth 100000 in
theorem ke_139_1 (n : Nat) (dp : Nat) (e : EN) (I : JI) (L : JI) (i1 : Int) (i2 : Int) (i3 : Int) (i4 : Int) : kf_139 (n + 1) dp e 1 I L i1 i2 i3 i4 = (if i3 ≤ i4 then (some ((i2 : Int), I, L)) else (if 1 ≤ dp then ((kf_121 n (dp - 1) e 0 I L i4).bind (fun ⟨x0_30, I0_30, L0_30⟩ => (if 0 ≤ x0_30 ∧ x0_30 < 3 then ((e.2.2 25 (Int.toNat x0_30)).bind (fun b_33 => (if (b_33 < e.1) ∧ ((e.2.1 b_33).1 = 2) then ((e.2.2 b_33 1).bind (fun b_34 => (if 1 ≤ dp then ((kf_140 n (dp - 1) e 0 I0_30 L0_30 i4).bind (fun ⟨x1_40, I1_40, L1_40⟩ => (if (-2147483648 ≤ x1_40 * 10 ∧ x1_40 * 10 ≤ 2147483647) ∧ (-2147483648 ≤ (x1_40 * 10) + i1 ∧ (x1_40 * 10) + i1 ≤ 2147483647) then (if ((b_34 < e.1) ∧ (((e.2.1 b_34).1 = 13) ∧ ((e.2.1 b_34).2 < (2 ^ 31)))) ∧ (0 ≤ ((x1_40 * 10) + i1) ∧ ((x1_40 * 10) + i1) < (((e.2.1 b_34).2 : Nat) : Int)) then (if -2147483648 ≤ i2 + (I1_40 b_34 ((x1_40 * 10) + i1)) ∧ i2 + (I1_40 b_34 ((x1_40 * 10) + i1)) ≤ 2147483647 then (stI (i2 + (I1_40 b_34 ((x1_40 * 10) + i1))) (fun v_50 => (if -2147483648 ≤ i4 + 1 ∧ i4 + 1 ≤ 2147483647 then (kf_139 n dp e 1 I1_40 L1_40 i1 v_50 i3 (i4 + 1)) else none))) else none) else none) else none))) else none))) else none))) else none))) else none)) := by rw [kf_139.eq_2, if_neg (show ¬ ((1 : Nat) = 0) by decide), if_pos (show (1 : Nat) = 1 from rfl)]
set_option maxHeartbeats 8000000 in
set_option maxRecDepth 100000 in
theorem ks_139 : ∀ (n : Nat) (dp : Nat) (e : EN) (lab : Nat) (I : Nat → Nat → Int32) (I' : JI) (L : Nat → Nat → Int64) (L' : JI) (i1 : Int32) (i1' : Int) (i2 : Int32) (i2' : Int) (i3 : Int32) (i3' : Int) (i4 : Int32) (i4' : Int), Rli I I' → Rll L L' → Ui i1 i1' → Ui i2 i2' → Ui i3 i3' → Ui i4 i4' → Sim R3 (g_139 n dp e lab I L i1 i2 i3 i4) (kf_139 n dp e lab I' L' i1' i2' i3' i4') := by
  intro n
  induction n with
  | zero => intros; rw [kf_139.eq_1]; exact Sn
  | succ n ih =>
    intro dp e lab I I' L L' i1 i1' i2 i2' i3 i3' i4 i4' u_I u_L u_i1 u_i2 u_i3 u_i4
    rw [g_139.eq_2, kf_139.eq_2]
    refine Sc Iff.rfl (fun _ => ?_) (fun _ => ?_)
    · refine Sc Iff.rfl (fun c1 => ?_) (fun _ => Sn)
      refine Sb3 (ks_16 n (dp - 1) e 0 _ _ _ _ u_I u_L) (fun x0_6 x0_6' I0_6 I0_6' L0_6 L0_6' u_x0_6 u_I0_6 u_L0_6 => ?_)
      exact (ih dp e 1 _ _ _ _ _ _ _ _ _ _ _ _ u_I0_6 u_L0_6 u_i1 (rfl : Ui (0) (0)) u_x0_6 (rfl : Ui (0) (0)))
    refine Sc Iff.rfl (fun _ => ?_) (fun _ => ?_)
    · refine Sc (le_up u_i3 u_i4) (fun c1 => ?_) (fun c1 => ?_)
      · exact Sr ⟨u_i2, u_I, u_L⟩
      · refine Sc Iff.rfl (fun c2 => ?_) (fun _ => Sn)
        refine Sb3 (ks_121 n (dp - 1) e 0 _ _ _ _ _ _ u_I u_L u_i4) (fun x0_30 x0_30' I0_30 I0_30' L0_30 L0_30' u_x0_30 u_I0_30 u_L0_30 => ?_)
        refine Sc (ix_up u_x0_30) (fun c3 => ?_) (fun _ => Sn)
        refine SbE (by first | (rw [cl_up u_x0_30]; done) | (rw [cl_up u_x0_30]; rfl)) (fun b_33 => ?_)
        refine Sc Iff.rfl (fun c4 => ?_) (fun _ => Sn)
        refine SbE rfl (fun b_34 => ?_)
        refine Sc Iff.rfl (fun c5 => ?_) (fun _ => Sn)
        refine Sb3 (ks_140 n (dp - 1) e 0 _ _ _ _ _ _ u_I0_30 u_L0_30 u_i4) (fun x1_40 x1_40' I1_40 I1_40' L1_40 L1_40' u_x1_40 u_I1_40 u_L1_40 => ?_)
        refine Sg (fun g6 => ?_)
        refine Sc (and_congr Iff.rfl (ix_up (ui_add (ui_mul u_x1_40 (rfl : Ui (10) (10)) g6.1) u_i1 g6.2))) (fun c7 => ?_) (fun _ => Sn)
        refine Sg (fun g8 => ?_)
        refine SsI (ui_add u_i2 (ui_rd (a := b_34) u_I1_40 (ui_add (ui_mul u_x1_40 (rfl : Ui (10) (10)) g6.1) u_i1 g6.2) c7.2.1) g8) (fun v_50 v_50' u_v_50 => ?_)
        refine Sg (fun g9 => ?_)
        exact (ih dp e 1 _ _ _ _ _ _ _ _ _ _ _ _ u_I1_40 u_L1_40 u_i1 u_v_50 u_i3 (ui_add u_i4 (rfl : Ui (Int32.ofInt (1)) (1)) g9))
    exact Sn
set_option maxHeartbeats 4000000 in
set_option maxRecDepth 100000 in
def kf_141 : Nat → Nat → EN → Nat → JI → JI → Int → Int → Option (Int × JI × JI)
  | 0, _, _, _, _, _, _, _ => none
  | n + 1, dp, e, lab, I, L, i1, i2 =>
    if lab = 0 then (if -2147483648 ≤ 20 + i1 ∧ 20 + i1 ≤ 2147483647 then (if 0 ≤ (20 + i1) ∧ (20 + i1) < 30 then (if 1 ≤ dp then (stI (min (I 4 (20 + i1)) i2) (fun v_13 => (if -2147483648 ≤ 0 + i1 ∧ 0 + i1 ≤ 2147483647 then (if 0 ≤ (0 + i1) ∧ (0 + i1) < 30 then (if -2147483648 ≤ 10 + i1 ∧ 10 + i1 ≤ 2147483647 then (if 0 ≤ (10 + i1) ∧ (10 + i1) < 30 then (if (-2147483648 ≤ v_13 * (I 4 (0 + i1)) ∧ v_13 * (I 4 (0 + i1)) ≤ 2147483647) ∧ (-2147483648 ≤ i2 - v_13 ∧ i2 - v_13 ≤ 2147483647) ∧ (-2147483648 ≤ (i2 - v_13) * (I 4 (10 + i1)) ∧ (i2 - v_13) * (I 4 (10 + i1)) ≤ 2147483647) ∧ (-2147483648 ≤ (v_13 * (I 4 (0 + i1))) + ((i2 - v_13) * (I 4 (10 + i1))) ∧ (v_13 * (I 4 (0 + i1))) + ((i2 - v_13) * (I 4 (10 + i1))) ≤ 2147483647) then (some ((((v_13 * (I 4 (0 + i1))) + ((i2 - v_13) * (I 4 (10 + i1)))) : Int), I, L)) else none) else none) else none) else none) else none))) else none) else none) else none)
    else none
set_option maxRecDepth 100000 in
theorem ke_141_0 (n : Nat) (dp : Nat) (e : EN) (I : JI) (L : JI) (i1 : Int) (i2 : Int) : kf_141 (n + 1) dp e 0 I L i1 i2 = (if -2147483648 ≤ 20 + i1 ∧ 20 + i1 ≤ 2147483647 then (if 0 ≤ (20 + i1) ∧ (20 + i1) < 30 then (if 1 ≤ dp then (stI (min (I 4 (20 + i1)) i2) (fun v_13 => (if -2147483648 ≤ 0 + i1 ∧ 0 + i1 ≤ 2147483647 then (if 0 ≤ (0 + i1) ∧ (0 + i1) < 30 then (if -2147483648 ≤ 10 + i1 ∧ 10 + i1 ≤ 2147483647 then (if 0 ≤ (10 + i1) ∧ (10 + i1) < 30 then (if (-2147483648 ≤ v_13 * (I 4 (0 + i1)) ∧ v_13 * (I 4 (0 + i1)) ≤ 2147483647) ∧ (-2147483648 ≤ i2 - v_13 ∧ i2 - v_13 ≤ 2147483647) ∧ (-2147483648 ≤ (i2 - v_13) * (I 4 (10 + i1)) ∧ (i2 - v_13) * (I 4 (10 + i1)) ≤ 2147483647) ∧ (-2147483648 ≤ (v_13 * (I 4 (0 + i1))) + ((i2 - v_13) * (I 4 (10 + i1))) ∧ (v_13 * (I 4 (0 + i1))) + ((i2 - v_13) * (I 4 (10 + i1))) ≤ 2147483647) then (some ((((v_13 * (I 4 (0 + i1))) + ((i2 - v_13) * (I 4 (10 + i1)))) : Int), I, L)) else none) else none) else none) else none) else none))) else none) else none) else none) := by rw [kf_141.eq_2, if_pos (show (0 : Nat) = 0 from rfl)]
set_option maxHeartbeats 8000000 in
set_option maxRecDepth 100000 in
theorem ks_141 : ∀ (n : Nat) (dp : Nat) (e : EN) (lab : Nat) (I : Nat → Nat → Int32) (I' : JI) (L : Nat → Nat → Int64) (L' : JI) (i1 : Int32) (i1' : Int) (i2 : Int32) (i2' : Int), Rli I I' → Rll L L' → Ui i1 i1' → Ui i2 i2' → Sim R3 (g_141 n dp e lab I L i1 i2) (kf_141 n dp e lab I' L' i1' i2') := by
  intro n
  induction n with
  | zero => intros; rw [kf_141.eq_1]; exact Sn
  | succ n ih =>
    intro dp e lab I I' L L' i1 i1' i2 i2' u_I u_L u_i1 u_i2
    rw [g_141.eq_2, kf_141.eq_2]
    refine Sc Iff.rfl (fun _ => ?_) (fun _ => ?_)
    · refine Sg (fun g1 => ?_)
      refine Sc (ix_up (ui_add (rfl : Ui (20) (20)) u_i1 g1)) (fun c2 => ?_) (fun _ => Sn)
      refine Sc Iff.rfl (fun c3 => ?_) (fun _ => Sn)
      refine SsI (ui_min (ui_rd (a := 4) u_I (ui_add (rfl : Ui (20) (20)) u_i1 g1) c2.1) u_i2) (fun v_13 v_13' u_v_13 => ?_)
      refine Sg (fun g4 => ?_)
      refine Sc (ix_up (ui_add (rfl : Ui (0) (0)) u_i1 g4)) (fun c5 => ?_) (fun _ => Sn)
      refine Sg (fun g6 => ?_)
      refine Sc (ix_up (ui_add (rfl : Ui (10) (10)) u_i1 g6)) (fun c7 => ?_) (fun _ => Sn)
      refine Sg (fun g8 => ?_)
      exact Sr ⟨(ui_add (ui_mul u_v_13 (ui_rd (a := 4) u_I (ui_add (rfl : Ui (0) (0)) u_i1 g4) c5.1) g8.1) (ui_mul (ui_sub u_i2 u_v_13 g8.2.1) (ui_rd (a := 4) u_I (ui_add (rfl : Ui (10) (10)) u_i1 g6) c7.1) g8.2.2.1) g8.2.2.2), u_I, u_L⟩
    exact Sn
set_option maxHeartbeats 4000000 in
set_option maxRecDepth 100000 in
def kf_138 : Nat → Nat → EN → Nat → JI → JI → Int → Int → Option (Int × JI × JI)
  | 0, _, _, _, _, _, _, _ => none
  | n + 1, dp, e, lab, I, L, i1, i2 =>
    if lab = 0 then (kf_138 n dp e 1 I L 0 0)
    else if lab = 1 then (if 10 ≤ i2 then (some ((i1 : Int), I, L)) else (if 1 ≤ dp then ((kf_139 n (dp - 1) e 0 I L i2 0 0 0).bind (fun ⟨x0_18, I0_18, L0_18⟩ => (if 1 ≤ dp then ((kf_141 n (dp - 1) e 0 I0_18 L0_18 i2 x0_18).bind (fun ⟨x1_21, I1_21, L1_21⟩ => (if (-2147483648 ≤ i1 + x1_21 ∧ i1 + x1_21 ≤ 2147483647) ∧ (-2147483648 ≤ i2 + 1 ∧ i2 + 1 ≤ 2147483647) then (kf_138 n dp e 1 I1_21 L1_21 (i1 + x1_21) (i2 + 1)) else none))) else none))) else none))
    else none
set_option maxRecDepth 100000 in
theorem ke_138_0 (n : Nat) (dp : Nat) (e : EN) (I : JI) (L : JI) (i1 : Int) (i2 : Int) : kf_138 (n + 1) dp e 0 I L i1 i2 = (kf_138 n dp e 1 I L 0 0) := by rw [kf_138.eq_2, if_pos (show (0 : Nat) = 0 from rfl)]
set_option maxRecDepth 100000 in
theorem ke_138_1 (n : Nat) (dp : Nat) (e : EN) (I : JI) (L : JI) (i1 : Int) (i2 : Int) : kf_138 (n + 1) dp e 1 I L i1 i2 = (if 10 ≤ i2 then (some ((i1 : Int), I, L)) else (if 1 ≤ dp then ((kf_139 n (dp - 1) e 0 I L i2 0 0 0).bind (fun ⟨x0_18, I0_18, L0_18⟩ => (if 1 ≤ dp then ((kf_141 n (dp - 1) e 0 I0_18 L0_18 i2 x0_18).bind (fun ⟨x1_21, I1_21, L1_21⟩ => (if (-2147483648 ≤ i1 + x1_21 ∧ i1 + x1_21 ≤ 2147483647) ∧ (-2147483648 ≤ i2 + 1 ∧ i2 + 1 ≤ 2147483647) then (kf_138 n dp e 1 I1_21 L1_21 (i1 + x1_21) (i2 + 1)) else none))) else none))) else none)) := by rw [kf_138.eq_2, if_neg (show ¬ ((1 : Nat) = 0) by decide), if_pos (show (1 : Nat) = 1 from rfl)]
set_option maxHeartbeats 8000000 in
set_option maxRecDepth 100000 in
theorem ks_138 : ∀ (n : Nat) (dp : Nat) (e : EN) (lab : Nat) (I : Nat → Nat → Int32) (I' : JI) (L : Nat → Nat → Int64) (L' : JI) (i1 : Int32) (i1' : Int) (i2 : Int32) (i2' : Int), Rli I I' → Rll L L' → Ui i1 i1' → Ui i2 i2' → Sim R3 (g_138 n dp e lab I L i1 i2) (kf_138 n dp e lab I' L' i1' i2') := by
  intro n
  induction n with
  | zero => intros; rw [kf_138.eq_1]; exact Sn
  | succ n ih =>
    intro dp e lab I I' L L' i1 i1' i2 i2' u_I u_L u_i1 u_i2
    rw [g_138.eq_2, kf_138.eq_2]
    refine Sc Iff.rfl (fun _ => ?_) (fun _ => ?_)
    · exact (ih dp e 1 _ _ _ _ _ _ _ _ u_I u_L (rfl : Ui (0) (0)) (rfl : Ui (0) (0)))
    refine Sc Iff.rfl (fun _ => ?_) (fun _ => ?_)
    · refine Sc (le_up (rfl : Ui (10) (10)) u_i2) (fun c1 => ?_) (fun c1 => ?_)
      · exact Sr ⟨u_i1, u_I, u_L⟩
      · refine Sc Iff.rfl (fun c2 => ?_) (fun _ => Sn)
        refine Sb3 (ks_139 n (dp - 1) e 0 _ _ _ _ _ _ _ _ _ _ _ _ u_I u_L u_i2 (rfl : Ui 0 0) (rfl : Ui 0 0) (rfl : Ui 0 0)) (fun x0_18 x0_18' I0_18 I0_18' L0_18 L0_18' u_x0_18 u_I0_18 u_L0_18 => ?_)
        refine Sc Iff.rfl (fun c3 => ?_) (fun _ => Sn)
        refine Sb3 (ks_141 n (dp - 1) e 0 _ _ _ _ _ _ _ _ u_I0_18 u_L0_18 u_i2 u_x0_18) (fun x1_21 x1_21' I1_21 I1_21' L1_21 L1_21' u_x1_21 u_I1_21 u_L1_21 => ?_)
        refine Sg (fun g4 => ?_)
        exact (ih dp e 1 _ _ _ _ _ _ _ _ u_I1_21 u_L1_21 (ui_add u_i1 u_x1_21 g4.1) (ui_add u_i2 (rfl : Ui (Int32.ofInt (1)) (1)) g4.2))
    exact Sn
set_option maxHeartbeats 4000000 in
set_option maxRecDepth 100000 in
def kf_142 : Nat → Nat → EN → Nat → JI → JI → Int → Int → Int → Option (Int × JI × JI)
  | 0, _, _, _, _, _, _, _, _ => none
  | n + 1, dp, e, lab, I, L, i1, i2, i3 =>
    if lab = 0 then (if 1 ≤ dp then ((kf_16 n (dp - 1) e 0 I L).bind (fun ⟨x0_6, I0_6, L0_6⟩ => (kf_142 n dp e 1 I0_6 L0_6 0 x0_6 0))) else none)
    else if lab = 1 then (if i2 ≤ i3 then (some ((i1 : Int), I, L)) else (if 1 ≤ dp then ((kf_140 n (dp - 1) e 0 I L i3).bind (fun ⟨x0_19, I0_19, L0_19⟩ => (if 0 ≤ i3 ∧ i3 < 8 then (if x0_19 = (I0_19 55 i3) then (kf_142 n dp e 2 I0_19 L0_19 i1 i2 i3) else (if -2147483648 ≤ i1 + 1 ∧ i1 + 1 ≤ 2147483647 then (kf_142 n dp e 2 I0_19 L0_19 (i1 + 1) i2 i3) else none)) else none))) else none))
    else if lab = 2 then (if -2147483648 ≤ i3 + 1 ∧ i3 + 1 ≤ 2147483647 then (kf_142 n dp e 1 I L i1 i2 (i3 + 1)) else none)
    else none
set_option maxRecDepth 100000 in
theorem ke_142_0 (n : Nat) (dp : Nat) (e : EN) (I : JI) (L : JI) (i1 : Int) (i2 : Int) (i3 : Int) : kf_142 (n + 1) dp e 0 I L i1 i2 i3 = (if 1 ≤ dp then ((kf_16 n (dp - 1) e 0 I L).bind (fun ⟨x0_6, I0_6, L0_6⟩ => (kf_142 n dp e 1 I0_6 L0_6 0 x0_6 0))) else none) := by rw [kf_142.eq_2, if_pos (show (0 : Nat) = 0 from rfl)]
set_option maxRecDepth 100000 in
theorem ke_142_1 (n : Nat) (dp : Nat) (e : EN) (I : JI) (L : JI) (i1 : Int) (i2 : Int) (i3 : Int) : kf_142 (n + 1) dp e 1 I L i1 i2 i3 = (if i2 ≤ i3 then (some ((i1 : Int), I, L)) else (if 1 ≤ dp then ((kf_140 n (dp - 1) e 0 I L i3).bind (fun ⟨x0_19, I0_19, L0_19⟩ => (if 0 ≤ i3 ∧ i3 < 8 then (if x0_19 = (I0_19 55 i3) then (kf_142 n dp e 2 I0_19 L0_19 i1 i2 i3) else (if -2147483648 ≤ i1 + 1 ∧ i1 + 1 ≤ 2147483647 then (kf_142 n dp e 2 I0_19 L0_19 (i1 + 1) i2 i3) else none)) else none))) else none)) := by rw [kf_142.eq_2, if_neg (show ¬ ((1 : Nat) = 0) by decide), if_pos (show (1 : Nat) = 1 from rfl)]
set_option maxRecDepth 100000 in
theorem ke_142_2 (n : Nat) (dp : Nat) (e : EN) (I : JI) (L : JI) (i1 : Int) (i2 : Int) (i3 : Int) : kf_142 (n + 1) dp e 2 I L i1 i2 i3 = (if -2147483648 ≤ i3 + 1 ∧ i3 + 1 ≤ 2147483647 then (kf_142 n dp e 1 I L i1 i2 (i3 + 1)) else none) := by rw [kf_142.eq_2, if_neg (show ¬ ((2 : Nat) = 0) by decide), if_neg (show ¬ ((2 : Nat) = 1) by decide), if_pos (show (2 : Nat) = 2 from rfl)]
set_option maxHeartbeats 8000000 in
set_option maxRecDepth 100000 in
theorem ks_142 : ∀ (n : Nat) (dp : Nat) (e : EN) (lab : Nat) (I : Nat → Nat → Int32) (I' : JI) (L : Nat → Nat → Int64) (L' : JI) (i1 : Int32) (i1' : Int) (i2 : Int32) (i2' : Int) (i3 : Int32) (i3' : Int), Rli I I' → Rll L L' → Ui i1 i1' → Ui i2 i2' → Ui i3 i3' → Sim R3 (g_142 n dp e lab I L i1 i2 i3) (kf_142 n dp e lab I' L' i1' i2' i3') := by
  intro n
  induction n with
  | zero => intros; rw [kf_142.eq_1]; exact Sn
  | succ n ih =>
    intro dp e lab I I' L L' i1 i1' i2 i2' i3 i3' u_I u_L u_i1 u_i2 u_i3
    rw [g_142.eq_2, kf_142.eq_2]
    refine Sc Iff.rfl (fun _ => ?_) (fun _ => ?_)
    · refine Sc Iff.rfl (fun c1 => ?_) (fun _ => Sn)
      refine Sb3 (ks_16 n (dp - 1) e 0 _ _ _ _ u_I u_L) (fun x0_6 x0_6' I0_6 I0_6' L0_6 L0_6' u_x0_6 u_I0_6 u_L0_6 => ?_)
      exact (ih dp e 1 _ _ _ _ _ _ _ _ _ _ u_I0_6 u_L0_6 (rfl : Ui (0) (0)) u_x0_6 (rfl : Ui (0) (0)))
    refine Sc Iff.rfl (fun _ => ?_) (fun _ => ?_)
    · refine Sc (le_up u_i2 u_i3) (fun c1 => ?_) (fun c1 => ?_)
      · exact Sr ⟨u_i1, u_I, u_L⟩
      · refine Sc Iff.rfl (fun c2 => ?_) (fun _ => Sn)
        refine Sb3 (ks_140 n (dp - 1) e 0 _ _ _ _ _ _ u_I u_L u_i3) (fun x0_19 x0_19' I0_19 I0_19' L0_19 L0_19' u_x0_19 u_I0_19 u_L0_19 => ?_)
        refine Sc (ix_up u_i3) (fun c3 => ?_) (fun _ => Sn)
        refine Sc (eq_up u_x0_19 (ui_rd (a := 55) u_I0_19 u_i3 c3.1)) (fun c4 => ?_) (fun c4 => ?_)
        · exact (ih dp e 2 _ _ _ _ _ _ _ _ _ _ u_I0_19 u_L0_19 u_i1 u_i2 u_i3)
        · refine Sg (fun g5 => ?_)
          exact (ih dp e 2 _ _ _ _ _ _ _ _ _ _ u_I0_19 u_L0_19 (ui_add u_i1 (rfl : Ui (Int32.ofInt (1)) (1)) g5) u_i2 u_i3)
    refine Sc Iff.rfl (fun _ => ?_) (fun _ => ?_)
    · refine Sg (fun g1 => ?_)
      exact (ih dp e 1 _ _ _ _ _ _ _ _ _ _ u_I u_L u_i1 u_i2 (ui_add u_i3 (rfl : Ui (Int32.ofInt (1)) (1)) g1))
    exact Sn
set_option maxHeartbeats 4000000 in
set_option maxRecDepth 100000 in
def kf_143 : Nat → Nat → EN → Nat → JI → JI → Int → Int → Option (Int × JI × JI)
  | 0, _, _, _, _, _, _, _ => none
  | n + 1, dp, e, lab, I, L, i1, i2 =>
    if lab = 0 then (kf_143 n dp e 1 I L 0 0)
    else if lab = 1 then (if 10 ≤ i2 then (some ((i1 : Int), I, L)) else (if 1 ≤ dp then ((kf_139 n (dp - 1) e 0 I L i2 0 0 0).bind (fun ⟨x0_18, I0_18, L0_18⟩ => (if 1 ≤ dp then ((kf_126 n (dp - 1) e 0 I0_18 L0_18 i2 x0_18).bind (fun ⟨x1_21, I1_21, L1_21⟩ => (if (-2147483648 ≤ i1 + x1_21 ∧ i1 + x1_21 ≤ 2147483647) ∧ (-2147483648 ≤ i2 + 1 ∧ i2 + 1 ≤ 2147483647) then (kf_143 n dp e 1 I1_21 L1_21 (i1 + x1_21) (i2 + 1)) else none))) else none))) else none))
    else none
set_option maxRecDepth 100000 in
theorem ke_143_0 (n : Nat) (dp : Nat) (e : EN) (I : JI) (L : JI) (i1 : Int) (i2 : Int) : kf_143 (n + 1) dp e 0 I L i1 i2 = (kf_143 n dp e 1 I L 0 0) := by rw [kf_143.eq_2, if_pos (show (0 : Nat) = 0 from rfl)]
set_option maxRecDepth 100000 in
theorem ke_143_1 (n : Nat) (dp : Nat) (e : EN) (I : JI) (L : JI) (i1 : Int) (i2 : Int) : kf_143 (n + 1) dp e 1 I L i1 i2 = (if 10 ≤ i2 then (some ((i1 : Int), I, L)) else (if 1 ≤ dp then ((kf_139 n (dp - 1) e 0 I L i2 0 0 0).bind (fun ⟨x0_18, I0_18, L0_18⟩ => (if 1 ≤ dp then ((kf_126 n (dp - 1) e 0 I0_18 L0_18 i2 x0_18).bind (fun ⟨x1_21, I1_21, L1_21⟩ => (if (-2147483648 ≤ i1 + x1_21 ∧ i1 + x1_21 ≤ 2147483647) ∧ (-2147483648 ≤ i2 + 1 ∧ i2 + 1 ≤ 2147483647) then (kf_143 n dp e 1 I1_21 L1_21 (i1 + x1_21) (i2 + 1)) else none))) else none))) else none)) := by rw [kf_143.eq_2, if_neg (show ¬ ((1 : Nat) = 0) by decide), if_pos (show (1 : Nat) = 1 from rfl)]
set_option maxHeartbeats 8000000 in
set_option maxRecDepth 100000 in
theorem ks_143 : ∀ (n : Nat) (dp : Nat) (e : EN) (lab : Nat) (I : Nat → Nat → Int32) (I' : JI) (L : Nat → Nat → Int64) (L' : JI) (i1 : Int32) (i1' : Int) (i2 : Int32) (i2' : Int), Rli I I' → Rll L L' → Ui i1 i1' → Ui i2 i2' → Sim R3 (g_143 n dp e lab I L i1 i2) (kf_143 n dp e lab I' L' i1' i2') := by
  intro n
  induction n with
  | zero => intros; rw [kf_143.eq_1]; exact Sn
  | succ n ih =>
    intro dp e lab I I' L L' i1 i1' i2 i2' u_I u_L u_i1 u_i2
    rw [g_143.eq_2, kf_143.eq_2]
    refine Sc Iff.rfl (fun _ => ?_) (fun _ => ?_)
    · exact (ih dp e 1 _ _ _ _ _ _ _ _ u_I u_L (rfl : Ui (0) (0)) (rfl : Ui (0) (0)))
    refine Sc Iff.rfl (fun _ => ?_) (fun _ => ?_)
    · refine Sc (le_up (rfl : Ui (10) (10)) u_i2) (fun c1 => ?_) (fun c1 => ?_)
      · exact Sr ⟨u_i1, u_I, u_L⟩
      · refine Sc Iff.rfl (fun c2 => ?_) (fun _ => Sn)
        refine Sb3 (ks_139 n (dp - 1) e 0 _ _ _ _ _ _ _ _ _ _ _ _ u_I u_L u_i2 (rfl : Ui 0 0) (rfl : Ui 0 0) (rfl : Ui 0 0)) (fun x0_18 x0_18' I0_18 I0_18' L0_18 L0_18' u_x0_18 u_I0_18 u_L0_18 => ?_)
        refine Sc Iff.rfl (fun c3 => ?_) (fun _ => Sn)
        refine Sb3 (ks_126 n (dp - 1) e 0 _ _ _ _ _ _ _ _ u_I0_18 u_L0_18 u_i2 u_x0_18) (fun x1_21 x1_21' I1_21 I1_21' L1_21 L1_21' u_x1_21 u_I1_21 u_L1_21 => ?_)
        refine Sg (fun g4 => ?_)
        exact (ih dp e 1 _ _ _ _ _ _ _ _ u_I1_21 u_L1_21 (ui_add u_i1 u_x1_21 g4.1) (ui_add u_i2 (rfl : Ui (Int32.ofInt (1)) (1)) g4.2))
    exact Sn
set_option maxHeartbeats 4000000 in
set_option maxRecDepth 100000 in
def kf_146 : Nat → Nat → EN → Nat → JI → JI → Int → Int → Int → Int → Int → Nat → Option (JI × JI)
  | 0, _, _, _, _, _, _, _, _, _, _, _ => none
  | n + 1, dp, e, lab, I, L, i1, i2, i4, i5, i6, a3 =>
    if lab = 0 then (if 0 ≤ i1 ∧ i1 < 3 then ((e.2.2 25 (Int.toNat i1)).bind (fun b_8 => (if (b_8 < e.1) ∧ ((e.2.1 b_8).1 = 2) then ((e.2.2 b_8 0).bind (fun b_9 => (if 1 ≤ dp then ((kf_36 n (dp - 1) e 0 I L 0 0 0 77).bind (fun ⟨I0_18, L0_18⟩ => (stI (w2 I0_18 77 0 1) (fun I_27 => (kf_146 n dp e 1 I_27 L0_18 i1 i2 0 0 0 b_9))))) else none))) else none))) else none)
    else if lab = 1 then (if 10 ≤ i4 then (some (I, L)) else (if (-2147483648 ≤ i2 * 10 ∧ i2 * 10 ≤ 2147483647) ∧ (-2147483648 ≤ (i2 * 10) + i4 ∧ (i2 * 10) + i4 ≤ 2147483647) then (if ((a3 < e.1) ∧ (((e.2.1 a3).1 = 13) ∧ ((e.2.1 a3).2 < (2 ^ 31)))) ∧ (0 ≤ ((i2 * 10) + i4) ∧ ((i2 * 10) + i4) < (((e.2.1 a3).2 : Nat) : Int)) then (stI (I a3 ((i2 * 10) + i4)) (fun v_47 => (if v_47 = (-1) then (kf_146 n dp e 4 I L i1 i2 i4 v_47 0 a3) else (if 0 ≤ v_47 ∧ v_47 < 16 then (if 0 ≤ i4 ∧ i4 < 10 then (if 1 ≤ dp then ((kf_77 n (dp - 1) e 0 I L 1 v_47 i1 0 0).bind (fun ⟨x0_81, I0_81, L0_81⟩ => (if 0 ≤ v_47 ∧ v_47 < 16 then (if (-2147483648 ≤ (I 77 i4) * x0_81 ∧ (I 77 i4) * x0_81 ≤ 2147483647) ∧ (-2147483648 ≤ (I 74 v_47) + ((I 77 i4) * x0_81) ∧ (I 74 v_47) + ((I 77 i4) * x0_81) ≤ 2147483647) then (stI (w2 I0_81 74 v_47 ((I 74 v_47) + ((I 77 i4) * x0_81))) (fun I_86 => (if 0 ≤ v_47 ∧ v_47 < 16 then (if (I_86 75 v_47) = (-1) then (if 1 ≤ dp then ((kf_77 n (dp - 1) e 0 I_86 L0_81 2 v_47 i1 0 0).bind (fun ⟨x1_112, I1_112, L1_112⟩ => (if 0 ≤ v_47 ∧ v_47 < 16 then (stI (w2 I1_112 75 v_47 x1_112) (fun I_115 => (kf_146 n dp e 2 I_115 L1_112 i1 i2 i4 v_47 0 a3))) else none))) else none) else (kf_146 n dp e 2 I_86 L0_81 i1 i2 i4 v_47 0 a3)) else none))) else none) else none))) else none) else none) else none)))) else none) else none))
    else if lab = 2 then (if -2147483648 ≤ i4 + 1 ∧ i4 + 1 ≤ 2147483647 then (kf_146 n dp e 3 I L i1 i2 i4 i5 (i4 + 1) a3) else none)
    else if lab = 3 then (if 10 ≤ i6 then (kf_146 n dp e 4 I L i1 i2 i4 i5 0 a3) else (if 0 ≤ i6 ∧ i6 < 10 then (if 0 ≤ i4 ∧ i4 < 10 then ((e.2.2 1 7).bind (fun b_148 => (if (b_148 < e.1) ∧ ((e.2.1 b_148).1 = 10) then ((e.2.2 b_148 7).bind (fun b_151 => (if (-2147483648 ≤ i5 * 10 ∧ i5 * 10 ≤ 2147483647) ∧ (-2147483648 ≤ (i5 * 10) + i6 ∧ (i5 * 10) + i6 ≤ 2147483647) then (if ((b_151 < e.1) ∧ (((e.2.1 b_151).1 = 13) ∧ ((e.2.1 b_151).2 < (2 ^ 31)))) ∧ (0 ≤ ((i5 * 10) + i6) ∧ ((i5 * 10) + i6) < (((e.2.1 b_151).2 : Nat) : Int)) then (if 0 ≤ i6 ∧ i6 < 10 then (if (-2147483648 ≤ (I 77 i4) * (I b_151 ((i5 * 10) + i6)) ∧ (I 77 i4) * (I b_151 ((i5 * 10) + i6)) ≤ 2147483647) ∧ (-2147483648 ≤ (I 77 i6) + ((I 77 i4) * (I b_151 ((i5 * 10) + i6))) ∧ (I 77 i6) + ((I 77 i4) * (I b_151 ((i5 * 10) + i6))) ≤ 2147483647) then (stI (w2 I 77 i6 ((I 77 i6) + ((I 77 i4) * (I b_151 ((i5 * 10) + i6))))) (fun I_165 => (if -2147483648 ≤ i6 + 1 ∧ i6 + 1 ≤ 2147483647 then (kf_146 n dp e 3 I_165 L i1 i2 i4 i5 (i6 + 1) a3) else none))) else none) else none) else none) else none))) else none))) else none) else none))
    else if lab = 4 then (if -2147483648 ≤ i4 + 1 ∧ i4 + 1 ≤ 2147483647 then (kf_146 n dp e 1 I L i1 i2 (i4 + 1) 0 0 a3) else none)
    else none
set_option maxRecDepth 100000 in
theorem ke_146_0 (n : Nat) (dp : Nat) (e : EN) (I : JI) (L : JI) (i1 : Int) (i2 : Int) (i4 : Int) (i5 : Int) (i6 : Int) (a3 : Nat) : kf_146 (n + 1) dp e 0 I L i1 i2 i4 i5 i6 a3 = (if 0 ≤ i1 ∧ i1 < 3 then ((e.2.2 25 (Int.toNat i1)).bind (fun b_8 => (if (b_8 < e.1) ∧ ((e.2.1 b_8).1 = 2) then ((e.2.2 b_8 0).bind (fun b_9 => (if 1 ≤ dp then ((kf_36 n (dp - 1) e 0 I L 0 0 0 77).bind (fun ⟨I0_18, L0_18⟩ => (stI (w2 I0_18 77 0 1) (fun I_27 => (kf_146 n dp e 1 I_27 L0_18 i1 i2 0 0 0 b_9))))) else none))) else none))) else none) := by rw [kf_146.eq_2, if_pos (show (0 : Nat) = 0 from rfl)]
set_option maxRecDepth 100000 in
theorem ke_146_1 (n : Nat) (dp : Nat) (e : EN) (I : JI) (L : JI) (i1 : Int) (i2 : Int) (i4 : Int) (i5 : Int) (i6 : Int) (a3 : Nat) : kf_146 (n + 1) dp e 1 I L i1 i2 i4 i5 i6 a3 = (if 10 ≤ i4 then (some (I, L)) else (if (-2147483648 ≤ i2 * 10 ∧ i2 * 10 ≤ 2147483647) ∧ (-2147483648 ≤ (i2 * 10) + i4 ∧ (i2 * 10) + i4 ≤ 2147483647) then (if ((a3 < e.1) ∧ (((e.2.1 a3).1 = 13) ∧ ((e.2.1 a3).2 < (2 ^ 31)))) ∧ (0 ≤ ((i2 * 10) + i4) ∧ ((i2 * 10) + i4) < (((e.2.1 a3).2 : Nat) : Int)) then (stI (I a3 ((i2 * 10) + i4)) (fun v_47 => (if v_47 = (-1) then (kf_146 n dp e 4 I L i1 i2 i4 v_47 0 a3) else (if 0 ≤ v_47 ∧ v_47 < 16 then (if 0 ≤ i4 ∧ i4 < 10 then (if 1 ≤ dp then ((kf_77 n (dp - 1) e 0 I L 1 v_47 i1 0 0).bind (fun ⟨x0_81, I0_81, L0_81⟩ => (if 0 ≤ v_47 ∧ v_47 < 16 then (if (-2147483648 ≤ (I 77 i4) * x0_81 ∧ (I 77 i4) * x0_81 ≤ 2147483647) ∧ (-2147483648 ≤ (I 74 v_47) + ((I 77 i4) * x0_81) ∧ (I 74 v_47) + ((I 77 i4) * x0_81) ≤ 2147483647) then (stI (w2 I0_81 74 v_47 ((I 74 v_47) + ((I 77 i4) * x0_81))) (fun I_86 => (if 0 ≤ v_47 ∧ v_47 < 16 then (if (I_86 75 v_47) = (-1) then (if 1 ≤ dp then ((kf_77 n (dp - 1) e 0 I_86 L0_81 2 v_47 i1 0 0).bind (fun ⟨x1_112, I1_112, L1_112⟩ => (if 0 ≤ v_47 ∧ v_47 < 16 then (stI (w2 I1_112 75 v_47 x1_112) (fun I_115 => (kf_146 n dp e 2 I_115 L1_112 i1 i2 i4 v_47 0 a3))) else none))) else none) else (kf_146 n dp e 2 I_86 L0_81 i1 i2 i4 v_47 0 a3)) else none))) else none) else none))) else none) else none) else none)))) else none) else none)) := by rw [kf_146.eq_2, if_neg (show ¬ ((1 : Nat) = 0) by decide), if_pos (show (1 : Nat) = 1 from rfl)]
set_option maxRecDepth 100000 in
theorem ke_146_2 (n : Nat) (dp : Nat) (e : EN) (I : JI) (L : JI) (i1 : Int) (i2 : Int) (i4 : Int) (i5 : Int) (i6 : Int) (a3 : Nat) : kf_146 (n + 1) dp e 2 I L i1 i2 i4 i5 i6 a3 = (if -2147483648 ≤ i4 + 1 ∧ i4 + 1 ≤ 2147483647 then (kf_146 n dp e 3 I L i1 i2 i4 i5 (i4 + 1) a3) else none) := by rw [kf_146.eq_2, if_neg (show ¬ ((2 : Nat) = 0) by decide), if_neg (show ¬ ((2 : Nat) = 1) by decide), if_pos (show (2 : Nat) = 2 from rfl)]
set_option maxRecDepth 100000 in
theorem ke_146_3 (n : Nat) (dp : Nat) (e : EN) (I : JI) (L : JI) (i1 : Int) (i2 : Int) (i4 : Int) (i5 : Int) (i6 : Int) (a3 : Nat) : kf_146 (n + 1) dp e 3 I L i1 i2 i4 i5 i6 a3 = (if 10 ≤ i6 then (kf_146 n dp e 4 I L i1 i2 i4 i5 0 a3) else (if 0 ≤ i6 ∧ i6 < 10 then (if 0 ≤ i4 ∧ i4 < 10 then ((e.2.2 1 7).bind (fun b_148 => (if (b_148 < e.1) ∧ ((e.2.1 b_148).1 = 10) then ((e.2.2 b_148 7).bind (fun b_151 => (if (-2147483648 ≤ i5 * 10 ∧ i5 * 10 ≤ 2147483647) ∧ (-2147483648 ≤ (i5 * 10) + i6 ∧ (i5 * 10) + i6 ≤ 2147483647) then (if ((b_151 < e.1) ∧ (((e.2.1 b_151).1 = 13) ∧ ((e.2.1 b_151).2 < (2 ^ 31)))) ∧ (0 ≤ ((i5 * 10) + i6) ∧ ((i5 * 10) + i6) < (((e.2.1 b_151).2 : Nat) : Int)) then (if 0 ≤ i6 ∧ i6 < 10 then (if (-2147483648 ≤ (I 77 i4) * (I b_151 ((i5 * 10) + i6)) ∧ (I 77 i4) * (I b_151 ((i5 * 10) + i6)) ≤ 2147483647) ∧ (-2147483648 ≤ (I 77 i6) + ((I 77 i4) * (I b_151 ((i5 * 10) + i6))) ∧ (I 77 i6) + ((I 77 i4) * (I b_151 ((i5 * 10) + i6))) ≤ 2147483647) then (stI (w2 I 77 i6 ((I 77 i6) + ((I 77 i4) * (I b_151 ((i5 * 10) + i6))))) (fun I_165 => (if -2147483648 ≤ i6 + 1 ∧ i6 + 1 ≤ 2147483647 then (kf_146 n dp e 3 I_165 L i1 i2 i4 i5 (i6 + 1) a3) else none))) else none) else none) else none) else none))) else none))) else none) else none)) := by rw [kf_146.eq_2, if_neg (show ¬ ((3 : Nat) = 0) by decide), if_neg (show ¬ ((3 : Nat) = 1) by decide), if_neg (show ¬ ((3 : Nat) = 2) by decide), if_pos (show (3 : Nat) = 3 from rfl)]
set_option maxRecDepth 100000 in
theorem ke_146_4 (n : Nat) (dp : Nat) (e : EN) (I : JI) (L : JI) (i1 : Int) (i2 : Int) (i4 : Int) (i5 : Int) (i6 : Int) (a3 : Nat) : kf_146 (n + 1) dp e 4 I L i1 i2 i4 i5 i6 a3 = (if -2147483648 ≤ i4 + 1 ∧ i4 + 1 ≤ 2147483647 then (kf_146 n dp e 1 I L i1 i2 (i4 + 1) 0 0 a3) else none) := by rw [kf_146.eq_2, if_neg (show ¬ ((4 : Nat) = 0) by decide), if_neg (show ¬ ((4 : Nat) = 1) by decide), if_neg (show ¬ ((4 : Nat) = 2) by decide), if_neg (show ¬ ((4 : Nat) = 3) by decide), if_pos (show (4 : Nat) = 4 from rfl)]
set_option maxHeartbeats 8000000 in
set_option maxRecDepth 100000 in
theorem ks_146 : ∀ (n : Nat) (dp : Nat) (e : EN) (lab : Nat) (I : Nat → Nat → Int32) (I' : JI) (L : Nat → Nat → Int64) (L' : JI) (i1 : Int32) (i1' : Int) (i2 : Int32) (i2' : Int) (i4 : Int32) (i4' : Int) (i5 : Int32) (i5' : Int) (i6 : Int32) (i6' : Int) (a3 : Nat), Rli I I' → Rll L L' → Ui i1 i1' → Ui i2 i2' → Ui i4 i4' → Ui i5 i5' → Ui i6 i6' → Sim R2 (g_146 n dp e lab I L i1 i2 i4 i5 i6 a3) (kf_146 n dp e lab I' L' i1' i2' i4' i5' i6' a3) := by
  intro n
  induction n with
  | zero => intros; rw [kf_146.eq_1]; exact Sn
  | succ n ih =>
    intro dp e lab I I' L L' i1 i1' i2 i2' i4 i4' i5 i5' i6 i6' a3 u_I u_L u_i1 u_i2 u_i4 u_i5 u_i6
    rw [g_146.eq_2, kf_146.eq_2]
    refine Sc Iff.rfl (fun _ => ?_) (fun _ => ?_)
    · refine Sc (ix_up u_i1) (fun c1 => ?_) (fun _ => Sn)
      refine SbE (by first | (rw [cl_up u_i1]; done) | (rw [cl_up u_i1]; rfl)) (fun b_8 => ?_)
      refine Sc Iff.rfl (fun c2 => ?_) (fun _ => Sn)
      refine SbE rfl (fun b_9 => ?_)
      refine Sc Iff.rfl (fun c3 => ?_) (fun _ => Sn)
      refine Sb2 (ks_36 n (dp - 1) e 0 _ _ _ _ _ _ _ _ _ _ 77 u_I u_L (rfl : Ui (0) (0)) (rfl : Ui 0 0) (rfl : Ui 0 0)) (fun I0_18 I0_18' L0_18 L0_18' u_I0_18 u_L0_18 => ?_)
      refine SsJ (ri_up u_I0_18 (rfl : ((0 : Nat) : Int) = 0) (rfl : Ui (1) (1))) (fun I_27 I_27' u_I_27 => ?_)
      exact (ih dp e 1 _ _ _ _ _ _ _ _ _ _ _ _ _ _ b_9 u_I_27 u_L0_18 u_i1 u_i2 (rfl : Ui (0) (0)) (rfl : Ui 0 0) (rfl : Ui 0 0))
    refine Sc Iff.rfl (fun _ => ?_) (fun _ => ?_)
    · refine Sc (le_up (rfl : Ui (10) (10)) u_i4) (fun c1 => ?_) (fun c1 => ?_)
      · exact Sr ⟨u_I, u_L⟩
      · refine Sg (fun g2 => ?_)
        refine Sc (and_congr Iff.rfl (ix_up (ui_add (ui_mul u_i2 (rfl : Ui (10) (10)) g2.1) u_i4 g2.2))) (fun c3 => ?_) (fun _ => Sn)
        refine SsI (ui_rd (a := a3) u_I (ui_add (ui_mul u_i2 (rfl : Ui (10) (10)) g2.1) u_i4 g2.2) c3.2.1) (fun v_47 v_47' u_v_47 => ?_)
        refine Sc (eq_up u_v_47 (rfl : Ui (-1) (-1))) (fun c4 => ?_) (fun c4 => ?_)
        · exact (ih dp e 4 _ _ _ _ _ _ _ _ _ _ _ _ _ _ a3 u_I u_L u_i1 u_i2 u_i4 u_v_47 (rfl : Ui 0 0))
        · refine Sc (ix_up u_v_47) (fun c5 => ?_) (fun _ => Sn)
          refine Sc (ix_up u_i4) (fun c6 => ?_) (fun _ => Sn)
          refine Sc Iff.rfl (fun c7 => ?_) (fun _ => Sn)
          refine Sb3 (ks_77 n (dp - 1) e 0 _ _ _ _ _ _ _ _ _ _ _ _ _ _ u_I u_L (rfl : Ui (1) (1)) u_v_47 u_i1 (rfl : Ui 0 0) (rfl : Ui 0 0)) (fun x0_81 x0_81' I0_81 I0_81' L0_81 L0_81' u_x0_81 u_I0_81 u_L0_81 => ?_)
          refine Sc (ix_up u_v_47) (fun c8 => ?_) (fun _ => Sn)
          refine Sg (fun g9 => ?_)
          refine SsJ (ri_up u_I0_81 (kc_up u_v_47 c8.1) (ui_add (ui_rd (a := 74) u_I u_v_47 c8.1) (ui_mul (ui_rd (a := 77) u_I u_i4 c6.1) u_x0_81 g9.1) g9.2)) (fun I_86 I_86' u_I_86 => ?_)
          refine Sc (ix_up u_v_47) (fun c10 => ?_) (fun _ => Sn)
          refine Sc (eq_up (ui_rd (a := 75) u_I_86 u_v_47 c10.1) (rfl : Ui (-1) (-1))) (fun c11 => ?_) (fun c11 => ?_)
          · refine Sc Iff.rfl (fun c12 => ?_) (fun _ => Sn)
            refine Sb3 (ks_77 n (dp - 1) e 0 _ _ _ _ _ _ _ _ _ _ _ _ _ _ u_I_86 u_L0_81 (rfl : Ui (2) (2)) u_v_47 u_i1 (rfl : Ui 0 0) (rfl : Ui 0 0)) (fun x1_112 x1_112' I1_112 I1_112' L1_112 L1_112' u_x1_112 u_I1_112 u_L1_112 => ?_)
            refine Sc (ix_up u_v_47) (fun c13 => ?_) (fun _ => Sn)
            refine SsJ (ri_up u_I1_112 (kc_up u_v_47 c13.1) u_x1_112) (fun I_115 I_115' u_I_115 => ?_)
            exact (ih dp e 2 _ _ _ _ _ _ _ _ _ _ _ _ _ _ a3 u_I_115 u_L1_112 u_i1 u_i2 u_i4 u_v_47 (rfl : Ui 0 0))
          · exact (ih dp e 2 _ _ _ _ _ _ _ _ _ _ _ _ _ _ a3 u_I_86 u_L0_81 u_i1 u_i2 u_i4 u_v_47 (rfl : Ui 0 0))
    refine Sc Iff.rfl (fun _ => ?_) (fun _ => ?_)
    · refine Sg (fun g1 => ?_)
      exact (ih dp e 3 _ _ _ _ _ _ _ _ _ _ _ _ _ _ a3 u_I u_L u_i1 u_i2 u_i4 u_i5 (ui_add u_i4 (rfl : Ui (1) (1)) g1))
    refine Sc Iff.rfl (fun _ => ?_) (fun _ => ?_)
    · refine Sc (le_up (rfl : Ui (10) (10)) u_i6) (fun c1 => ?_) (fun c1 => ?_)
      · exact (ih dp e 4 _ _ _ _ _ _ _ _ _ _ _ _ _ _ a3 u_I u_L u_i1 u_i2 u_i4 u_i5 (rfl : Ui 0 0))
      · refine Sc (ix_up u_i6) (fun c2 => ?_) (fun _ => Sn)
        refine Sc (ix_up u_i4) (fun c3 => ?_) (fun _ => Sn)
        refine SbE rfl (fun b_148 => ?_)
        refine Sc Iff.rfl (fun c4 => ?_) (fun _ => Sn)
        refine SbE rfl (fun b_151 => ?_)
        refine Sg (fun g5 => ?_)
        refine Sc (and_congr Iff.rfl (ix_up (ui_add (ui_mul u_i5 (rfl : Ui (10) (10)) g5.1) u_i6 g5.2))) (fun c6 => ?_) (fun _ => Sn)
        refine Sc (ix_up u_i6) (fun c7 => ?_) (fun _ => Sn)
        refine Sg (fun g8 => ?_)
        refine SsJ (ri_up u_I (kc_up u_i6 c7.1) (ui_add (ui_rd (a := 77) u_I u_i6 c7.1) (ui_mul (ui_rd (a := 77) u_I u_i4 c3.1) (ui_rd (a := b_151) u_I (ui_add (ui_mul u_i5 (rfl : Ui (10) (10)) g5.1) u_i6 g5.2) c6.2.1) g8.1) g8.2)) (fun I_165 I_165' u_I_165 => ?_)
        refine Sg (fun g9 => ?_)
        exact (ih dp e 3 _ _ _ _ _ _ _ _ _ _ _ _ _ _ a3 u_I_165 u_L u_i1 u_i2 u_i4 u_i5 (ui_add u_i6 (rfl : Ui (Int32.ofInt (1)) (1)) g9))
    refine Sc Iff.rfl (fun _ => ?_) (fun _ => ?_)
    · refine Sg (fun g1 => ?_)
      exact (ih dp e 1 _ _ _ _ _ _ _ _ _ _ _ _ _ _ a3 u_I u_L u_i1 u_i2 (ui_add u_i4 (rfl : Ui (Int32.ofInt (1)) (1)) g1) (rfl : Ui 0 0) (rfl : Ui 0 0))
    exact Sn
set_option maxHeartbeats 4000000 in
set_option maxRecDepth 100000 in
def kf_145 : Nat → Nat → EN → Nat → JI → JI → Int → Int → Option (JI × JI)
  | 0, _, _, _, _, _, _, _ => none
  | n + 1, dp, e, lab, I, L, i1, i2 =>
    if lab = 0 then (if (I 73 15) = 0 then (some (I, L)) else (stI (w2 I 73 15 0) (fun I_10 => (if 1 ≤ dp then ((kf_36 n (dp - 1) e 0 I_10 L 0 0 0 74).bind (fun ⟨I0_18, L0_18⟩ => (if 1 ≤ dp then ((kf_36 n (dp - 1) e 0 I0_18 L0_18 (-1) 0 0 75).bind (fun ⟨I1_26, L1_26⟩ => (if 1 ≤ dp then ((kf_16 n (dp - 1) e 0 I1_26 L1_26).bind (fun ⟨x2_33, I2_33, L2_33⟩ => (kf_145 n dp e 1 I2_33 L2_33 x2_33 0))) else none))) else none))) else none))))
    else if lab = 1 then (if i1 ≤ i2 then (stI (w2 I 73 10 0) (fun I_73 => (stI (w2 I_73 73 11 0) (fun I_78 => (kf_145 n dp e 2 I_78 L i1 0))))) else (if 1 ≤ dp then ((kf_121 n (dp - 1) e 0 I L i2).bind (fun ⟨x0_50, I0_50, L0_50⟩ => (if 0 ≤ i2 ∧ i2 < 8 then (if 1 ≤ dp then ((kf_146 n (dp - 1) e 0 I0_50 L0_50 x0_50 (I0_50 55 i2) 0 0 0 0).bind (fun ⟨I1_62, L1_62⟩ => (if -2147483648 ≤ i2 + 1 ∧ i2 + 1 ≤ 2147483647 then (kf_145 n dp e 1 I1_62 L1_62 i1 (i2 + 1)) else none))) else none) else none))) else none))
    else if lab = 2 then (if 16 ≤ i2 then (some (I, L)) else (if 0 ≤ i2 ∧ i2 < 16 then (if (I 75 i2) = (-1) then (kf_145 n dp e 3 I L i1 i2) else (if 0 ≤ (I 73 10) ∧ (I 73 10) < 16 then (stI (w2 I 78 (I 73 10) i2) (fun I_108 => (if -2147483648 ≤ (I_108 73 10) + 1 ∧ (I_108 73 10) + 1 ≤ 2147483647 then (stI (w2 I_108 73 10 ((I_108 73 10) + 1)) (fun I_116 => (if 0 ≤ i2 ∧ i2 < 16 then (if -2147483648 ≤ (I_116 73 11) + (I_116 74 i2) ∧ (I_116 73 11) + (I_116 74 i2) ≤ 2147483647 then (stI (w2 I_116 73 11 ((I_116 73 11) + (I_116 74 i2))) (fun I_131 => (kf_145 n dp e 3 I_131 L i1 i2))) else none) else none))) else none))) else none)) else none))
    else if lab = 3 then (if -2147483648 ≤ i2 + 1 ∧ i2 + 1 ≤ 2147483647 then (kf_145 n dp e 2 I L i1 (i2 + 1)) else none)
    else none
set_option maxRecDepth 100000 in
theorem ke_145_0 (n : Nat) (dp : Nat) (e : EN) (I : JI) (L : JI) (i1 : Int) (i2 : Int) : kf_145 (n + 1) dp e 0 I L i1 i2 = (if (I 73 15) = 0 then (some (I, L)) else (stI (w2 I 73 15 0) (fun I_10 => (if 1 ≤ dp then ((kf_36 n (dp - 1) e 0 I_10 L 0 0 0 74).bind (fun ⟨I0_18, L0_18⟩ => (if 1 ≤ dp then ((kf_36 n (dp - 1) e 0 I0_18 L0_18 (-1) 0 0 75).bind (fun ⟨I1_26, L1_26⟩ => (if 1 ≤ dp then ((kf_16 n (dp - 1) e 0 I1_26 L1_26).bind (fun ⟨x2_33, I2_33, L2_33⟩ => (kf_145 n dp e 1 I2_33 L2_33 x2_33 0))) else none))) else none))) else none)))) := by rw [kf_145.eq_2, if_pos (show (0 : Nat) = 0 from rfl)]
set_option maxRecDepth 100000 in
theorem ke_145_1 (n : Nat) (dp : Nat) (e : EN) (I : JI) (L : JI) (i1 : Int) (i2 : Int) : kf_145 (n + 1) dp e 1 I L i1 i2 = (if i1 ≤ i2 then (stI (w2 I 73 10 0) (fun I_73 => (stI (w2 I_73 73 11 0) (fun I_78 => (kf_145 n dp e 2 I_78 L i1 0))))) else (if 1 ≤ dp then ((kf_121 n (dp - 1) e 0 I L i2).bind (fun ⟨x0_50, I0_50, L0_50⟩ => (if 0 ≤ i2 ∧ i2 < 8 then (if 1 ≤ dp then ((kf_146 n (dp - 1) e 0 I0_50 L0_50 x0_50 (I0_50 55 i2) 0 0 0 0).bind (fun ⟨I1_62, L1_62⟩ => (if -2147483648 ≤ i2 + 1 ∧ i2 + 1 ≤ 2147483647 then (kf_145 n dp e 1 I1_62 L1_62 i1 (i2 + 1)) else none))) else none) else none))) else none)) := by rw [kf_145.eq_2, if_neg (show ¬ ((1 : Nat) = 0) by decide), if_pos (show (1 : Nat) = 1 from rfl)]
set_option maxRecDepth 100000 in
theorem ke_145_2 (n : Nat) (dp : Nat) (e : EN) (I : JI) (L : JI) (i1 : Int) (i2 : Int) : kf_145 (n + 1) dp e 2 I L i1 i2 = (if 16 ≤ i2 then (some (I, L)) else (if 0 ≤ i2 ∧ i2 < 16 then (if (I 75 i2) = (-1) then (kf_145 n dp e 3 I L i1 i2) else (if 0 ≤ (I 73 10) ∧ (I 73 10) < 16 then (stI (w2 I 78 (I 73 10) i2) (fun I_108 => (if -2147483648 ≤ (I_108 73 10) + 1 ∧ (I_108 73 10) + 1 ≤ 2147483647 then (stI (w2 I_108 73 10 ((I_108 73 10) + 1)) (fun I_116 => (if 0 ≤ i2 ∧ i2 < 16 then (if -2147483648 ≤ (I_116 73 11) + (I_116 74 i2) ∧ (I_116 73 11) + (I_116 74 i2) ≤ 2147483647 then (stI (w2 I_116 73 11 ((I_116 73 11) + (I_116 74 i2))) (fun I_131 => (kf_145 n dp e 3 I_131 L i1 i2))) else none) else none))) else none))) else none)) else none)) := by rw [kf_145.eq_2, if_neg (show ¬ ((2 : Nat) = 0) by decide), if_neg (show ¬ ((2 : Nat) = 1) by decide), if_pos (show (2 : Nat) = 2 from rfl)]
set_option maxRecDepth 100000 in
theorem ke_145_3 (n : Nat) (dp : Nat) (e : EN) (I : JI) (L : JI) (i1 : Int) (i2 : Int) : kf_145 (n + 1) dp e 3 I L i1 i2 = (if -2147483648 ≤ i2 + 1 ∧ i2 + 1 ≤ 2147483647 then (kf_145 n dp e 2 I L i1 (i2 + 1)) else none) := by rw [kf_145.eq_2, if_neg (show ¬ ((3 : Nat) = 0) by decide), if_neg (show ¬ ((3 : Nat) = 1) by decide), if_neg (show ¬ ((3 : Nat) = 2) by decide), if_pos (show (3 : Nat) = 3 from rfl)]
set_option maxHeartbeats 8000000 in
set_option maxRecDepth 100000 in
theorem ks_145 : ∀ (n : Nat) (dp : Nat) (e : EN) (lab : Nat) (I : Nat → Nat → Int32) (I' : JI) (L : Nat → Nat → Int64) (L' : JI) (i1 : Int32) (i1' : Int) (i2 : Int32) (i2' : Int), Rli I I' → Rll L L' → Ui i1 i1' → Ui i2 i2' → Sim R2 (g_145 n dp e lab I L i1 i2) (kf_145 n dp e lab I' L' i1' i2') := by
  intro n
  induction n with
  | zero => intros; rw [kf_145.eq_1]; exact Sn
  | succ n ih =>
    intro dp e lab I I' L L' i1 i1' i2 i2' u_I u_L u_i1 u_i2
    rw [g_145.eq_2, kf_145.eq_2]
    refine Sc Iff.rfl (fun _ => ?_) (fun _ => ?_)
    · refine Sc (eq_up (u_I 73 15) (rfl : Ui 0 0)) (fun c1 => ?_) (fun c1 => ?_)
      · exact Sr ⟨u_I, u_L⟩
      · refine SsJ (ri_up u_I (rfl : ((15 : Nat) : Int) = 15) (rfl : Ui (0) (0))) (fun I_10 I_10' u_I_10 => ?_)
        refine Sc Iff.rfl (fun c2 => ?_) (fun _ => Sn)
        refine Sb2 (ks_36 n (dp - 1) e 0 _ _ _ _ _ _ _ _ _ _ 74 u_I_10 u_L (rfl : Ui (0) (0)) (rfl : Ui 0 0) (rfl : Ui 0 0)) (fun I0_18 I0_18' L0_18 L0_18' u_I0_18 u_L0_18 => ?_)
        refine Sc Iff.rfl (fun c3 => ?_) (fun _ => Sn)
        refine Sb2 (ks_36 n (dp - 1) e 0 _ _ _ _ _ _ _ _ _ _ 75 u_I0_18 u_L0_18 (rfl : Ui (-1) (-1)) (rfl : Ui 0 0) (rfl : Ui 0 0)) (fun I1_26 I1_26' L1_26 L1_26' u_I1_26 u_L1_26 => ?_)
        refine Sc Iff.rfl (fun c4 => ?_) (fun _ => Sn)
        refine Sb3 (ks_16 n (dp - 1) e 0 _ _ _ _ u_I1_26 u_L1_26) (fun x2_33 x2_33' I2_33 I2_33' L2_33 L2_33' u_x2_33 u_I2_33 u_L2_33 => ?_)
        exact (ih dp e 1 _ _ _ _ _ _ _ _ u_I2_33 u_L2_33 u_x2_33 (rfl : Ui (0) (0)))
    refine Sc Iff.rfl (fun _ => ?_) (fun _ => ?_)
    · refine Sc (le_up u_i1 u_i2) (fun c1 => ?_) (fun c1 => ?_)
      · refine SsJ (ri_up u_I (rfl : ((10 : Nat) : Int) = 10) (rfl : Ui (0) (0))) (fun I_73 I_73' u_I_73 => ?_)
        refine SsJ (ri_up u_I_73 (rfl : ((11 : Nat) : Int) = 11) (rfl : Ui (0) (0))) (fun I_78 I_78' u_I_78 => ?_)
        exact (ih dp e 2 _ _ _ _ _ _ _ _ u_I_78 u_L u_i1 (rfl : Ui (0) (0)))
      · refine Sc Iff.rfl (fun c2 => ?_) (fun _ => Sn)
        refine Sb3 (ks_121 n (dp - 1) e 0 _ _ _ _ _ _ u_I u_L u_i2) (fun x0_50 x0_50' I0_50 I0_50' L0_50 L0_50' u_x0_50 u_I0_50 u_L0_50 => ?_)
        refine Sc (ix_up u_i2) (fun c3 => ?_) (fun _ => Sn)
        refine Sc Iff.rfl (fun c4 => ?_) (fun _ => Sn)
        refine Sb2 (ks_146 n (dp - 1) e 0 _ _ _ _ _ _ _ _ _ _ _ _ _ _ 0 u_I0_50 u_L0_50 u_x0_50 (ui_rd (a := 55) u_I0_50 u_i2 c3.1) (rfl : Ui 0 0) (rfl : Ui 0 0) (rfl : Ui 0 0)) (fun I1_62 I1_62' L1_62 L1_62' u_I1_62 u_L1_62 => ?_)
        refine Sg (fun g5 => ?_)
        exact (ih dp e 1 _ _ _ _ _ _ _ _ u_I1_62 u_L1_62 u_i1 (ui_add u_i2 (rfl : Ui (Int32.ofInt (1)) (1)) g5))
    refine Sc Iff.rfl (fun _ => ?_) (fun _ => ?_)
    · refine Sc (le_up (rfl : Ui (16) (16)) u_i2) (fun c1 => ?_) (fun c1 => ?_)
      · exact Sr ⟨u_I, u_L⟩
      · refine Sc (ix_up u_i2) (fun c2 => ?_) (fun _ => Sn)
        refine Sc (eq_up (ui_rd (a := 75) u_I u_i2 c2.1) (rfl : Ui (-1) (-1))) (fun c3 => ?_) (fun c3 => ?_)
        · exact (ih dp e 3 _ _ _ _ _ _ _ _ u_I u_L u_i1 u_i2)
        · refine Sc (ix_up (u_I 73 10)) (fun c4 => ?_) (fun _ => Sn)
          refine SsJ (ri_up u_I (kc_up (u_I 73 10) c4.1) u_i2) (fun I_108 I_108' u_I_108 => ?_)
          refine Sg (fun g5 => ?_)
          refine SsJ (ri_up u_I_108 (rfl : ((10 : Nat) : Int) = 10) (ui_add (u_I_108 73 10) (rfl : Ui (1) (1)) g5)) (fun I_116 I_116' u_I_116 => ?_)
          refine Sc (ix_up u_i2) (fun c6 => ?_) (fun _ => Sn)
          refine Sg (fun g7 => ?_)
          refine SsJ (ri_up u_I_116 (rfl : ((11 : Nat) : Int) = 11) (ui_add (u_I_116 73 11) (ui_rd (a := 74) u_I_116 u_i2 c6.1) g7)) (fun I_131 I_131' u_I_131 => ?_)
          exact (ih dp e 3 _ _ _ _ _ _ _ _ u_I_131 u_L u_i1 u_i2)
    refine Sc Iff.rfl (fun _ => ?_) (fun _ => ?_)
    · refine Sg (fun g1 => ?_)
      exact (ih dp e 2 _ _ _ _ _ _ _ _ u_I u_L u_i1 (ui_add u_i2 (rfl : Ui (Int32.ofInt (1)) (1)) g1))
    exact Sn
set_option maxHeartbeats 4000000 in
set_option maxRecDepth 100000 in
def kf_150 : Nat → Nat → EN → Nat → JI → JI → Int → Int → Int → Option (Int × JI × JI)
  | 0, _, _, _, _, _, _, _, _ => none
  | n + 1, dp, e, lab, I, L, i1, i2, i3 =>
    if lab = 0 then (if i3 = 0 then (if i2 ≤ i1 then (some ((0 : Int), I, L)) else (some ((1 : Int), I, L))) else (if 0 ≤ i1 ∧ i1 < 16 then (if 0 ≤ i2 ∧ i2 < 16 then (if (I 74 i1) ≤ (I 74 i2) then (some ((0 : Int), I, L)) else (some ((1 : Int), I, L))) else none) else none))
    else none
set_option maxRecDepth 100000 in
theorem ke_150_0 (n : Nat) (dp : Nat) (e : EN) (I : JI) (L : JI) (i1 : Int) (i2 : Int) (i3 : Int) : kf_150 (n + 1) dp e 0 I L i1 i2 i3 = (if i3 = 0 then (if i2 ≤ i1 then (some ((0 : Int), I, L)) else (some ((1 : Int), I, L))) else (if 0 ≤ i1 ∧ i1 < 16 then (if 0 ≤ i2 ∧ i2 < 16 then (if (I 74 i1) ≤ (I 74 i2) then (some ((0 : Int), I, L)) else (some ((1 : Int), I, L))) else none) else none)) := by rw [kf_150.eq_2, if_pos (show (0 : Nat) = 0 from rfl)]
set_option maxHeartbeats 8000000 in
set_option maxRecDepth 100000 in
theorem ks_150 : ∀ (n : Nat) (dp : Nat) (e : EN) (lab : Nat) (I : Nat → Nat → Int32) (I' : JI) (L : Nat → Nat → Int64) (L' : JI) (i1 : Int32) (i1' : Int) (i2 : Int32) (i2' : Int) (i3 : Int32) (i3' : Int), Rli I I' → Rll L L' → Ui i1 i1' → Ui i2 i2' → Ui i3 i3' → Sim R3 (g_150 n dp e lab I L i1 i2 i3) (kf_150 n dp e lab I' L' i1' i2' i3') := by
  intro n
  induction n with
  | zero => intros; rw [kf_150.eq_1]; exact Sn
  | succ n ih =>
    intro dp e lab I I' L L' i1 i1' i2 i2' i3 i3' u_I u_L u_i1 u_i2 u_i3
    rw [g_150.eq_2, kf_150.eq_2]
    refine Sc Iff.rfl (fun _ => ?_) (fun _ => ?_)
    · refine Sc (eq_up u_i3 (rfl : Ui 0 0)) (fun c1 => ?_) (fun c1 => ?_)
      · refine Sc (le_up u_i2 u_i1) (fun c2 => ?_) (fun c2 => ?_)
        · exact Sr ⟨(rfl : Ui (0) (0)), u_I, u_L⟩
        · exact Sr ⟨(rfl : Ui (1) (1)), u_I, u_L⟩
      · refine Sc (ix_up u_i1) (fun c3 => ?_) (fun _ => Sn)
        refine Sc (ix_up u_i2) (fun c4 => ?_) (fun _ => Sn)
        refine Sc (le_up (ui_rd (a := 74) u_I u_i1 c3.1) (ui_rd (a := 74) u_I u_i2 c4.1)) (fun c5 => ?_) (fun c5 => ?_)
        · exact Sr ⟨(rfl : Ui (0) (0)), u_I, u_L⟩
        · exact Sr ⟨(rfl : Ui (1) (1)), u_I, u_L⟩
    exact Sn
set_option maxHeartbeats 4000000 in
set_option maxRecDepth 100000 in
def kf_149 : Nat → Nat → EN → Nat → JI → JI → Int → Int → Int → Int → Option (JI × JI)
  | 0, _, _, _, _, _, _, _, _, _ => none
  | n + 1, dp, e, lab, I, L, i1, i2, i3, i4 =>
    if lab = 0 then (kf_149 n dp e 1 I L i1 1 0 0)
    else if lab = 1 then (if (I 73 10) ≤ i2 then (some (I, L)) else (if 0 ≤ i2 ∧ i2 < 16 then (stI (I 78 i2) (fun v_16 => (kf_149 n dp e 2 I L i1 i2 v_16 i2))) else none))
    else if lab = 2 then (if i4 ≤ 0 then (kf_149 n dp e 3 I L i1 i2 i3 i4) else (if -2147483648 ≤ i4 - 1 ∧ i4 - 1 ≤ 2147483647 then (if 0 ≤ (i4 - 1) ∧ (i4 - 1) < 16 then (if 1 ≤ dp then ((kf_150 n (dp - 1) e 0 I L i3 (I 78 (i4 - 1)) i1).bind (fun ⟨x0_37, I0_37, L0_37⟩ => (if x0_37 = 0 then (kf_149 n dp e 3 I0_37 L0_37 i1 i2 i3 i4) else (if 0 ≤ (i4 - 1) ∧ (i4 - 1) < 16 then (if 0 ≤ i4 ∧ i4 < 16 then (stI (w2 I0_37 78 i4 (I0_37 78 (i4 - 1))) (fun I_58 => (if -2147483648 ≤ i4 + (-1) ∧ i4 + (-1) ≤ 2147483647 then (kf_149 n dp e 2 I_58 L0_37 i1 i2 i3 (i4 + (-1))) else none))) else none) else none)))) else none) else none) else none))
    else if lab = 3 then (if 0 ≤ i4 ∧ i4 < 16 then (stI (w2 I 78 i4 i3) (fun I_72 => (if -2147483648 ≤ i2 + 1 ∧ i2 + 1 ≤ 2147483647 then (kf_149 n dp e 1 I_72 L i1 (i2 + 1) 0 0) else none))) else none)
    else none
set_option maxRecDepth 100000 in
theorem ke_149_0 (n : Nat) (dp : Nat) (e : EN) (I : JI) (L : JI) (i1 : Int) (i2 : Int) (i3 : Int) (i4 : Int) : kf_149 (n + 1) dp e 0 I L i1 i2 i3 i4 = (kf_149 n dp e 1 I L i1 1 0 0) := by rw [kf_149.eq_2, if_pos (show (0 : Nat) = 0 from rfl)]
set_option maxRecDepth 100000 in
theorem ke_149_1 (n : Nat) (dp : Nat) (e : EN) (I : JI) (L : JI) (i1 : Int) (i2 : Int) (i3 : Int) (i4 : Int) : kf_149 (n + 1) dp e 1 I L i1 i2 i3 i4 = (if (I 73 10) ≤ i2 then (some (I, L)) else (if 0 ≤ i2 ∧ i2 < 16 then (stI (I 78 i2) (fun v_16 => (kf_149 n dp e 2 I L i1 i2 v_16 i2))) else none)) := by rw [kf_149.eq_2, if_neg (show ¬ ((1 : Nat) = 0) by decide), if_pos (show (1 : Nat) = 1 from rfl)]
set_option maxRecDepth 100000 in
theorem ke_149_2 (n : Nat) (dp : Nat) (e : EN) (I : JI) (L : JI) (i1 : Int) (i2 : Int) (i3 : Int) (i4 : Int) : kf_149 (n + 1) dp e 2 I L i1 i2 i3 i4 = (if i4 ≤ 0 then (kf_149 n dp e 3 I L i1 i2 i3 i4) else (if -2147483648 ≤ i4 - 1 ∧ i4 - 1 ≤ 2147483647 then (if 0 ≤ (i4 - 1) ∧ (i4 - 1) < 16 then (if 1 ≤ dp then ((kf_150 n (dp - 1) e 0 I L i3 (I 78 (i4 - 1)) i1).bind (fun ⟨x0_37, I0_37, L0_37⟩ => (if x0_37 = 0 then (kf_149 n dp e 3 I0_37 L0_37 i1 i2 i3 i4) else (if 0 ≤ (i4 - 1) ∧ (i4 - 1) < 16 then (if 0 ≤ i4 ∧ i4 < 16 then (stI (w2 I0_37 78 i4 (I0_37 78 (i4 - 1))) (fun I_58 => (if -2147483648 ≤ i4 + (-1) ∧ i4 + (-1) ≤ 2147483647 then (kf_149 n dp e 2 I_58 L0_37 i1 i2 i3 (i4 + (-1))) else none))) else none) else none)))) else none) else none) else none)) := by rw [kf_149.eq_2, if_neg (show ¬ ((2 : Nat) = 0) by decide), if_neg (show ¬ ((2 : Nat) = 1) by decide), if_pos (show (2 : Nat) = 2 from rfl)]
set_option maxRecDepth 100000 in
theorem ke_149_3 (n : Nat) (dp : Nat) (e : EN) (I : JI) (L : JI) (i1 : Int) (i2 : Int) (i3 : Int) (i4 : Int) : kf_149 (n + 1) dp e 3 I L i1 i2 i3 i4 = (if 0 ≤ i4 ∧ i4 < 16 then (stI (w2 I 78 i4 i3) (fun I_72 => (if -2147483648 ≤ i2 + 1 ∧ i2 + 1 ≤ 2147483647 then (kf_149 n dp e 1 I_72 L i1 (i2 + 1) 0 0) else none))) else none) := by rw [kf_149.eq_2, if_neg (show ¬ ((3 : Nat) = 0) by decide), if_neg (show ¬ ((3 : Nat) = 1) by decide), if_neg (show ¬ ((3 : Nat) = 2) by decide), if_pos (show (3 : Nat) = 3 from rfl)]
set_option maxHeartbeats 8000000 in
set_option maxRecDepth 100000 in
theorem ks_149 : ∀ (n : Nat) (dp : Nat) (e : EN) (lab : Nat) (I : Nat → Nat → Int32) (I' : JI) (L : Nat → Nat → Int64) (L' : JI) (i1 : Int32) (i1' : Int) (i2 : Int32) (i2' : Int) (i3 : Int32) (i3' : Int) (i4 : Int32) (i4' : Int), Rli I I' → Rll L L' → Ui i1 i1' → Ui i2 i2' → Ui i3 i3' → Ui i4 i4' → Sim R2 (g_149 n dp e lab I L i1 i2 i3 i4) (kf_149 n dp e lab I' L' i1' i2' i3' i4') := by
  intro n
  induction n with
  | zero => intros; rw [kf_149.eq_1]; exact Sn
  | succ n ih =>
    intro dp e lab I I' L L' i1 i1' i2 i2' i3 i3' i4 i4' u_I u_L u_i1 u_i2 u_i3 u_i4
    rw [g_149.eq_2, kf_149.eq_2]
    refine Sc Iff.rfl (fun _ => ?_) (fun _ => ?_)
    · exact (ih dp e 1 _ _ _ _ _ _ _ _ _ _ _ _ u_I u_L u_i1 (rfl : Ui (1) (1)) (rfl : Ui 0 0) (rfl : Ui 0 0))
    refine Sc Iff.rfl (fun _ => ?_) (fun _ => ?_)
    · refine Sc (le_up (u_I 73 10) u_i2) (fun c1 => ?_) (fun c1 => ?_)
      · exact Sr ⟨u_I, u_L⟩
      · refine Sc (ix_up u_i2) (fun c2 => ?_) (fun _ => Sn)
        refine SsI (ui_rd (a := 78) u_I u_i2 c2.1) (fun v_16 v_16' u_v_16 => ?_)
        exact (ih dp e 2 _ _ _ _ _ _ _ _ _ _ _ _ u_I u_L u_i1 u_i2 u_v_16 u_i2)
    refine Sc Iff.rfl (fun _ => ?_) (fun _ => ?_)
    · refine Sc (le_up u_i4 (rfl : Ui 0 0)) (fun c1 => ?_) (fun c1 => ?_)
      · exact (ih dp e 3 _ _ _ _ _ _ _ _ _ _ _ _ u_I u_L u_i1 u_i2 u_i3 u_i4)
      · refine Sg (fun g2 => ?_)
        refine Sc (ix_up (ui_sub u_i4 (rfl : Ui (1) (1)) g2)) (fun c3 => ?_) (fun _ => Sn)
        refine Sc Iff.rfl (fun c4 => ?_) (fun _ => Sn)
        refine Sb3 (ks_150 n (dp - 1) e 0 _ _ _ _ _ _ _ _ _ _ u_I u_L u_i3 (ui_rd (a := 78) u_I (ui_sub u_i4 (rfl : Ui (1) (1)) g2) c3.1) u_i1) (fun x0_37 x0_37' I0_37 I0_37' L0_37 L0_37' u_x0_37 u_I0_37 u_L0_37 => ?_)
        refine Sc (eq_up u_x0_37 (rfl : Ui 0 0)) (fun c5 => ?_) (fun c5 => ?_)
        · exact (ih dp e 3 _ _ _ _ _ _ _ _ _ _ _ _ u_I0_37 u_L0_37 u_i1 u_i2 u_i3 u_i4)
        · refine Sc (ix_up (ui_sub u_i4 (rfl : Ui (1) (1)) g2)) (fun c6 => ?_) (fun _ => Sn)
          refine Sc (ix_up u_i4) (fun c7 => ?_) (fun _ => Sn)
          refine SsJ (ri_up u_I0_37 (kc_up u_i4 c7.1) (ui_rd (a := 78) u_I0_37 (ui_sub u_i4 (rfl : Ui (1) (1)) g2) c6.1)) (fun I_58 I_58' u_I_58 => ?_)
          refine Sg (fun g8 => ?_)
          exact (ih dp e 2 _ _ _ _ _ _ _ _ _ _ _ _ u_I_58 u_L0_37 u_i1 u_i2 u_i3 (ui_add u_i4 (rfl : Ui (Int32.ofInt (-1)) (-1)) g8))
    refine Sc Iff.rfl (fun _ => ?_) (fun _ => ?_)
    · refine Sc (ix_up u_i4) (fun c1 => ?_) (fun _ => Sn)
      refine SsJ (ri_up u_I (kc_up u_i4 c1.1) u_i3) (fun I_72 I_72' u_I_72 => ?_)
      refine Sg (fun g2 => ?_)
      exact (ih dp e 1 _ _ _ _ _ _ _ _ _ _ _ _ u_I_72 u_L u_i1 (ui_add u_i2 (rfl : Ui (Int32.ofInt (1)) (1)) g2) (rfl : Ui 0 0) (rfl : Ui 0 0))
    exact Sn
set_option maxHeartbeats 4000000 in
set_option maxRecDepth 100000 in
def kf_152 : Nat → Nat → EN → Nat → JI → JI → Int → Int → Option (JI × JI)
  | 0, _, _, _, _, _, _, _ => none
  | n + 1, dp, e, lab, I, L, i1, i2 =>
    if lab = 0 then (stI (w2 I 73 13 i1) (fun I_2 => (kf_152 n dp e 1 I_2 L i1 0)))
    else if lab = 1 then (if (I 73 10) ≤ i2 then (some (I, L)) else (if 0 ≤ i2 ∧ i2 < 16 then (if 0 ≤ i2 ∧ i2 < 16 then (if 0 ≤ (I 78 i2) ∧ (I 78 i2) < 16 then (stI (w2 I 76 (I 78 i2) (I 79 i2)) (fun I_31 => (if -2147483648 ≤ i2 + 1 ∧ i2 + 1 ≤ 2147483647 then (kf_152 n dp e 1 I_31 L i1 (i2 + 1)) else none))) else none) else none) else none))
    else none
set_option maxRecDepth 100000 in
theorem ke_152_0 (n : Nat) (dp : Nat) (e : EN) (I : JI) (L : JI) (i1 : Int) (i2 : Int) : kf_152 (n + 1) dp e 0 I L i1 i2 = (stI (w2 I 73 13 i1) (fun I_2 => (kf_152 n dp e 1 I_2 L i1 0))) := by rw [kf_152.eq_2, if_pos (show (0 : Nat) = 0 from rfl)]
set_option maxRecDepth 100000 in
theorem ke_152_1 (n : Nat) (dp : Nat) (e : EN) (I : JI) (L : JI) (i1 : Int) (i2 : Int) : kf_152 (n + 1) dp e 1 I L i1 i2 = (if (I 73 10) ≤ i2 then (some (I, L)) else (if 0 ≤ i2 ∧ i2 < 16 then (if 0 ≤ i2 ∧ i2 < 16 then (if 0 ≤ (I 78 i2) ∧ (I 78 i2) < 16 then (stI (w2 I 76 (I 78 i2) (I 79 i2)) (fun I_31 => (if -2147483648 ≤ i2 + 1 ∧ i2 + 1 ≤ 2147483647 then (kf_152 n dp e 1 I_31 L i1 (i2 + 1)) else none))) else none) else none) else none)) := by rw [kf_152.eq_2, if_neg (show ¬ ((1 : Nat) = 0) by decide), if_pos (show (1 : Nat) = 1 from rfl)]
set_option maxHeartbeats 8000000 in
set_option maxRecDepth 100000 in
theorem ks_152 : ∀ (n : Nat) (dp : Nat) (e : EN) (lab : Nat) (I : Nat → Nat → Int32) (I' : JI) (L : Nat → Nat → Int64) (L' : JI) (i1 : Int32) (i1' : Int) (i2 : Int32) (i2' : Int), Rli I I' → Rll L L' → Ui i1 i1' → Ui i2 i2' → Sim R2 (g_152 n dp e lab I L i1 i2) (kf_152 n dp e lab I' L' i1' i2') := by
  intro n
  induction n with
  | zero => intros; rw [kf_152.eq_1]; exact Sn
  | succ n ih =>
    intro dp e lab I I' L L' i1 i1' i2 i2' u_I u_L u_i1 u_i2
    rw [g_152.eq_2, kf_152.eq_2]
    refine Sc Iff.rfl (fun _ => ?_) (fun _ => ?_)
    · refine SsJ (ri_up u_I (rfl : ((13 : Nat) : Int) = 13) u_i1) (fun I_2 I_2' u_I_2 => ?_)
      exact (ih dp e 1 _ _ _ _ _ _ _ _ u_I_2 u_L u_i1 (rfl : Ui (0) (0)))
    refine Sc Iff.rfl (fun _ => ?_) (fun _ => ?_)
    · refine Sc (le_up (u_I 73 10) u_i2) (fun c1 => ?_) (fun c1 => ?_)
      · exact Sr ⟨u_I, u_L⟩
      · refine Sc (ix_up u_i2) (fun c2 => ?_) (fun _ => Sn)
        refine Sc (ix_up u_i2) (fun c3 => ?_) (fun _ => Sn)
        refine Sc (ix_up (ui_rd (a := 78) u_I u_i2 c3.1)) (fun c4 => ?_) (fun _ => Sn)
        refine SsJ (ri_up u_I (kc_up (ui_rd (a := 78) u_I u_i2 c3.1) c4.1) (ui_rd (a := 79) u_I u_i2 c3.1)) (fun I_31 I_31' u_I_31 => ?_)
        refine Sg (fun g5 => ?_)
        exact (ih dp e 1 _ _ _ _ _ _ _ _ u_I_31 u_L u_i1 (ui_add u_i2 (rfl : Ui (Int32.ofInt (1)) (1)) g5))
    exact Sn
set_option maxHeartbeats 4000000 in
set_option maxRecDepth 100000 in
def kf_153 : Nat → Nat → EN → Nat → JI → JI → Int → Int → Option (Int × JI × JI)
  | 0, _, _, _, _, _, _, _ => none
  | n + 1, dp, e, lab, I, L, i1, i2 =>
    if lab = 0 then (if 0 ≤ i1 ∧ i1 < 4 then (if 0 ≤ i2 ∧ i2 < 16 then (if (bA (bR (I 5 i1) (I 75 i2)) 1) = 1 then (some ((1 : Int), I, L)) else (some ((0 : Int), I, L))) else none) else none)
    else none
set_option maxRecDepth 100000 in
theorem ke_153_0 (n : Nat) (dp : Nat) (e : EN) (I : JI) (L : JI) (i1 : Int) (i2 : Int) : kf_153 (n + 1) dp e 0 I L i1 i2 = (if 0 ≤ i1 ∧ i1 < 4 then (if 0 ≤ i2 ∧ i2 < 16 then (if (bA (bR (I 5 i1) (I 75 i2)) 1) = 1 then (some ((1 : Int), I, L)) else (some ((0 : Int), I, L))) else none) else none) := by rw [kf_153.eq_2, if_pos (show (0 : Nat) = 0 from rfl)]
set_option maxHeartbeats 8000000 in
set_option maxRecDepth 100000 in
theorem ks_153 : ∀ (n : Nat) (dp : Nat) (e : EN) (lab : Nat) (I : Nat → Nat → Int32) (I' : JI) (L : Nat → Nat → Int64) (L' : JI) (i1 : Int32) (i1' : Int) (i2 : Int32) (i2' : Int), Rli I I' → Rll L L' → Ui i1 i1' → Ui i2 i2' → Sim R3 (g_153 n dp e lab I L i1 i2) (kf_153 n dp e lab I' L' i1' i2') := by
  intro n
  induction n with
  | zero => intros; rw [kf_153.eq_1]; exact Sn
  | succ n ih =>
    intro dp e lab I I' L L' i1 i1' i2 i2' u_I u_L u_i1 u_i2
    rw [g_153.eq_2, kf_153.eq_2]
    refine Sc Iff.rfl (fun _ => ?_) (fun _ => ?_)
    · refine Sc (ix_up u_i1) (fun c1 => ?_) (fun _ => Sn)
      refine Sc (ix_up u_i2) (fun c2 => ?_) (fun _ => Sn)
      refine Sc (eq_up (ui_and (ui_shr (ui_rd (a := 5) u_I u_i1 c1.1) (ui_rd (a := 75) u_I u_i2 c2.1)) (rfl : Ui (1) (1))) (rfl : Ui (1) (1))) (fun c3 => ?_) (fun c3 => ?_)
      · exact Sr ⟨(rfl : Ui (1) (1)), u_I, u_L⟩
      · exact Sr ⟨(rfl : Ui (0) (0)), u_I, u_L⟩
    exact Sn
set_option maxHeartbeats 4000000 in
set_option maxRecDepth 100000 in
def kf_154 : Nat → Nat → EN → Nat → JI → JI → Int → Int → Option (Int × JI × JI)
  | 0, _, _, _, _, _, _, _ => none
  | n + 1, dp, e, lab, I, L, i1, i2 =>
    if lab = 0 then (kf_154 n dp e 1 I L i1 0)
    else if lab = 1 then (if i1 ≤ i2 then (some ((0 : Int), I, L)) else (if 0 ≤ i2 ∧ i2 < 4 then (if 0 ≤ i1 ∧ i1 < 4 then (if (I 5 i2) = (I 5 i1) then (if 0 ≤ i2 ∧ i2 < 4 then (if 0 ≤ i1 ∧ i1 < 4 then (if (I 80 i2) = (I 80 i1) then (some ((1 : Int), I, L)) else (kf_154 n dp e 2 I L i1 i2)) else none) else none) else (kf_154 n dp e 2 I L i1 i2)) else none) else none))
    else if lab = 2 then (if -2147483648 ≤ i2 + 1 ∧ i2 + 1 ≤ 2147483647 then (kf_154 n dp e 1 I L i1 (i2 + 1)) else none)
    else none
set_option maxRecDepth 100000 in
theorem ke_154_0 (n : Nat) (dp : Nat) (e : EN) (I : JI) (L : JI) (i1 : Int) (i2 : Int) : kf_154 (n + 1) dp e 0 I L i1 i2 = (kf_154 n dp e 1 I L i1 0) := by rw [kf_154.eq_2, if_pos (show (0 : Nat) = 0 from rfl)]
set_option maxRecDepth 100000 in
theorem ke_154_1 (n : Nat) (dp : Nat) (e : EN) (I : JI) (L : JI) (i1 : Int) (i2 : Int) : kf_154 (n + 1) dp e 1 I L i1 i2 = (if i1 ≤ i2 then (some ((0 : Int), I, L)) else (if 0 ≤ i2 ∧ i2 < 4 then (if 0 ≤ i1 ∧ i1 < 4 then (if (I 5 i2) = (I 5 i1) then (if 0 ≤ i2 ∧ i2 < 4 then (if 0 ≤ i1 ∧ i1 < 4 then (if (I 80 i2) = (I 80 i1) then (some ((1 : Int), I, L)) else (kf_154 n dp e 2 I L i1 i2)) else none) else none) else (kf_154 n dp e 2 I L i1 i2)) else none) else none)) := by rw [kf_154.eq_2, if_neg (show ¬ ((1 : Nat) = 0) by decide), if_pos (show (1 : Nat) = 1 from rfl)]
set_option maxRecDepth 100000 in
theorem ke_154_2 (n : Nat) (dp : Nat) (e : EN) (I : JI) (L : JI) (i1 : Int) (i2 : Int) : kf_154 (n + 1) dp e 2 I L i1 i2 = (if -2147483648 ≤ i2 + 1 ∧ i2 + 1 ≤ 2147483647 then (kf_154 n dp e 1 I L i1 (i2 + 1)) else none) := by rw [kf_154.eq_2, if_neg (show ¬ ((2 : Nat) = 0) by decide), if_neg (show ¬ ((2 : Nat) = 1) by decide), if_pos (show (2 : Nat) = 2 from rfl)]
set_option maxHeartbeats 8000000 in
set_option maxRecDepth 100000 in
theorem ks_154 : ∀ (n : Nat) (dp : Nat) (e : EN) (lab : Nat) (I : Nat → Nat → Int32) (I' : JI) (L : Nat → Nat → Int64) (L' : JI) (i1 : Int32) (i1' : Int) (i2 : Int32) (i2' : Int), Rli I I' → Rll L L' → Ui i1 i1' → Ui i2 i2' → Sim R3 (g_154 n dp e lab I L i1 i2) (kf_154 n dp e lab I' L' i1' i2') := by
  intro n
  induction n with
  | zero => intros; rw [kf_154.eq_1]; exact Sn
  | succ n ih =>
    intro dp e lab I I' L L' i1 i1' i2 i2' u_I u_L u_i1 u_i2
    rw [g_154.eq_2, kf_154.eq_2]
    refine Sc Iff.rfl (fun _ => ?_) (fun _ => ?_)
    · exact (ih dp e 1 _ _ _ _ _ _ _ _ u_I u_L u_i1 (rfl : Ui (0) (0)))
    refine Sc Iff.rfl (fun _ => ?_) (fun _ => ?_)
    · refine Sc (le_up u_i1 u_i2) (fun c1 => ?_) (fun c1 => ?_)
      · exact Sr ⟨(rfl : Ui (0) (0)), u_I, u_L⟩
      · refine Sc (ix_up u_i2) (fun c2 => ?_) (fun _ => Sn)
        refine Sc (ix_up u_i1) (fun c3 => ?_) (fun _ => Sn)
        refine Sc (eq_up (ui_rd (a := 5) u_I u_i2 c2.1) (ui_rd (a := 5) u_I u_i1 c3.1)) (fun c4 => ?_) (fun c4 => ?_)
        · refine Sc (ix_up u_i2) (fun c5 => ?_) (fun _ => Sn)
          refine Sc (ix_up u_i1) (fun c6 => ?_) (fun _ => Sn)
          refine Sc (eq_up (ui_rd (a := 80) u_I u_i2 c5.1) (ui_rd (a := 80) u_I u_i1 c6.1)) (fun c7 => ?_) (fun c7 => ?_)
          · exact Sr ⟨(rfl : Ui (1) (1)), u_I, u_L⟩
          · exact (ih dp e 2 _ _ _ _ _ _ _ _ u_I u_L u_i1 u_i2)
        · exact (ih dp e 2 _ _ _ _ _ _ _ _ u_I u_L u_i1 u_i2)
    refine Sc Iff.rfl (fun _ => ?_) (fun _ => ?_)
    · refine Sg (fun g1 => ?_)
      exact (ih dp e 1 _ _ _ _ _ _ _ _ u_I u_L u_i1 (ui_add u_i2 (rfl : Ui (Int32.ofInt (1)) (1)) g1))
    exact Sn
set_option maxHeartbeats 4000000 in
set_option maxRecDepth 100000 in
def kf_151 : Nat → Nat → EN → Nat → JI → JI → Int → Int → Int → Int → Option (JI × JI)
  | 0, _, _, _, _, _, _, _, _, _ => none
  | n + 1, dp, e, lab, I, L, i1, i2, i3, i4 =>
    if lab = 0 then (if (I 73 13) ≤ i2 then (some (I, L)) else (if (I 73 14) < (I 73 13) then (if i1 < (I 73 10) then (if 0 ≤ i1 ∧ i1 < 16 then (stI (I 78 i1) (fun v_40 => (kf_151 n dp e 1 I L i1 i2 v_40 0))) else none) else (if 1 ≤ dp then ((kf_152 n (dp - 1) e 0 I L i2 0).bind (fun ⟨I0_30, L0_30⟩ => (some (I0_30, L0_30)))) else none)) else (some (I, L))))
    else if lab = 1 then (if (I 1 8) ≤ i4 then (some (I, L)) else (if 1 ≤ dp then ((kf_153 n (dp - 1) e 0 I L i4 i3).bind (fun ⟨x0_60, I0_60, L0_60⟩ => (if x0_60 = 0 then (kf_151 n dp e 2 I0_60 L0_60 i1 i2 i3 i4) else (if 1 ≤ dp then ((kf_154 n (dp - 1) e 0 I0_60 L0_60 i4 0).bind (fun ⟨x1_69, I1_69, L1_69⟩ => (if x1_69 = 0 then (if 0 ≤ i1 ∧ i1 < 16 then (stI (w2 I1_69 79 i1 i4) (fun I_82 => (if 0 ≤ i4 ∧ i4 < 4 then (if 0 ≤ i3 ∧ i3 < 16 then (if 0 ≤ i4 ∧ i4 < 4 then (if -2147483648 ≤ (I_82 80 i4) + (I_82 74 i3) ∧ (I_82 80 i4) + (I_82 74 i3) ≤ 2147483647 then (stI (w2 I_82 80 i4 ((I_82 80 i4) + (I_82 74 i3))) (fun I_98 => (if 0 ≤ i4 ∧ i4 < 4 then (if 1 ≤ dp then (if 1 ≤ dp then (if -2147483648 ≤ i1 + 1 ∧ i1 + 1 ≤ 2147483647 then ((kf_151 n (dp - 1) e 0 I_98 L1_69 (i1 + 1) (max i2 (I_98 80 i4)) 0 0).bind (fun ⟨I2_114, L2_114⟩ => (if 0 ≤ i4 ∧ i4 < 4 then (if 0 ≤ i3 ∧ i3 < 16 then (if 0 ≤ i4 ∧ i4 < 4 then (if -2147483648 ≤ (I2_114 80 i4) - (I2_114 74 i3) ∧ (I2_114 80 i4) - (I2_114 74 i3) ≤ 2147483647 then (stI (w2 I2_114 80 i4 ((I2_114 80 i4) - (I2_114 74 i3))) (fun I_132 => (kf_151 n dp e 2 I_132 L2_114 i1 i2 i3 i4))) else none) else none) else none) else none))) else none) else none) else none) else none))) else none) else none) else none) else none))) else none) else (kf_151 n dp e 2 I1_69 L1_69 i1 i2 i3 i4)))) else none)))) else none))
    else if lab = 2 then (if -2147483648 ≤ i4 + 1 ∧ i4 + 1 ≤ 2147483647 then (kf_151 n dp e 1 I L i1 i2 i3 (i4 + 1)) else none)
    else none
set_option maxRecDepth 100000 in
theorem ke_151_0 (n : Nat) (dp : Nat) (e : EN) (I : JI) (L : JI) (i1 : Int) (i2 : Int) (i3 : Int) (i4 : Int) : kf_151 (n + 1) dp e 0 I L i1 i2 i3 i4 = (if (I 73 13) ≤ i2 then (some (I, L)) else (if (I 73 14) < (I 73 13) then (if i1 < (I 73 10) then (if 0 ≤ i1 ∧ i1 < 16 then (stI (I 78 i1) (fun v_40 => (kf_151 n dp e 1 I L i1 i2 v_40 0))) else none) else (if 1 ≤ dp then ((kf_152 n (dp - 1) e 0 I L i2 0).bind (fun ⟨I0_30, L0_30⟩ => (some (I0_30, L0_30)))) else none)) else (some (I, L)))) := by rw [kf_151.eq_2, if_pos (show (0 : Nat) = 0 from rfl)]
set_option maxRecDepth 100000 in
theorem ke_151_1 (n : Nat) (dp : Nat) (e : EN) (I : JI) (L : JI) (i1 : Int) (i2 : Int) (i3 : Int) (i4 : Int) : kf_151 (n + 1) dp e 1 I L i1 i2 i3 i4 = (if (I 1 8) ≤ i4 then (some (I, L)) else (if 1 ≤ dp then ((kf_153 n (dp - 1) e 0 I L i4 i3).bind (fun ⟨x0_60, I0_60, L0_60⟩ => (if x0_60 = 0 then (kf_151 n dp e 2 I0_60 L0_60 i1 i2 i3 i4) else (if 1 ≤ dp then ((kf_154 n (dp - 1) e 0 I0_60 L0_60 i4 0).bind (fun ⟨x1_69, I1_69, L1_69⟩ => (if x1_69 = 0 then (if 0 ≤ i1 ∧ i1 < 16 then (stI (w2 I1_69 79 i1 i4) (fun I_82 => (if 0 ≤ i4 ∧ i4 < 4 then (if 0 ≤ i3 ∧ i3 < 16 then (if 0 ≤ i4 ∧ i4 < 4 then (if -2147483648 ≤ (I_82 80 i4) + (I_82 74 i3) ∧ (I_82 80 i4) + (I_82 74 i3) ≤ 2147483647 then (stI (w2 I_82 80 i4 ((I_82 80 i4) + (I_82 74 i3))) (fun I_98 => (if 0 ≤ i4 ∧ i4 < 4 then (if 1 ≤ dp then (if 1 ≤ dp then (if -2147483648 ≤ i1 + 1 ∧ i1 + 1 ≤ 2147483647 then ((kf_151 n (dp - 1) e 0 I_98 L1_69 (i1 + 1) (max i2 (I_98 80 i4)) 0 0).bind (fun ⟨I2_114, L2_114⟩ => (if 0 ≤ i4 ∧ i4 < 4 then (if 0 ≤ i3 ∧ i3 < 16 then (if 0 ≤ i4 ∧ i4 < 4 then (if -2147483648 ≤ (I2_114 80 i4) - (I2_114 74 i3) ∧ (I2_114 80 i4) - (I2_114 74 i3) ≤ 2147483647 then (stI (w2 I2_114 80 i4 ((I2_114 80 i4) - (I2_114 74 i3))) (fun I_132 => (kf_151 n dp e 2 I_132 L2_114 i1 i2 i3 i4))) else none) else none) else none) else none))) else none) else none) else none) else none))) else none) else none) else none) else none))) else none) else (kf_151 n dp e 2 I1_69 L1_69 i1 i2 i3 i4)))) else none)))) else none)) := by rw [kf_151.eq_2, if_neg (show ¬ ((1 : Nat) = 0) by decide), if_pos (show (1 : Nat) = 1 from rfl)]
set_option maxRecDepth 100000 in
theorem ke_151_2 (n : Nat) (dp : Nat) (e : EN) (I : JI) (L : JI) (i1 : Int) (i2 : Int) (i3 : Int) (i4 : Int) : kf_151 (n + 1) dp e 2 I L i1 i2 i3 i4 = (if -2147483648 ≤ i4 + 1 ∧ i4 + 1 ≤ 2147483647 then (kf_151 n dp e 1 I L i1 i2 i3 (i4 + 1)) else none) := by rw [kf_151.eq_2, if_neg (show ¬ ((2 : Nat) = 0) by decide), if_neg (show ¬ ((2 : Nat) = 1) by decide), if_pos (show (2 : Nat) = 2 from rfl)]
set_option maxHeartbeats 8000000 in
set_option maxRecDepth 100000 in
theorem ks_151 : ∀ (n : Nat) (dp : Nat) (e : EN) (lab : Nat) (I : Nat → Nat → Int32) (I' : JI) (L : Nat → Nat → Int64) (L' : JI) (i1 : Int32) (i1' : Int) (i2 : Int32) (i2' : Int) (i3 : Int32) (i3' : Int) (i4 : Int32) (i4' : Int), Rli I I' → Rll L L' → Ui i1 i1' → Ui i2 i2' → Ui i3 i3' → Ui i4 i4' → Sim R2 (g_151 n dp e lab I L i1 i2 i3 i4) (kf_151 n dp e lab I' L' i1' i2' i3' i4') := by
  intro n
  induction n with
  | zero => intros; rw [kf_151.eq_1]; exact Sn
  | succ n ih =>
    intro dp e lab I I' L L' i1 i1' i2 i2' i3 i3' i4 i4' u_I u_L u_i1 u_i2 u_i3 u_i4
    rw [g_151.eq_2, kf_151.eq_2]
    refine Sc Iff.rfl (fun _ => ?_) (fun _ => ?_)
    · refine Sc (le_up (u_I 73 13) u_i2) (fun c1 => ?_) (fun c1 => ?_)
      · exact Sr ⟨u_I, u_L⟩
      · refine Sc (lt_up (u_I 73 14) (u_I 73 13)) (fun c2 => ?_) (fun c2 => ?_)
        · refine Sc (lt_up u_i1 (u_I 73 10)) (fun c3 => ?_) (fun c3 => ?_)
          · refine Sc (ix_up u_i1) (fun c4 => ?_) (fun _ => Sn)
            refine SsI (ui_rd (a := 78) u_I u_i1 c4.1) (fun v_40 v_40' u_v_40 => ?_)
            exact (ih dp e 1 _ _ _ _ _ _ _ _ _ _ _ _ u_I u_L u_i1 u_i2 u_v_40 (rfl : Ui (0) (0)))
          · refine Sc Iff.rfl (fun c5 => ?_) (fun _ => Sn)
            refine Sb2 (ks_152 n (dp - 1) e 0 _ _ _ _ _ _ _ _ u_I u_L u_i2 (rfl : Ui 0 0)) (fun I0_30 I0_30' L0_30 L0_30' u_I0_30 u_L0_30 => ?_)
            exact Sr ⟨u_I0_30, u_L0_30⟩
        · exact Sr ⟨u_I, u_L⟩
    refine Sc Iff.rfl (fun _ => ?_) (fun _ => ?_)
    · refine Sc (le_up (u_I 1 8) u_i4) (fun c1 => ?_) (fun c1 => ?_)
      · exact Sr ⟨u_I, u_L⟩
      · refine Sc Iff.rfl (fun c2 => ?_) (fun _ => Sn)
        refine Sb3 (ks_153 n (dp - 1) e 0 _ _ _ _ _ _ _ _ u_I u_L u_i4 u_i3) (fun x0_60 x0_60' I0_60 I0_60' L0_60 L0_60' u_x0_60 u_I0_60 u_L0_60 => ?_)
        refine Sc (eq_up u_x0_60 (rfl : Ui 0 0)) (fun c3 => ?_) (fun c3 => ?_)
        · exact (ih dp e 2 _ _ _ _ _ _ _ _ _ _ _ _ u_I0_60 u_L0_60 u_i1 u_i2 u_i3 u_i4)
        · refine Sc Iff.rfl (fun c4 => ?_) (fun _ => Sn)
          refine Sb3 (ks_154 n (dp - 1) e 0 _ _ _ _ _ _ _ _ u_I0_60 u_L0_60 u_i4 (rfl : Ui 0 0)) (fun x1_69 x1_69' I1_69 I1_69' L1_69 L1_69' u_x1_69 u_I1_69 u_L1_69 => ?_)
          refine Sc (eq_up u_x1_69 (rfl : Ui 0 0)) (fun c5 => ?_) (fun c5 => ?_)
          · refine Sc (ix_up u_i1) (fun c6 => ?_) (fun _ => Sn)
            refine SsJ (ri_up u_I1_69 (kc_up u_i1 c6.1) u_i4) (fun I_82 I_82' u_I_82 => ?_)
            refine Sc (ix_up u_i4) (fun c7 => ?_) (fun _ => Sn)
            refine Sc (ix_up u_i3) (fun c8 => ?_) (fun _ => Sn)
            refine Sc (ix_up u_i4) (fun c9 => ?_) (fun _ => Sn)
            refine Sg (fun g10 => ?_)
            refine SsJ (ri_up u_I_82 (kc_up u_i4 c9.1) (ui_add (ui_rd (a := 80) u_I_82 u_i4 c9.1) (ui_rd (a := 74) u_I_82 u_i3 c8.1) g10)) (fun I_98 I_98' u_I_98 => ?_)
            refine Sc (ix_up u_i4) (fun c11 => ?_) (fun _ => Sn)
            refine Sc Iff.rfl (fun c12 => ?_) (fun _ => Sn)
            refine Sc Iff.rfl (fun c13 => ?_) (fun _ => Sn)
            refine Sg (fun g14 => ?_)
            refine Sb2 (ih (dp - 1) e 0 _ _ _ _ _ _ _ _ _ _ _ _ u_I_98 u_L1_69 (ui_add u_i1 (rfl : Ui (1) (1)) g14) (ui_max u_i2 (ui_rd (a := 80) u_I_98 u_i4 c11.1)) (rfl : Ui 0 0) (rfl : Ui 0 0)) (fun I2_114 I2_114' L2_114 L2_114' u_I2_114 u_L2_114 => ?_)
            refine Sc (ix_up u_i4) (fun c15 => ?_) (fun _ => Sn)
            refine Sc (ix_up u_i3) (fun c16 => ?_) (fun _ => Sn)
            refine Sc (ix_up u_i4) (fun c17 => ?_) (fun _ => Sn)
            refine Sg (fun g18 => ?_)
            refine SsJ (ri_up u_I2_114 (kc_up u_i4 c17.1) (ui_sub (ui_rd (a := 80) u_I2_114 u_i4 c17.1) (ui_rd (a := 74) u_I2_114 u_i3 c16.1) g18)) (fun I_132 I_132' u_I_132 => ?_)
            exact (ih dp e 2 _ _ _ _ _ _ _ _ _ _ _ _ u_I_132 u_L2_114 u_i1 u_i2 u_i3 u_i4)
          · exact (ih dp e 2 _ _ _ _ _ _ _ _ _ _ _ _ u_I1_69 u_L1_69 u_i1 u_i2 u_i3 u_i4)
    refine Sc Iff.rfl (fun _ => ?_) (fun _ => ?_)
    · refine Sg (fun g1 => ?_)
      exact (ih dp e 1 _ _ _ _ _ _ _ _ _ _ _ _ u_I u_L u_i1 u_i2 u_i3 (ui_add u_i4 (rfl : Ui (Int32.ofInt (1)) (1)) g1))
    exact Sn
