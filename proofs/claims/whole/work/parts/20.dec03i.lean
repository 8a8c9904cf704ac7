/-! 115 CutFloor$Layers.finish(II)V -/
def g_115 : Nat → Nat → EN → Nat → (Nat → Nat → Int32) → (Nat → Nat → Int64) → Int32 → Int32 → Int32 → Int32 → Int32 → Int32 → Int32 → Int32 → Int32 →  Option ((Nat → Nat → Int32) × (Nat → Nat → Int64))
  | 0, _, _, _, _, _, _, _, _, _, _, _, _, _, _ => none
  | n + 1, dp, e, lab, I, L, i1, i2, i3, i4, i5, i6, i7, i8, i9 =>
    if lab = 0 then (if 0 ≤ i1 ∧ (Int32.toNatClampNeg i1) < 3 then (stI ((i1 * (64 : Int32)) + (I 32 (Int32.toNatClampNeg i1))) (fun v_16 => (if 0 ≤ i1 ∧ (Int32.toNatClampNeg i1) < 3 then (stI ((I 33 (Int32.toNatClampNeg i1)) + (1 : Int32)) (fun v_29 => (stI (u2 I 44 8 (-1 : Int32)) (fun I_33 => (stI (u2 I_33 44 9 (0 : Int32)) (fun I_38 => (if 0 ≤ (I_38 44 3) ∧ (Int32.toNatClampNeg (I_38 44 3)) < 10 then (stI (I_38 45 (Int32.toNatClampNeg (I_38 44 3))) (fun v_50 => (g_115 n dp e 1 I_38 L i1 i2 (i1 * (64 : Int32)) v_16 v_29 v_50 0 0 0))) else none))))))) else none))) else none)
    else if lab = 1 then (if 0 ≤ ((I 44 3) + (1 : Int32)) ∧ (Int32.toNatClampNeg ((I 44 3) + (1 : Int32))) < 10 then (if (I 45 (Int32.toNatClampNeg ((I 44 3) + (1 : Int32)))) ≤ i6 then (some (I, L)) else ((e.2.2 44 4).bind (fun b_69 => (if (b_69 < e.1 ∧ (e.2.1 b_69).1 = 13 ∧ (e.2.1 b_69).2 < 2 ^ 31) ∧ 0 ≤ i6 ∧ (Int32.toNatClampNeg i6) < (e.2.1 b_69).2 then (stI (I b_69 (Int32.toNatClampNeg i6)) (fun v_75 => ((e.2.2 44 5).bind (fun b_78 => (if (b_78 < e.1 ∧ (e.2.1 b_78).1 = 13 ∧ (e.2.1 b_78).2 < 2 ^ 31) ∧ 0 ≤ i6 ∧ (Int32.toNatClampNeg i6) < (e.2.1 b_78).2 then (if 1 ≤ dp then (g_116 n (dp - 1) e 0 I L v_75).bind (fun ⟨x0_90, I0_90, L0_90⟩ => (if (I0_90 44 8) ≤ (((I b_78 (Int32.toNatClampNeg i6)) + x0_90) + i5) then (g_115 n dp e 2 I0_90 L0_90 i1 i2 i3 i4 i5 i6 v_75 i3 0) else (g_115 n dp e 4 I0_90 L0_90 i1 i2 i3 i4 i5 i6 v_75 0 0))) else none) else none))))) else none)))) else none)
    else if lab = 2 then (if i4 ≤ i8 then (g_115 n dp e 4 I L i1 i2 i3 i4 i5 i6 i7 0 0) else ((e.2.2 44 5).bind (fun b_118 => (if (b_118 < e.1 ∧ (e.2.1 b_118).1 = 13 ∧ (e.2.1 b_118).2 < 2 ^ 31) ∧ 0 ≤ i6 ∧ (Int32.toNatClampNeg i6) < (e.2.1 b_118).2 then (if 0 ≤ i8 ∧ (Int32.toNatClampNeg i8) < 192 then (if i8 = i2 then (if 0 ≤ i8 ∧ (Int32.toNatClampNeg i8) < 192 then (if 1 ≤ dp then (g_111 n (dp - 1) e 0 I L i7 (I 27 (Int32.toNatClampNeg i8))).bind (fun ⟨x0_163, I0_163, L0_163⟩ => (if 1 ≤ dp then (g_116 n (dp - 1) e 0 I0_163 L0_163 x0_163).bind (fun ⟨x1_166, I1_166, L1_166⟩ => (stI ((((I b_118 (Int32.toNatClampNeg i6)) + (I 28 (Int32.toNatClampNeg i8))) + (1 : Int32)) + x1_166) (fun v_170 => (if v_170 ≤ (I1_166 44 8) then (if v_170 = (I1_166 44 8) then ((e.2.2 44 6).bind (fun b_230 => (if (b_230 < e.1 ∧ (e.2.1 b_230).1 = 13 ∧ (e.2.1 b_230).2 < 2 ^ 31) ∧ 0 ≤ i6 ∧ (Int32.toNatClampNeg i6) < (e.2.1 b_230).2 then (if 0 ≤ i8 ∧ (Int32.toNatClampNeg i8) < 192 then (if 1 ≤ dp then (g_113 n (dp - 1) e 0 I1_166 L1_166 (I1_166 44 9) (I1_166 b_230 (Int32.toNatClampNeg i6)) (I1_166 29 (Int32.toNatClampNeg i8))).bind (fun ⟨x2_246, I2_246, L2_246⟩ => (stI (u2 I2_246 44 9 x2_246) (fun I_249 => (g_115 n dp e 3 I_249 L2_246 i1 i2 i3 i4 i5 i6 i7 i8 v_170)))) else none) else none) else none))) else (g_115 n dp e 3 I1_166 L1_166 i1 i2 i3 i4 i5 i6 i7 i8 v_170)) else (stI (u2 I1_166 44 8 v_170) (fun I_184 => ((e.2.2 44 6).bind (fun b_190 => (if (b_190 < e.1 ∧ (e.2.1 b_190).1 = 13 ∧ (e.2.1 b_190).2 < 2 ^ 31) ∧ 0 ≤ i6 ∧ (Int32.toNatClampNeg i6) < (e.2.1 b_190).2 then (if 0 ≤ i8 ∧ (Int32.toNatClampNeg i8) < 192 then (if 1 ≤ dp then (g_113 n (dp - 1) e 0 I_184 L1_166 (0 : Int32) (I_184 b_190 (Int32.toNatClampNeg i6)) (I_184 29 (Int32.toNatClampNeg i8))).bind (fun ⟨x2_206, I2_206, L2_206⟩ => (stI (u2 I2_206 44 9 x2_206) (fun I_209 => (g_115 n dp e 3 I_209 L2_206 i1 i2 i3 i4 i5 i6 i7 i8 v_170)))) else none) else none) else none))))))))) else none)) else none) else none) else (if 0 ≤ i8 ∧ (Int32.toNatClampNeg i8) < 192 then (if 1 ≤ dp then (g_111 n (dp - 1) e 0 I L i7 (I 27 (Int32.toNatClampNeg i8))).bind (fun ⟨x0_163, I0_163, L0_163⟩ => (if 1 ≤ dp then (g_116 n (dp - 1) e 0 I0_163 L0_163 x0_163).bind (fun ⟨x1_166, I1_166, L1_166⟩ => (stI ((((I b_118 (Int32.toNatClampNeg i6)) + (I 28 (Int32.toNatClampNeg i8))) + (0 : Int32)) + x1_166) (fun v_170 => (if v_170 ≤ (I1_166 44 8) then (if v_170 = (I1_166 44 8) then ((e.2.2 44 6).bind (fun b_230 => (if (b_230 < e.1 ∧ (e.2.1 b_230).1 = 13 ∧ (e.2.1 b_230).2 < 2 ^ 31) ∧ 0 ≤ i6 ∧ (Int32.toNatClampNeg i6) < (e.2.1 b_230).2 then (if 0 ≤ i8 ∧ (Int32.toNatClampNeg i8) < 192 then (if 1 ≤ dp then (g_113 n (dp - 1) e 0 I1_166 L1_166 (I1_166 44 9) (I1_166 b_230 (Int32.toNatClampNeg i6)) (I1_166 29 (Int32.toNatClampNeg i8))).bind (fun ⟨x2_246, I2_246, L2_246⟩ => (stI (u2 I2_246 44 9 x2_246) (fun I_249 => (g_115 n dp e 3 I_249 L2_246 i1 i2 i3 i4 i5 i6 i7 i8 v_170)))) else none) else none) else none))) else (g_115 n dp e 3 I1_166 L1_166 i1 i2 i3 i4 i5 i6 i7 i8 v_170)) else (stI (u2 I1_166 44 8 v_170) (fun I_184 => ((e.2.2 44 6).bind (fun b_190 => (if (b_190 < e.1 ∧ (e.2.1 b_190).1 = 13 ∧ (e.2.1 b_190).2 < 2 ^ 31) ∧ 0 ≤ i6 ∧ (Int32.toNatClampNeg i6) < (e.2.1 b_190).2 then (if 0 ≤ i8 ∧ (Int32.toNatClampNeg i8) < 192 then (if 1 ≤ dp then (g_113 n (dp - 1) e 0 I_184 L1_166 (0 : Int32) (I_184 b_190 (Int32.toNatClampNeg i6)) (I_184 29 (Int32.toNatClampNeg i8))).bind (fun ⟨x2_206, I2_206, L2_206⟩ => (stI (u2 I2_206 44 9 x2_206) (fun I_209 => (g_115 n dp e 3 I_209 L2_206 i1 i2 i3 i4 i5 i6 i7 i8 v_170)))) else none) else none) else none))))))))) else none)) else none) else none)) else none) else none))))
    else if lab = 3 then (g_115 n dp e 2 I L i1 i2 i3 i4 i5 i6 i7 (i8 + Int32.ofInt (1)) 0)
    else if lab = 4 then (g_115 n dp e 1 I L i1 i2 i3 i4 i5 (i6 + Int32.ofInt (1)) 0 0 0)
    else none
set_option maxRecDepth 100000 in
theorem e_115_0 (n dp : Nat) (e : EN) (I : (Nat → Nat → Int32)) (L : (Nat → Nat → Int64)) (i1 : Int32) (i2 : Int32) (i3 : Int32) (i4 : Int32) (i5 : Int32) (i6 : Int32) (i7 : Int32) (i8 : Int32) (i9 : Int32) : g_115 (n + 1) dp e 0 I L i1 i2 i3 i4 i5 i6 i7 i8 i9 = (if 0 ≤ i1 ∧ (Int32.toNatClampNeg i1) < 3 then (stI ((i1 * (64 : Int32)) + (I 32 (Int32.toNatClampNeg i1))) (fun v_16 => (if 0 ≤ i1 ∧ (Int32.toNatClampNeg i1) < 3 then (stI ((I 33 (Int32.toNatClampNeg i1)) + (1 : Int32)) (fun v_29 => (stI (u2 I 44 8 (-1 : Int32)) (fun I_33 => (stI (u2 I_33 44 9 (0 : Int32)) (fun I_38 => (if 0 ≤ (I_38 44 3) ∧ (Int32.toNatClampNeg (I_38 44 3)) < 10 then (stI (I_38 45 (Int32.toNatClampNeg (I_38 44 3))) (fun v_50 => (g_115 n dp e 1 I_38 L i1 i2 (i1 * (64 : Int32)) v_16 v_29 v_50 0 0 0))) else none))))))) else none))) else none) := by rw [g_115.eq_2, if_pos (show (0 : Nat) = 0 from rfl)]
set_option maxRecDepth 100000 in
theorem e_115_1 (n dp : Nat) (e : EN) (I : (Nat → Nat → Int32)) (L : (Nat → Nat → Int64)) (i1 : Int32) (i2 : Int32) (i3 : Int32) (i4 : Int32) (i5 : Int32) (i6 : Int32) (i7 : Int32) (i8 : Int32) (i9 : Int32) : g_115 (n + 1) dp e 1 I L i1 i2 i3 i4 i5 i6 i7 i8 i9 = (if 0 ≤ ((I 44 3) + (1 : Int32)) ∧ (Int32.toNatClampNeg ((I 44 3) + (1 : Int32))) < 10 then (if (I 45 (Int32.toNatClampNeg ((I 44 3) + (1 : Int32)))) ≤ i6 then (some (I, L)) else ((e.2.2 44 4).bind (fun b_69 => (if (b_69 < e.1 ∧ (e.2.1 b_69).1 = 13 ∧ (e.2.1 b_69).2 < 2 ^ 31) ∧ 0 ≤ i6 ∧ (Int32.toNatClampNeg i6) < (e.2.1 b_69).2 then (stI (I b_69 (Int32.toNatClampNeg i6)) (fun v_75 => ((e.2.2 44 5).bind (fun b_78 => (if (b_78 < e.1 ∧ (e.2.1 b_78).1 = 13 ∧ (e.2.1 b_78).2 < 2 ^ 31) ∧ 0 ≤ i6 ∧ (Int32.toNatClampNeg i6) < (e.2.1 b_78).2 then (if 1 ≤ dp then (g_116 n (dp - 1) e 0 I L v_75).bind (fun ⟨x0_90, I0_90, L0_90⟩ => (if (I0_90 44 8) ≤ (((I b_78 (Int32.toNatClampNeg i6)) + x0_90) + i5) then (g_115 n dp e 2 I0_90 L0_90 i1 i2 i3 i4 i5 i6 v_75 i3 0) else (g_115 n dp e 4 I0_90 L0_90 i1 i2 i3 i4 i5 i6 v_75 0 0))) else none) else none))))) else none)))) else none) := by rw [g_115.eq_2, if_neg (show ¬ ((1 : Nat) = 0) by decide), if_pos (show (1 : Nat) = 1 from rfl)]
set_option maxRecDepth 100000 in
theorem e_115_2 (n dp : Nat) (e : EN) (I : (Nat → Nat → Int32)) (L : (Nat → Nat → Int64)) (i1 : Int32) (i2 : Int32) (i3 : Int32) (i4 : Int32) (i5 : Int32) (i6 : Int32) (i7 : Int32) (i8 : Int32) (i9 : Int32) : g_115 (n + 1) dp e 2 I L i1 i2 i3 i4 i5 i6 i7 i8 i9 = (if i4 ≤ i8 then (g_115 n dp e 4 I L i1 i2 i3 i4 i5 i6 i7 0 0) else ((e.2.2 44 5).bind (fun b_118 => (if (b_118 < e.1 ∧ (e.2.1 b_118).1 = 13 ∧ (e.2.1 b_118).2 < 2 ^ 31) ∧ 0 ≤ i6 ∧ (Int32.toNatClampNeg i6) < (e.2.1 b_118).2 then (if 0 ≤ i8 ∧ (Int32.toNatClampNeg i8) < 192 then (if i8 = i2 then (if 0 ≤ i8 ∧ (Int32.toNatClampNeg i8) < 192 then (if 1 ≤ dp then (g_111 n (dp - 1) e 0 I L i7 (I 27 (Int32.toNatClampNeg i8))).bind (fun ⟨x0_163, I0_163, L0_163⟩ => (if 1 ≤ dp then (g_116 n (dp - 1) e 0 I0_163 L0_163 x0_163).bind (fun ⟨x1_166, I1_166, L1_166⟩ => (stI ((((I b_118 (Int32.toNatClampNeg i6)) + (I 28 (Int32.toNatClampNeg i8))) + (1 : Int32)) + x1_166) (fun v_170 => (if v_170 ≤ (I1_166 44 8) then (if v_170 = (I1_166 44 8) then ((e.2.2 44 6).bind (fun b_230 => (if (b_230 < e.1 ∧ (e.2.1 b_230).1 = 13 ∧ (e.2.1 b_230).2 < 2 ^ 31) ∧ 0 ≤ i6 ∧ (Int32.toNatClampNeg i6) < (e.2.1 b_230).2 then (if 0 ≤ i8 ∧ (Int32.toNatClampNeg i8) < 192 then (if 1 ≤ dp then (g_113 n (dp - 1) e 0 I1_166 L1_166 (I1_166 44 9) (I1_166 b_230 (Int32.toNatClampNeg i6)) (I1_166 29 (Int32.toNatClampNeg i8))).bind (fun ⟨x2_246, I2_246, L2_246⟩ => (stI (u2 I2_246 44 9 x2_246) (fun I_249 => (g_115 n dp e 3 I_249 L2_246 i1 i2 i3 i4 i5 i6 i7 i8 v_170)))) else none) else none) else none))) else (g_115 n dp e 3 I1_166 L1_166 i1 i2 i3 i4 i5 i6 i7 i8 v_170)) else (stI (u2 I1_166 44 8 v_170) (fun I_184 => ((e.2.2 44 6).bind (fun b_190 => (if (b_190 < e.1 ∧ (e.2.1 b_190).1 = 13 ∧ (e.2.1 b_190).2 < 2 ^ 31) ∧ 0 ≤ i6 ∧ (Int32.toNatClampNeg i6) < (e.2.1 b_190).2 then (if 0 ≤ i8 ∧ (Int32.toNatClampNeg i8) < 192 then (if 1 ≤ dp then (g_113 n (dp - 1) e 0 I_184 L1_166 (0 : Int32) (I_184 b_190 (Int32.toNatClampNeg i6)) (I_184 29 (Int32.toNatClampNeg i8))).bind (fun ⟨x2_206, I2_206, L2_206⟩ => (stI (u2 I2_206 44 9 x2_206) (fun I_209 => (g_115 n dp e 3 I_209 L2_206 i1 i2 i3 i4 i5 i6 i7 i8 v_170)))) else none) else none) else none))))))))) else none)) else none) else none) else (if 0 ≤ i8 ∧ (Int32.toNatClampNeg i8) < 192 then (if 1 ≤ dp then (g_111 n (dp - 1) e 0 I L i7 (I 27 (Int32.toNatClampNeg i8))).bind (fun ⟨x0_163, I0_163, L0_163⟩ => (if 1 ≤ dp then (g_116 n (dp - 1) e 0 I0_163 L0_163 x0_163).bind (fun ⟨x1_166, I1_166, L1_166⟩ => (stI ((((I b_118 (Int32.toNatClampNeg i6)) + (I 28 (Int32.toNatClampNeg i8))) + (0 : Int32)) + x1_166) (fun v_170 => (if v_170 ≤ (I1_166 44 8) then (if v_170 = (I1_166 44 8) then ((e.2.2 44 6).bind (fun b_230 => (if (b_230 < e.1 ∧ (e.2.1 b_230).1 = 13 ∧ (e.2.1 b_230).2 < 2 ^ 31) ∧ 0 ≤ i6 ∧ (Int32.toNatClampNeg i6) < (e.2.1 b_230).2 then (if 0 ≤ i8 ∧ (Int32.toNatClampNeg i8) < 192 then (if 1 ≤ dp then (g_113 n (dp - 1) e 0 I1_166 L1_166 (I1_166 44 9) (I1_166 b_230 (Int32.toNatClampNeg i6)) (I1_166 29 (Int32.toNatClampNeg i8))).bind (fun ⟨x2_246, I2_246, L2_246⟩ => (stI (u2 I2_246 44 9 x2_246) (fun I_249 => (g_115 n dp e 3 I_249 L2_246 i1 i2 i3 i4 i5 i6 i7 i8 v_170)))) else none) else none) else none))) else (g_115 n dp e 3 I1_166 L1_166 i1 i2 i3 i4 i5 i6 i7 i8 v_170)) else (stI (u2 I1_166 44 8 v_170) (fun I_184 => ((e.2.2 44 6).bind (fun b_190 => (if (b_190 < e.1 ∧ (e.2.1 b_190).1 = 13 ∧ (e.2.1 b_190).2 < 2 ^ 31) ∧ 0 ≤ i6 ∧ (Int32.toNatClampNeg i6) < (e.2.1 b_190).2 then (if 0 ≤ i8 ∧ (Int32.toNatClampNeg i8) < 192 then (if 1 ≤ dp then (g_113 n (dp - 1) e 0 I_184 L1_166 (0 : Int32) (I_184 b_190 (Int32.toNatClampNeg i6)) (I_184 29 (Int32.toNatClampNeg i8))).bind (fun ⟨x2_206, I2_206, L2_206⟩ => (stI (u2 I2_206 44 9 x2_206) (fun I_209 => (g_115 n dp e 3 I_209 L2_206 i1 i2 i3 i4 i5 i6 i7 i8 v_170)))) else none) else none) else none))))))))) else none)) else none) else none)) else none) else none)))) := by rw [g_115.eq_2, if_neg (show ¬ ((2 : Nat) = 0) by decide), if_neg (show ¬ ((2 : Nat) = 1) by decide), if_pos (show (2 : Nat) = 2 from rfl)]
set_option maxRecDepth 100000 in
theorem e_115_3 (n dp : Nat) (e : EN) (I : (Nat → Nat → Int32)) (L : (Nat → Nat → Int64)) (i1 : Int32) (i2 : Int32) (i3 : Int32) (i4 : Int32) (i5 : Int32) (i6 : Int32) (i7 : Int32) (i8 : Int32) (i9 : Int32) : g_115 (n + 1) dp e 3 I L i1 i2 i3 i4 i5 i6 i7 i8 i9 = (g_115 n dp e 2 I L i1 i2 i3 i4 i5 i6 i7 (i8 + Int32.ofInt (1)) 0) := by rw [g_115.eq_2, if_neg (show ¬ ((3 : Nat) = 0) by decide), if_neg (show ¬ ((3 : Nat) = 1) by decide), if_neg (show ¬ ((3 : Nat) = 2) by decide), if_pos (show (3 : Nat) = 3 from rfl)]
set_option maxRecDepth 100000 in
theorem e_115_4 (n dp : Nat) (e : EN) (I : (Nat → Nat → Int32)) (L : (Nat → Nat → Int64)) (i1 : Int32) (i2 : Int32) (i3 : Int32) (i4 : Int32) (i5 : Int32) (i6 : Int32) (i7 : Int32) (i8 : Int32) (i9 : Int32) : g_115 (n + 1) dp e 4 I L i1 i2 i3 i4 i5 i6 i7 i8 i9 = (g_115 n dp e 1 I L i1 i2 i3 i4 i5 (i6 + Int32.ofInt (1)) 0 0 0) := by rw [g_115.eq_2, if_neg (show ¬ ((4 : Nat) = 0) by decide), if_neg (show ¬ ((4 : Nat) = 1) by decide), if_neg (show ¬ ((4 : Nat) = 2) by decide), if_neg (show ¬ ((4 : Nat) = 3) by decide), if_pos (show (4 : Nat) = 4 from rfl)]
set_option maxHeartbeats 8000000 in
set_option maxRecDepth 100000 in
theorem w_115 (X : GX) {z : Nat} {kd : Nat → Nat × Nat} {Rf : Nat → Nat → Option Nat} (hS : Sh z kd Rf) : ∀ (n dp d : Nat), dp ≤ d → ∀ (I : (Nat → Nat → Int32)) (L : (Nat → Nat → Int64)) (i1 : Int32) (i2 : Int32) (i3 : Int32) (i4 : Int32) (i5 : Int32) (i6 : Int32) (i7 : Int32) (i8 : Int32) (i9 : Int32) (I1 : (Nat → Nat → Int32)) (L1 : (Nat → Nat → Int64)), (g_115 n dp (z, kd, Rf) 0 I L i1 i2 i3 i4 i5 i6 i7 i8 i9 = some (I1, L1) → K X d 115 0 0 (AV (fun τ => τ = (z, kd, I1, L1, Rf))) 0 [some (.ref 44), some (.int i1), some (.int i2), none, none, none, none, none, none, none] [] (z, kd, I, L, Rf) 0 0) ∧
    (g_115 n dp (z, kd, Rf) 1 I L i1 i2 i3 i4 i5 i6 i7 i8 i9 = some (I1, L1) → K X d 115 0 0 (AV (fun τ => τ = (z, kd, I1, L1, Rf))) 52 [some (.ref 44), some (.int i1), some (.int i2), some (.int i3), some (.int i4), some (.int i5), some (.int i6), none, none, none] [] (z, kd, I, L, Rf) 0 0) ∧
    (g_115 n dp (z, kd, Rf) 2 I L i1 i2 i3 i4 i5 i6 i7 i8 i9 = some (I1, L1) → K X d 115 0 0 (AV (fun τ => τ = (z, kd, I1, L1, Rf))) 110 [some (.ref 44), some (.int i1), some (.int i2), some (.int i3), some (.int i4), some (.int i5), some (.int i6), some (.int i7), some (.int i8), none] [] (z, kd, I, L, Rf) 0 0) ∧
    (g_115 n dp (z, kd, Rf) 3 I L i1 i2 i3 i4 i5 i6 i7 i8 i9 = some (I1, L1) → K X d 115 0 0 (AV (fun τ => τ = (z, kd, I1, L1, Rf))) 252 [some (.ref 44), some (.int i1), some (.int i2), some (.int i3), some (.int i4), some (.int i5), some (.int i6), some (.int i7), some (.int i8), some (.int i9)] [] (z, kd, I, L, Rf) 0 0) ∧
    (g_115 n dp (z, kd, Rf) 4 I L i1 i2 i3 i4 i5 i6 i7 i8 i9 = some (I1, L1) → K X d 115 0 0 (AV (fun τ => τ = (z, kd, I1, L1, Rf))) 258 [some (.ref 44), some (.int i1), some (.int i2), some (.int i3), some (.int i4), some (.int i5), some (.int i6), some (.int i7), none, none] [] (z, kd, I, L, Rf) 0 0) := by
  intro n
  induction n with
  | zero => intro dp d hdp I L i1 i2 i3 i4 i5 i6 i7 i8 i9 I1 L1; exact ⟨(fun h => by cases h), (fun h => by cases h), (fun h => by cases h), (fun h => by cases h), (fun h => by cases h)⟩
  | succ n ih =>
    intro dp d hdp I L i1 i2 i3 i4 i5 i6 i7 i8 i9 I1 L1
    refine ⟨?_, ?_, ?_, ?_, ?_⟩
    · intro h
      rw [e_115_0] at h
      refine K_of b_115_0 h_115_0 ?_
      refine q_iload rfl ?_
      refine q_iconst (64) (by decide) ?_
      refine q_imul ?_
      refine q_istore (Nat.le_of_ble_eq_true rfl) rfl ?_
      refine q_iload rfl ?_
      refine q_aload rfl ?_
      refine q_getRs (c0 := 4) (j := 0) rfl rfl (zl hS 44 (by decide)) (sk hS 44 (by decide) rfl) rfl (by decide) (r_44_0 hS) ?_
      refine q_getRs (c0 := 6) (j := 5) rfl rfl (zl hS 26 (by decide)) (sk hS 26 (by decide) rfl) rfl (by decide) (r_26_5 hS) ?_
      refine q_iload rfl ?_
      obtain ⟨⟨u_14, v_14⟩, h⟩ := ite_some h
      refine q_ialN (Int32.toNatClampNeg i1) (nx u_14) (zl hS 32 (by decide)) (sk hS 32 (by decide) rfl) v_14 (by decide) ?_
      refine q_iadd ?_
      obtain ⟨v_16, nv_16, h⟩ := stI_some h
      refine q_eqi nv_16.symm ?_
      refine q_istore (Nat.le_of_ble_eq_true rfl) rfl ?_
      refine q_aload rfl ?_
      refine q_getRs (c0 := 4) (j := 0) rfl rfl (zl hS 44 (by decide)) (sk hS 44 (by decide) rfl) rfl (by decide) (r_44_0 hS) ?_
      refine q_getRs (c0 := 6) (j := 6) rfl rfl (zl hS 26 (by decide)) (sk hS 26 (by decide) rfl) rfl (by decide) (r_26_6 hS) ?_
      refine q_iload rfl ?_
      obtain ⟨⟨u_26, v_26⟩, h⟩ := ite_some h
      refine q_ialN (Int32.toNatClampNeg i1) (nx u_26) (zl hS 33 (by decide)) (sk hS 33 (by decide) rfl) v_26 (by decide) ?_
      refine q_iconst (1) (by decide) ?_
      refine q_iadd ?_
      obtain ⟨v_29, nv_29, h⟩ := stI_some h
      refine q_eqi nv_29.symm ?_
      refine q_istore (Nat.le_of_ble_eq_true rfl) rfl ?_
      refine q_aload rfl ?_
      refine q_iconst (-1) (by decide) ?_
      refine q_putI (c0 := 4) (j := 8) rfl rfl (zl hS 44 (by decide)) (sk hS 44 (by decide) rfl) rfl ?_
      obtain ⟨I_33, nI_33, h⟩ := stI_some h
      refine q_nI nI_33 ?_
      refine q_aload rfl ?_
      refine q_iconst (0) (by decide) ?_
      refine q_putI (c0 := 4) (j := 9) rfl rfl (zl hS 44 (by decide)) (sk hS 44 (by decide) rfl) rfl ?_
      obtain ⟨I_38, nI_38, h⟩ := stI_some h
      refine q_nI nI_38 ?_
      refine q_aload rfl ?_
      refine q_getRs (c0 := 4) (j := 1) rfl rfl (zl hS 44 (by decide)) (sk hS 44 (by decide) rfl) rfl (by decide) (r_44_1 hS) ?_
      refine q_aload rfl ?_
      refine q_getI (c0 := 4) (j := 3) rfl rfl (zl hS 44 (by decide)) (sk hS 44 (by decide) rfl) (Or.inl rfl) (by decide) ?_
      obtain ⟨⟨u_49, v_49⟩, h⟩ := ite_some h
      refine q_ialN (Int32.toNatClampNeg (I_38 44 3)) (nx u_49) (zl hS 45 (by decide)) (sk hS 45 (by decide) rfl) v_49 (by decide) ?_
      obtain ⟨v_50, nv_50, h⟩ := stI_some h
      refine q_eqi nv_50.symm ?_
      refine q_istore (Nat.le_of_ble_eq_true rfl) rfl ?_
      refine q_end ?_
      exact (ih dp d hdp _ _ i1 i2 (i1 * (64 : Int32)) v_16 v_29 v_50 0 0 0 _ _).2.1 h
    · intro h
      rw [e_115_1] at h
      refine K_of b_115_52 h_115_52 ?_
      refine q_iload rfl ?_
      refine q_aload rfl ?_
      refine q_getRs (c0 := 4) (j := 1) rfl rfl (zl hS 44 (by decide)) (sk hS 44 (by decide) rfl) rfl (by decide) (r_44_1 hS) ?_
      refine q_aload rfl ?_
      refine q_getI (c0 := 4) (j := 3) rfl rfl (zl hS 44 (by decide)) (sk hS 44 (by decide) rfl) (Or.inl rfl) (by decide) ?_
      refine q_iconst (1) (by decide) ?_
      refine q_iadd ?_
      obtain ⟨⟨u_64, v_64⟩, h⟩ := ite_some h
      refine q_ialN (Int32.toNatClampNeg ((I 44 3) + (1 : Int32))) (nx u_64) (zl hS 45 (by decide)) (sk hS 45 (by decide) rfl) v_64 (by decide) ?_
      refine q_icmp_ge (fun c_65 => ?_) (fun c_65 => ?_)
      · rw [if_pos c_65] at h
        refine K_of b_115_264 h_115_264 ?_
        cases h
        exact q_vret rfl (Nat.le_refl _) (Nat.le_refl _) rfl
      · rw [if_neg c_65] at h
        refine q_aload rfl ?_
        obtain ⟨b_69, r_69, h⟩ := Option.bind_eq_some_iff.mp h
        refine q_getRs (c0 := 4) (j := 4) rfl rfl (zl hS 44 (by decide)) (sk hS 44 (by decide) rfl) rfl (by decide) r_69 ?_
        refine q_iload rfl ?_
        obtain ⟨⟨⟨z_74, k_74, m_74⟩, u_74, v_74⟩, h⟩ := ite_some h
        refine q_ialN (Int32.toNatClampNeg i6) (nx u_74) z_74 (fst_eq k_74) v_74 m_74 ?_
        obtain ⟨v_75, nv_75, h⟩ := stI_some h
        refine q_eqi nv_75.symm ?_
        refine q_istore (Nat.le_of_ble_eq_true rfl) rfl ?_
        refine q_aload rfl ?_
        obtain ⟨b_78, r_78, h⟩ := Option.bind_eq_some_iff.mp h
        refine q_getRs (c0 := 4) (j := 5) rfl rfl (zl hS 44 (by decide)) (sk hS 44 (by decide) rfl) rfl (by decide) r_78 ?_
        refine q_iload rfl ?_
        obtain ⟨⟨⟨z_83, k_83, m_83⟩, u_83, v_83⟩, h⟩ := ite_some h
        refine q_ialN (Int32.toNatClampNeg i6) (nx u_83) z_83 (fst_eq k_83) v_83 m_83 ?_
        refine q_aload rfl ?_
        refine q_getRs (c0 := 4) (j := 0) rfl rfl (zl hS 44 (by decide)) (sk hS 44 (by decide) rfl) rfl (by decide) (r_44_0 hS) ?_
        refine q_iload rfl ?_
        obtain ⟨d_90, h⟩ := ite_some h
        obtain ⟨⟨x0_90, I0_90, L0_90⟩, e_90, h⟩ := Option.bind_eq_some_iff.mp h
        dsimp only at h
        refine q_fv2I (a_116 X hS (d := d - 1) (by omega) e_90) (by omega) (Nat.le_refl _) (Nat.le_refl _) rfl (Nat.le_of_ble_eq_true rfl) ⟨(zl hS 26 (by decide)), congrArg Prod.fst (sk hS 26 (by decide) rfl), by decide⟩ ?_
        refine q_iadd ?_
        refine q_iload rfl ?_
        refine q_iadd ?_
        refine q_aload rfl ?_
        refine q_getI (c0 := 4) (j := 8) rfl rfl (zl hS 44 (by decide)) (sk hS 44 (by decide) rfl) (Or.inl rfl) (by decide) ?_
        refine q_icmp_ge (fun c_101 => ?_) (fun c_101 => ?_)
        · rw [if_pos c_101] at h
          refine K_of b_115_107 h_115_107 ?_
          refine q_iload rfl ?_
          refine q_istore (Nat.le_of_ble_eq_true rfl) rfl ?_
          refine q_end ?_
          exact (ih dp d hdp _ _ i1 i2 i3 i4 i5 i6 v_75 i3 0 _ _).2.2.1 h
        · rw [if_neg c_101] at h
          refine q_goto ?_
          exact (ih dp d hdp _ _ i1 i2 i3 i4 i5 i6 v_75 0 0 _ _).2.2.2.2 h
    · intro h
      rw [e_115_2] at h
      refine K_of b_115_110 h_115_110 ?_
      refine q_iload rfl ?_
      refine q_iload rfl ?_
      refine q_icmp_ge (fun c_114 => ?_) (fun c_114 => ?_)
      · rw [if_pos c_114] at h
        refine K_mask [true, true, true, true, true, true, true, true, false, false] (Nat.le_of_ble_eq_true rfl) ?_
        exact (ih dp d hdp _ _ i1 i2 i3 i4 i5 i6 i7 0 0 _ _).2.2.2.2 h
      · rw [if_neg c_114] at h
        refine q_aload rfl ?_
        obtain ⟨b_118, r_118, h⟩ := Option.bind_eq_some_iff.mp h
        refine q_getRs (c0 := 4) (j := 5) rfl rfl (zl hS 44 (by decide)) (sk hS 44 (by decide) rfl) rfl (by decide) r_118 ?_
        refine q_iload rfl ?_
        obtain ⟨⟨⟨z_123, k_123, m_123⟩, u_123, v_123⟩, h⟩ := ite_some h
        refine q_ialN (Int32.toNatClampNeg i6) (nx u_123) z_123 (fst_eq k_123) v_123 m_123 ?_
        refine q_aload rfl ?_
        refine q_getRs (c0 := 4) (j := 0) rfl rfl (zl hS 44 (by decide)) (sk hS 44 (by decide) rfl) rfl (by decide) (r_44_0 hS) ?_
        refine q_getRs (c0 := 6) (j := 1) rfl rfl (zl hS 26 (by decide)) (sk hS 26 (by decide) rfl) rfl (by decide) (r_26_1 hS) ?_
        refine q_iload rfl ?_
        obtain ⟨⟨u_133, v_133⟩, h⟩ := ite_some h
        refine q_ialN (Int32.toNatClampNeg i8) (nx u_133) (zl hS 28 (by decide)) (sk hS 28 (by decide) rfl) v_133 (by decide) ?_
        refine q_iadd ?_
        refine q_iload rfl ?_
        refine q_iload rfl ?_
        refine q_icmp_ne (fun c_138 => ?_) (fun c_138 => ?_)
        · rw [if_neg c_138] at h
          refine K_of b_115_145 h_115_145 ?_
          refine q_iconst (0) (by decide) ?_
          refine q_end ?_
          refine K_of b_115_146 h_115_146 ?_
          refine q_iadd ?_
          refine q_aload rfl ?_
          refine q_getRs (c0 := 4) (j := 0) rfl rfl (zl hS 44 (by decide)) (sk hS 44 (by decide) rfl) rfl (by decide) (r_44_0 hS) ?_
          refine q_iload rfl ?_
          refine q_aload rfl ?_
          refine q_getRs (c0 := 4) (j := 0) rfl rfl (zl hS 44 (by decide)) (sk hS 44 (by decide) rfl) rfl (by decide) (r_44_0 hS) ?_
          refine q_getRs (c0 := 6) (j := 0) rfl rfl (zl hS 26 (by decide)) (sk hS 26 (by decide) rfl) rfl (by decide) (r_26_0 hS) ?_
          refine q_iload rfl ?_
          obtain ⟨⟨u_162, v_162⟩, h⟩ := ite_some h
          refine q_ialN (Int32.toNatClampNeg i8) (nx u_162) (zl hS 27 (by decide)) (sk hS 27 (by decide) rfl) v_162 (by decide) ?_
          obtain ⟨d_163, h⟩ := ite_some h
          obtain ⟨⟨x0_163, I0_163, L0_163⟩, e_163, h⟩ := Option.bind_eq_some_iff.mp h
          dsimp only at h
          refine q_fs2I (a_111 X hS (d := d - 1) (by omega) e_163) (by omega) (Nat.le_refl _) (Nat.le_refl _) rfl (Nat.le_of_ble_eq_true rfl) ?_
          obtain ⟨d_166, h⟩ := ite_some h
          obtain ⟨⟨x1_166, I1_166, L1_166⟩, e_166, h⟩ := Option.bind_eq_some_iff.mp h
          dsimp only at h
          refine q_fv2I (a_116 X hS (d := d - 1) (by omega) e_166) (by omega) (Nat.le_refl _) (Nat.le_refl _) rfl (Nat.le_of_ble_eq_true rfl) ⟨(zl hS 26 (by decide)), congrArg Prod.fst (sk hS 26 (by decide) rfl), by decide⟩ ?_
          refine q_iadd ?_
          obtain ⟨v_170, nv_170, h⟩ := stI_some h
          refine q_eqi nv_170.symm ?_
          refine q_istore (Nat.le_of_ble_eq_true rfl) rfl ?_
          refine q_iload rfl ?_
          refine q_aload rfl ?_
          refine q_getI (c0 := 4) (j := 8) rfl rfl (zl hS 44 (by decide)) (sk hS 44 (by decide) rfl) (Or.inl rfl) (by decide) ?_
          refine q_icmp_le (fun c_178 => ?_) (fun c_178 => ?_)
          · rw [if_pos c_178] at h
            refine K_of b_115_215 h_115_215 ?_
            refine q_iload rfl ?_
            refine q_aload rfl ?_
            refine q_getI (c0 := 4) (j := 8) rfl rfl (zl hS 44 (by decide)) (sk hS 44 (by decide) rfl) (Or.inl rfl) (by decide) ?_
            refine q_icmp_ne (fun c_221 => ?_) (fun c_221 => ?_)
            · rw [if_neg c_221] at h
              exact (ih dp d hdp _ _ i1 i2 i3 i4 i5 i6 i7 i8 v_170 _ _).2.2.2.1 h
            · rw [if_pos c_221] at h
              refine q_aload rfl ?_
              refine q_aload rfl ?_
              refine q_getI (c0 := 4) (j := 9) rfl rfl (zl hS 44 (by decide)) (sk hS 44 (by decide) rfl) (Or.inl rfl) (by decide) ?_
              refine q_aload rfl ?_
              obtain ⟨b_230, r_230, h⟩ := Option.bind_eq_some_iff.mp h
              refine q_getRs (c0 := 4) (j := 6) rfl rfl (zl hS 44 (by decide)) (sk hS 44 (by decide) rfl) rfl (by decide) r_230 ?_
              refine q_iload rfl ?_
              obtain ⟨⟨⟨z_235, k_235, m_235⟩, u_235, v_235⟩, h⟩ := ite_some h
              refine q_ialN (Int32.toNatClampNeg i6) (nx u_235) z_235 (fst_eq k_235) v_235 m_235 ?_
              refine q_aload rfl ?_
              refine q_getRs (c0 := 4) (j := 0) rfl rfl (zl hS 44 (by decide)) (sk hS 44 (by decide) rfl) rfl (by decide) (r_44_0 hS) ?_
              refine q_getRs (c0 := 6) (j := 2) rfl rfl (zl hS 26 (by decide)) (sk hS 26 (by decide) rfl) rfl (by decide) (r_26_2 hS) ?_
              refine q_iload rfl ?_
              obtain ⟨⟨u_245, v_245⟩, h⟩ := ite_some h
              refine q_ialN (Int32.toNatClampNeg i8) (nx u_245) (zl hS 29 (by decide)) (sk hS 29 (by decide) rfl) v_245 (by decide) ?_
              obtain ⟨d_246, h⟩ := ite_some h
              obtain ⟨⟨x2_246, I2_246, L2_246⟩, e_246, h⟩ := Option.bind_eq_some_iff.mp h
              dsimp only at h
              refine q_fs3I (a_113 X hS (d := d - 1) (by omega) e_246) (by omega) (Nat.le_refl _) (Nat.le_refl _) rfl (Nat.le_of_ble_eq_true rfl) ?_
              refine q_putI (c0 := 4) (j := 9) rfl rfl (zl hS 44 (by decide)) (sk hS 44 (by decide) rfl) rfl ?_
              obtain ⟨I_249, nI_249, h⟩ := stI_some h
              refine q_nI nI_249 ?_
              refine q_end ?_
              exact (ih dp d hdp _ _ i1 i2 i3 i4 i5 i6 i7 i8 v_170 _ _).2.2.2.1 h
          · rw [if_neg c_178] at h
            refine q_aload rfl ?_
            refine q_iload rfl ?_
            refine q_putI (c0 := 4) (j := 8) rfl rfl (zl hS 44 (by decide)) (sk hS 44 (by decide) rfl) rfl ?_
            obtain ⟨I_184, nI_184, h⟩ := stI_some h
            refine q_nI nI_184 ?_
            refine q_aload rfl ?_
            refine q_iconst (0) (by decide) ?_
            refine q_aload rfl ?_
            obtain ⟨b_190, r_190, h⟩ := Option.bind_eq_some_iff.mp h
            refine q_getRs (c0 := 4) (j := 6) rfl rfl (zl hS 44 (by decide)) (sk hS 44 (by decide) rfl) rfl (by decide) r_190 ?_
            refine q_iload rfl ?_
            obtain ⟨⟨⟨z_195, k_195, m_195⟩, u_195, v_195⟩, h⟩ := ite_some h
            refine q_ialN (Int32.toNatClampNeg i6) (nx u_195) z_195 (fst_eq k_195) v_195 m_195 ?_
            refine q_aload rfl ?_
            refine q_getRs (c0 := 4) (j := 0) rfl rfl (zl hS 44 (by decide)) (sk hS 44 (by decide) rfl) rfl (by decide) (r_44_0 hS) ?_
            refine q_getRs (c0 := 6) (j := 2) rfl rfl (zl hS 26 (by decide)) (sk hS 26 (by decide) rfl) rfl (by decide) (r_26_2 hS) ?_
            refine q_iload rfl ?_
            obtain ⟨⟨u_205, v_205⟩, h⟩ := ite_some h
            refine q_ialN (Int32.toNatClampNeg i8) (nx u_205) (zl hS 29 (by decide)) (sk hS 29 (by decide) rfl) v_205 (by decide) ?_
            obtain ⟨d_206, h⟩ := ite_some h
            obtain ⟨⟨x2_206, I2_206, L2_206⟩, e_206, h⟩ := Option.bind_eq_some_iff.mp h
            dsimp only at h
            refine q_fs3I (a_113 X hS (d := d - 1) (by omega) e_206) (by omega) (Nat.le_refl _) (Nat.le_refl _) rfl (Nat.le_of_ble_eq_true rfl) ?_
            refine q_putI (c0 := 4) (j := 9) rfl rfl (zl hS 44 (by decide)) (sk hS 44 (by decide) rfl) rfl ?_
            obtain ⟨I_209, nI_209, h⟩ := stI_some h
            refine q_nI nI_209 ?_
            refine q_goto ?_
            exact (ih dp d hdp _ _ i1 i2 i3 i4 i5 i6 i7 i8 v_170 _ _).2.2.2.1 h
        · rw [if_pos c_138] at h
          refine q_iconst (1) (by decide) ?_
          refine q_goto ?_
          refine K_of b_115_146 h_115_146 ?_
          refine q_iadd ?_
          refine q_aload rfl ?_
          refine q_getRs (c0 := 4) (j := 0) rfl rfl (zl hS 44 (by decide)) (sk hS 44 (by decide) rfl) rfl (by decide) (r_44_0 hS) ?_
          refine q_iload rfl ?_
          refine q_aload rfl ?_
          refine q_getRs (c0 := 4) (j := 0) rfl rfl (zl hS 44 (by decide)) (sk hS 44 (by decide) rfl) rfl (by decide) (r_44_0 hS) ?_
          refine q_getRs (c0 := 6) (j := 0) rfl rfl (zl hS 26 (by decide)) (sk hS 26 (by decide) rfl) rfl (by decide) (r_26_0 hS) ?_
          refine q_iload rfl ?_
          obtain ⟨⟨u_162, v_162⟩, h⟩ := ite_some h
          refine q_ialN (Int32.toNatClampNeg i8) (nx u_162) (zl hS 27 (by decide)) (sk hS 27 (by decide) rfl) v_162 (by decide) ?_
          obtain ⟨d_163, h⟩ := ite_some h
          obtain ⟨⟨x0_163, I0_163, L0_163⟩, e_163, h⟩ := Option.bind_eq_some_iff.mp h
          dsimp only at h
          refine q_fs2I (a_111 X hS (d := d - 1) (by omega) e_163) (by omega) (Nat.le_refl _) (Nat.le_refl _) rfl (Nat.le_of_ble_eq_true rfl) ?_
          obtain ⟨d_166, h⟩ := ite_some h
          obtain ⟨⟨x1_166, I1_166, L1_166⟩, e_166, h⟩ := Option.bind_eq_some_iff.mp h
          dsimp only at h
          refine q_fv2I (a_116 X hS (d := d - 1) (by omega) e_166) (by omega) (Nat.le_refl _) (Nat.le_refl _) rfl (Nat.le_of_ble_eq_true rfl) ⟨(zl hS 26 (by decide)), congrArg Prod.fst (sk hS 26 (by decide) rfl), by decide⟩ ?_
          refine q_iadd ?_
          obtain ⟨v_170, nv_170, h⟩ := stI_some h
          refine q_eqi nv_170.symm ?_
          refine q_istore (Nat.le_of_ble_eq_true rfl) rfl ?_
          refine q_iload rfl ?_
          refine q_aload rfl ?_
          refine q_getI (c0 := 4) (j := 8) rfl rfl (zl hS 44 (by decide)) (sk hS 44 (by decide) rfl) (Or.inl rfl) (by decide) ?_
          refine q_icmp_le (fun c_178 => ?_) (fun c_178 => ?_)
          · rw [if_pos c_178] at h
            refine K_of b_115_215 h_115_215 ?_
            refine q_iload rfl ?_
            refine q_aload rfl ?_
            refine q_getI (c0 := 4) (j := 8) rfl rfl (zl hS 44 (by decide)) (sk hS 44 (by decide) rfl) (Or.inl rfl) (by decide) ?_
            refine q_icmp_ne (fun c_221 => ?_) (fun c_221 => ?_)
            · rw [if_neg c_221] at h
              exact (ih dp d hdp _ _ i1 i2 i3 i4 i5 i6 i7 i8 v_170 _ _).2.2.2.1 h
            · rw [if_pos c_221] at h
              refine q_aload rfl ?_
              refine q_aload rfl ?_
              refine q_getI (c0 := 4) (j := 9) rfl rfl (zl hS 44 (by decide)) (sk hS 44 (by decide) rfl) (Or.inl rfl) (by decide) ?_
              refine q_aload rfl ?_
              obtain ⟨b_230, r_230, h⟩ := Option.bind_eq_some_iff.mp h
              refine q_getRs (c0 := 4) (j := 6) rfl rfl (zl hS 44 (by decide)) (sk hS 44 (by decide) rfl) rfl (by decide) r_230 ?_
              refine q_iload rfl ?_
              obtain ⟨⟨⟨z_235, k_235, m_235⟩, u_235, v_235⟩, h⟩ := ite_some h
              refine q_ialN (Int32.toNatClampNeg i6) (nx u_235) z_235 (fst_eq k_235) v_235 m_235 ?_
              refine q_aload rfl ?_
              refine q_getRs (c0 := 4) (j := 0) rfl rfl (zl hS 44 (by decide)) (sk hS 44 (by decide) rfl) rfl (by decide) (r_44_0 hS) ?_
              refine q_getRs (c0 := 6) (j := 2) rfl rfl (zl hS 26 (by decide)) (sk hS 26 (by decide) rfl) rfl (by decide) (r_26_2 hS) ?_
              refine q_iload rfl ?_
              obtain ⟨⟨u_245, v_245⟩, h⟩ := ite_some h
              refine q_ialN (Int32.toNatClampNeg i8) (nx u_245) (zl hS 29 (by decide)) (sk hS 29 (by decide) rfl) v_245 (by decide) ?_
              obtain ⟨d_246, h⟩ := ite_some h
              obtain ⟨⟨x2_246, I2_246, L2_246⟩, e_246, h⟩ := Option.bind_eq_some_iff.mp h
              dsimp only at h
              refine q_fs3I (a_113 X hS (d := d - 1) (by omega) e_246) (by omega) (Nat.le_refl _) (Nat.le_refl _) rfl (Nat.le_of_ble_eq_true rfl) ?_
              refine q_putI (c0 := 4) (j := 9) rfl rfl (zl hS 44 (by decide)) (sk hS 44 (by decide) rfl) rfl ?_
              obtain ⟨I_249, nI_249, h⟩ := stI_some h
              refine q_nI nI_249 ?_
              refine q_end ?_
              exact (ih dp d hdp _ _ i1 i2 i3 i4 i5 i6 i7 i8 v_170 _ _).2.2.2.1 h
          · rw [if_neg c_178] at h
            refine q_aload rfl ?_
            refine q_iload rfl ?_
            refine q_putI (c0 := 4) (j := 8) rfl rfl (zl hS 44 (by decide)) (sk hS 44 (by decide) rfl) rfl ?_
            obtain ⟨I_184, nI_184, h⟩ := stI_some h
            refine q_nI nI_184 ?_
            refine q_aload rfl ?_
            refine q_iconst (0) (by decide) ?_
            refine q_aload rfl ?_
            obtain ⟨b_190, r_190, h⟩ := Option.bind_eq_some_iff.mp h
            refine q_getRs (c0 := 4) (j := 6) rfl rfl (zl hS 44 (by decide)) (sk hS 44 (by decide) rfl) rfl (by decide) r_190 ?_
            refine q_iload rfl ?_
            obtain ⟨⟨⟨z_195, k_195, m_195⟩, u_195, v_195⟩, h⟩ := ite_some h
            refine q_ialN (Int32.toNatClampNeg i6) (nx u_195) z_195 (fst_eq k_195) v_195 m_195 ?_
            refine q_aload rfl ?_
            refine q_getRs (c0 := 4) (j := 0) rfl rfl (zl hS 44 (by decide)) (sk hS 44 (by decide) rfl) rfl (by decide) (r_44_0 hS) ?_
            refine q_getRs (c0 := 6) (j := 2) rfl rfl (zl hS 26 (by decide)) (sk hS 26 (by decide) rfl) rfl (by decide) (r_26_2 hS) ?_
            refine q_iload rfl ?_
            obtain ⟨⟨u_205, v_205⟩, h⟩ := ite_some h
            refine q_ialN (Int32.toNatClampNeg i8) (nx u_205) (zl hS 29 (by decide)) (sk hS 29 (by decide) rfl) v_205 (by decide) ?_
            obtain ⟨d_206, h⟩ := ite_some h
            obtain ⟨⟨x2_206, I2_206, L2_206⟩, e_206, h⟩ := Option.bind_eq_some_iff.mp h
            dsimp only at h
            refine q_fs3I (a_113 X hS (d := d - 1) (by omega) e_206) (by omega) (Nat.le_refl _) (Nat.le_refl _) rfl (Nat.le_of_ble_eq_true rfl) ?_
            refine q_putI (c0 := 4) (j := 9) rfl rfl (zl hS 44 (by decide)) (sk hS 44 (by decide) rfl) rfl ?_
            obtain ⟨I_209, nI_209, h⟩ := stI_some h
            refine q_nI nI_209 ?_
            refine q_goto ?_
            exact (ih dp d hdp _ _ i1 i2 i3 i4 i5 i6 i7 i8 v_170 _ _).2.2.2.1 h
    · intro h
      rw [e_115_3] at h
      refine K_of b_115_252 h_115_252 ?_
      refine q_iinc rfl rfl ?_
      refine q_goto ?_
      refine K_mask [true, true, true, true, true, true, true, true, true, false] (Nat.le_of_ble_eq_true rfl) ?_
      exact (ih dp d hdp _ _ i1 i2 i3 i4 i5 i6 i7 (i8 + Int32.ofInt (1)) 0 _ _).2.2.1 h
    · intro h
      rw [e_115_4] at h
      refine K_of b_115_258 h_115_258 ?_
      refine q_iinc rfl rfl ?_
      refine q_goto ?_
      refine K_mask [true, true, true, true, true, true, true, false, false, false] (Nat.le_of_ble_eq_true rfl) ?_
      exact (ih dp d hdp _ _ i1 i2 i3 i4 i5 (i6 + Int32.ofInt (1)) 0 0 0 _ _).2.1 h
theorem a_115 (X : GX) {z : Nat} {kd : Nat → Nat × Nat} {Rf : Nat → Nat → Option Nat} (hS : Sh z kd Rf) {n dp d : Nat} (hd : dp ≤ d) {I : (Nat → Nat → Int32)} {L : (Nat → Nat → Int64)} {i1 : Int32} {i2 : Int32} {I1 : (Nat → Nat → Int32)} {L1 : (Nat → Nat → Int64)} (h : g_115 n dp (z, kd, Rf) 0 I L i1 i2 0 0 0 0 0 0 0 = some (I1, L1)) : Ct X d 115 0 0 [.ref 44, .int i1, .int i2] (z, kd, I, L, Rf) (AV (fun τ => τ = (z, kd, I1, L1, Rf))) :=
  Ct_of mu_115 (Nat.le_of_ble_eq_true rfl) ((w_115 X hS n dp d hd I L i1 i2 0 0 0 0 0 0 0 _ _).1 h)

