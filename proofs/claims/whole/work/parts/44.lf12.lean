/-! lifted functions 12, printed by lift.py -/
set_option maxHeartbeats 4000000 in
set_option maxRecDepth 100000 in
def kf_296 : Nat → Nat → EN → Nat → JI → JI → Int → Int → Int → Int → Int → Int → Int → Int → Int → Option (Int × JI × JI)
  | 0, _, _, _, _, _, _, _, _, _, _, _, _, _, _ => none
  | n + 1, dp, e, lab, I, L, i1, i2, i3, i4, i5, i6, i7, i8, i9 =>
    if lab = 0 then (stI (w2 I 105 0 0) (fun I_2 => (if 1 ≤ dp then ((kf_193 n (dp - 1) e 0 I_2 L i1 1 16).bind (fun ⟨x0_11, I0_11, L0_11⟩ => (if x0_11 = 0 then (if 1 ≤ dp then ((kf_194 n (dp - 1) e 0 I0_11 L0_11 (-1)).bind (fun ⟨x1_56, I1_56, L1_56⟩ => (some ((x1_56 : Int), I1_56, L1_56)))) else none) else (if 1 ≤ dp then ((kf_193 n (dp - 1) e 0 I0_11 L0_11 i2 0 99).bind (fun ⟨x1_23, I1_23, L1_23⟩ => (if x1_23 = 0 then (if 1 ≤ dp then ((kf_194 n (dp - 1) e 0 I1_23 L1_23 (-1)).bind (fun ⟨x2_56, I2_56, L2_56⟩ => (some ((x2_56 : Int), I2_56, L2_56)))) else none) else (if 1 ≤ dp then ((kf_193 n (dp - 1) e 0 I1_23 L1_23 i3 0 99).bind (fun ⟨x2_35, I2_35, L2_35⟩ => (if x2_35 = 0 then (if 1 ≤ dp then ((kf_194 n (dp - 1) e 0 I2_35 L2_35 (-1)).bind (fun ⟨x3_56, I3_56, L3_56⟩ => (some ((x3_56 : Int), I3_56, L3_56)))) else none) else (if 1 ≤ dp then ((kf_193 n (dp - 1) e 0 I2_35 L2_35 i4 0 99).bind (fun ⟨x3_48, I3_48, L3_48⟩ => (if x3_48 = 0 then (if 1 ≤ dp then ((kf_194 n (dp - 1) e 0 I3_48 L3_48 (-1)).bind (fun ⟨x4_56, I4_56, L4_56⟩ => (some ((x4_56 : Int), I4_56, L4_56)))) else none) else (kf_296 n dp e 1 I3_48 L3_48 i1 i2 i3 i4 0 0 0 0 0)))) else none)))) else none)))) else none)))) else none)))
    else if lab = 1 then (if i1 ≤ i6 then (if 1 ≤ dp then ((kf_194 n (dp - 1) e 0 I L i5).bind (fun ⟨x0_215, I0_215, L0_215⟩ => (some ((x0_215 : Int), I0_215, L0_215)))) else none) else (if -2147483648 ≤ (I 107 6) - 1 ∧ (I 107 6) - 1 ≤ 2147483647 then (stI ((I 107 6) - 1) (fun v_84 => (kf_296 n dp e 2 I L i1 i2 i3 i4 i5 i6 (-1) v_84 0))) else none))
    else if lab = 2 then (if i8 < 0 then (if i7 = (-1) then (kf_296 n dp e 6 I L i1 i2 i3 i4 i5 i6 i7 i8 0) else (if (-2147483648 ≤ 7 * i7 ∧ 7 * i7 ≤ 2147483647) ∧ (-2147483648 ≤ 90 + (7 * i7) ∧ 90 + (7 * i7) ≤ 2147483647) ∧ (-2147483648 ≤ (90 + (7 * i7)) + 6 ∧ (90 + (7 * i7)) + 6 ≤ 2147483647) then (if 0 ≤ ((90 + (7 * i7)) + 6) ∧ ((90 + (7 * i7)) + 6) < 1570 then (stI (w2 I 107 ((90 + (7 * i7)) + 6) 0) (fun I_196 => (stI (bO i5 (bL 1 i7)) (fun v_204 => (kf_296 n dp e 6 I_196 L i1 i2 i3 i4 v_204 i6 i7 i8 0))))) else none) else none)) else (if 1 ≤ dp then ((kf_292 n (dp - 1) e 0 I L i8 6).bind (fun ⟨x0_96, I0_96, L0_96⟩ => (if x0_96 = 1 then (if 1 ≤ dp then ((kf_292 n (dp - 1) e 0 I0_96 L0_96 i8 2).bind (fun ⟨x1_108, I1_108, L1_108⟩ => (if 1 ≤ dp then (if -2147483648 ≤ i2 - x1_108 ∧ i2 - x1_108 ≤ 2147483647 then ((kf_193 n (dp - 1) e 0 I1_108 L1_108 (i2 - x1_108) i3 i4).bind (fun ⟨x2_118, I2_118, L2_118⟩ => (if x2_118 = 0 then (kf_296 n dp e 3 I2_118 L2_118 i1 i2 i3 i4 i5 i6 i7 i8 0) else (if (1 : Int) = 0 then (kf_296 n dp e 5 I2_118 L2_118 i1 i2 i3 i4 i5 i6 i7 i8 1) else (if i7 = (-1) then (kf_296 n dp e 4 I2_118 L2_118 i1 i2 i3 i4 i5 i6 i7 i8 1) else (if 1 ≤ dp then ((kf_292 n (dp - 1) e 0 I2_118 L2_118 i8 2).bind (fun ⟨x3_146, I3_146, L3_146⟩ => (if 1 ≤ dp then ((kf_292 n (dp - 1) e 0 I3_146 L3_146 i7 2).bind (fun ⟨x4_153, I4_153, L4_153⟩ => (if x4_153 < x3_146 then (kf_296 n dp e 5 I4_153 L4_153 i1 i2 i3 i4 i5 i6 i7 i8 1) else (kf_296 n dp e 4 I4_153 L4_153 i1 i2 i3 i4 i5 i6 i7 i8 1)))) else none))) else none)))))) else none) else none))) else none) else (kf_296 n dp e 3 I0_96 L0_96 i1 i2 i3 i4 i5 i6 i7 i8 0)))) else none))
    else if lab = 3 then (if (0 : Int) = 0 then (kf_296 n dp e 5 I L i1 i2 i3 i4 i5 i6 i7 i8 0) else (if i7 = (-1) then (kf_296 n dp e 4 I L i1 i2 i3 i4 i5 i6 i7 i8 0) else (if 1 ≤ dp then ((kf_292 n (dp - 1) e 0 I L i8 2).bind (fun ⟨x0_146, I0_146, L0_146⟩ => (if 1 ≤ dp then ((kf_292 n (dp - 1) e 0 I0_146 L0_146 i7 2).bind (fun ⟨x1_153, I1_153, L1_153⟩ => (if x1_153 < x0_146 then (kf_296 n dp e 5 I1_153 L1_153 i1 i2 i3 i4 i5 i6 i7 i8 0) else (kf_296 n dp e 4 I1_153 L1_153 i1 i2 i3 i4 i5 i6 i7 i8 0)))) else none))) else none)))
    else if lab = 4 then (if -2147483648 ≤ i8 + (-1) ∧ i8 + (-1) ≤ 2147483647 then (kf_296 n dp e 2 I L i1 i2 i3 i4 i5 i6 i8 (i8 + (-1)) 0) else none)
    else if lab = 5 then (if -2147483648 ≤ i8 + (-1) ∧ i8 + (-1) ≤ 2147483647 then (kf_296 n dp e 2 I L i1 i2 i3 i4 i5 i6 i7 (i8 + (-1)) 0) else none)
    else if lab = 6 then (if -2147483648 ≤ i6 + 1 ∧ i6 + 1 ≤ 2147483647 then (kf_296 n dp e 1 I L i1 i2 i3 i4 i5 (i6 + 1) 0 0 0) else none)
    else none
set_option maxRecDepth 100000 in
theorem ke_296_0 (n : Nat) (dp : Nat) (e : EN) (I : JI) (L : JI) (i1 : Int) (i2 : Int) (i3 : Int) (i4 : Int) (i5 : Int) (i6 : Int) (i7 : Int) (i8 : Int) (i9 : Int) : kf_296 (n + 1) dp e 0 I L i1 i2 i3 i4 i5 i6 i7 i8 i9 = (stI (w2 I 105 0 0) (fun I_2 => (if 1 ≤ dp then ((kf_193 n (dp - 1) e 0 I_2 L i1 1 16).bind (fun ⟨x0_11, I0_11, L0_11⟩ => (if x0_11 = 0 then (if 1 ≤ dp then ((kf_194 n (dp - 1) e 0 I0_11 L0_11 (-1)).bind (fun ⟨x1_56, I1_56, L1_56⟩ => (some ((x1_56 : Int), I1_56, L1_56)))) else none) else (if 1 ≤ dp then ((kf_193 n (dp - 1) e 0 I0_11 L0_11 i2 0 99).bind (fun ⟨x1_23, I1_23, L1_23⟩ => (if x1_23 = 0 then (if 1 ≤ dp then ((kf_194 n (dp - 1) e 0 I1_23 L1_23 (-1)).bind (fun ⟨x2_56, I2_56, L2_56⟩ => (some ((x2_56 : Int), I2_56, L2_56)))) else none) else (if 1 ≤ dp then ((kf_193 n (dp - 1) e 0 I1_23 L1_23 i3 0 99).bind (fun ⟨x2_35, I2_35, L2_35⟩ => (if x2_35 = 0 then (if 1 ≤ dp then ((kf_194 n (dp - 1) e 0 I2_35 L2_35 (-1)).bind (fun ⟨x3_56, I3_56, L3_56⟩ => (some ((x3_56 : Int), I3_56, L3_56)))) else none) else (if 1 ≤ dp then ((kf_193 n (dp - 1) e 0 I2_35 L2_35 i4 0 99).bind (fun ⟨x3_48, I3_48, L3_48⟩ => (if x3_48 = 0 then (if 1 ≤ dp then ((kf_194 n (dp - 1) e 0 I3_48 L3_48 (-1)).bind (fun ⟨x4_56, I4_56, L4_56⟩ => (some ((x4_56 : Int), I4_56, L4_56)))) else none) else (kf_296 n dp e 1 I3_48 L3_48 i1 i2 i3 i4 0 0 0 0 0)))) else none)))) else none)))) else none)))) else none))) := by rw [kf_296.eq_2, if_pos (show (0 : Nat) = 0 from rfl)]
set_option maxRecDepth 100000 in
theorem ke_296_1 (n : Nat) (dp : Nat) (e : EN) (I : JI) (L : JI) (i1 : Int) (i2 : Int) (i3 : Int) (i4 : Int) (i5 : Int) (i6 : Int) (i7 : Int) (i8 : Int) (i9 : Int) : kf_296 (n + 1) dp e 1 I L i1 i2 i3 i4 i5 i6 i7 i8 i9 = (if i1 ≤ i6 then (if 1 ≤ dp then ((kf_194 n (dp - 1) e 0 I L i5).bind (fun ⟨x0_215, I0_215, L0_215⟩ => (some ((x0_215 : Int), I0_215, L0_215)))) else none) else (if -2147483648 ≤ (I 107 6) - 1 ∧ (I 107 6) - 1 ≤ 2147483647 then (stI ((I 107 6) - 1) (fun v_84 => (kf_296 n dp e 2 I L i1 i2 i3 i4 i5 i6 (-1) v_84 0))) else none)) := by rw [kf_296.eq_2, if_neg (show ¬ ((1 : Nat) = 0) by decide), if_pos (show (1 : Nat) = 1 from rfl)]
set_option maxRecDepth 100000 in
theorem ke_296_2 (n : Nat) (dp : Nat) (e : EN) (I : JI) (L : JI) (i1 : Int) (i2 : Int) (i3 : Int) (i4 : Int) (i5 : Int) (i6 : Int) (i7 : Int) (i8 : Int) (i9 : Int) : kf_296 (n + 1) dp e 2 I L i1 i2 i3 i4 i5 i6 i7 i8 i9 = (if i8 < 0 then (if i7 = (-1) then (kf_296 n dp e 6 I L i1 i2 i3 i4 i5 i6 i7 i8 0) else (if (-2147483648 ≤ 7 * i7 ∧ 7 * i7 ≤ 2147483647) ∧ (-2147483648 ≤ 90 + (7 * i7) ∧ 90 + (7 * i7) ≤ 2147483647) ∧ (-2147483648 ≤ (90 + (7 * i7)) + 6 ∧ (90 + (7 * i7)) + 6 ≤ 2147483647) then (if 0 ≤ ((90 + (7 * i7)) + 6) ∧ ((90 + (7 * i7)) + 6) < 1570 then (stI (w2 I 107 ((90 + (7 * i7)) + 6) 0) (fun I_196 => (stI (bO i5 (bL 1 i7)) (fun v_204 => (kf_296 n dp e 6 I_196 L i1 i2 i3 i4 v_204 i6 i7 i8 0))))) else none) else none)) else (if 1 ≤ dp then ((kf_292 n (dp - 1) e 0 I L i8 6).bind (fun ⟨x0_96, I0_96, L0_96⟩ => (if x0_96 = 1 then (if 1 ≤ dp then ((kf_292 n (dp - 1) e 0 I0_96 L0_96 i8 2).bind (fun ⟨x1_108, I1_108, L1_108⟩ => (if 1 ≤ dp then (if -2147483648 ≤ i2 - x1_108 ∧ i2 - x1_108 ≤ 2147483647 then ((kf_193 n (dp - 1) e 0 I1_108 L1_108 (i2 - x1_108) i3 i4).bind (fun ⟨x2_118, I2_118, L2_118⟩ => (if x2_118 = 0 then (kf_296 n dp e 3 I2_118 L2_118 i1 i2 i3 i4 i5 i6 i7 i8 0) else (if (1 : Int) = 0 then (kf_296 n dp e 5 I2_118 L2_118 i1 i2 i3 i4 i5 i6 i7 i8 1) else (if i7 = (-1) then (kf_296 n dp e 4 I2_118 L2_118 i1 i2 i3 i4 i5 i6 i7 i8 1) else (if 1 ≤ dp then ((kf_292 n (dp - 1) e 0 I2_118 L2_118 i8 2).bind (fun ⟨x3_146, I3_146, L3_146⟩ => (if 1 ≤ dp then ((kf_292 n (dp - 1) e 0 I3_146 L3_146 i7 2).bind (fun ⟨x4_153, I4_153, L4_153⟩ => (if x4_153 < x3_146 then (kf_296 n dp e 5 I4_153 L4_153 i1 i2 i3 i4 i5 i6 i7 i8 1) else (kf_296 n dp e 4 I4_153 L4_153 i1 i2 i3 i4 i5 i6 i7 i8 1)))) else none))) else none)))))) else none) else none))) else none) else (kf_296 n dp e 3 I0_96 L0_96 i1 i2 i3 i4 i5 i6 i7 i8 0)))) else none)) := by rw [kf_296.eq_2, if_neg (show ¬ ((2 : Nat) = 0) by decide), if_neg (show ¬ ((2 : Nat) = 1) by decide), if_pos (show (2 : Nat) = 2 from rfl)]
set_option maxRecDepth 100000 in
theorem ke_296_3 (n : Nat) (dp : Nat) (e : EN) (I : JI) (L : JI) (i1 : Int) (i2 : Int) (i3 : Int) (i4 : Int) (i5 : Int) (i6 : Int) (i7 : Int) (i8 : Int) (i9 : Int) : kf_296 (n + 1) dp e 3 I L i1 i2 i3 i4 i5 i6 i7 i8 i9 = (if (0 : Int) = 0 then (kf_296 n dp e 5 I L i1 i2 i3 i4 i5 i6 i7 i8 0) else (if i7 = (-1) then (kf_296 n dp e 4 I L i1 i2 i3 i4 i5 i6 i7 i8 0) else (if 1 ≤ dp then ((kf_292 n (dp - 1) e 0 I L i8 2).bind (fun ⟨x0_146, I0_146, L0_146⟩ => (if 1 ≤ dp then ((kf_292 n (dp - 1) e 0 I0_146 L0_146 i7 2).bind (fun ⟨x1_153, I1_153, L1_153⟩ => (if x1_153 < x0_146 then (kf_296 n dp e 5 I1_153 L1_153 i1 i2 i3 i4 i5 i6 i7 i8 0) else (kf_296 n dp e 4 I1_153 L1_153 i1 i2 i3 i4 i5 i6 i7 i8 0)))) else none))) else none))) := by rw [kf_296.eq_2, if_neg (show ¬ ((3 : Nat) = 0) by decide), if_neg (show ¬ ((3 : Nat) = 1) by decide), if_neg (show ¬ ((3 : Nat) = 2) by decide), if_pos (show (3 : Nat) = 3 from rfl)]
set_option maxRecDepth 100000 in
theorem ke_296_4 (n : Nat) (dp : Nat) (e : EN) (I : JI) (L : JI) (i1 : Int) (i2 : Int) (i3 : Int) (i4 : Int) (i5 : Int) (i6 : Int) (i7 : Int) (i8 : Int) (i9 : Int) : kf_296 (n + 1) dp e 4 I L i1 i2 i3 i4 i5 i6 i7 i8 i9 = (if -2147483648 ≤ i8 + (-1) ∧ i8 + (-1) ≤ 2147483647 then (kf_296 n dp e 2 I L i1 i2 i3 i4 i5 i6 i8 (i8 + (-1)) 0) else none) := by rw [kf_296.eq_2, if_neg (show ¬ ((4 : Nat) = 0) by decide), if_neg (show ¬ ((4 : Nat) = 1) by decide), if_neg (show ¬ ((4 : Nat) = 2) by decide), if_neg (show ¬ ((4 : Nat) = 3) by decide), if_pos (show (4 : Nat) = 4 from rfl)]
set_option maxRecDepth 100000 in
theorem ke_296_5 (n : Nat) (dp : Nat) (e : EN) (I : JI) (L : JI) (i1 : Int) (i2 : Int) (i3 : Int) (i4 : Int) (i5 : Int) (i6 : Int) (i7 : Int) (i8 : Int) (i9 : Int) : kf_296 (n + 1) dp e 5 I L i1 i2 i3 i4 i5 i6 i7 i8 i9 = (if -2147483648 ≤ i8 + (-1) ∧ i8 + (-1) ≤ 2147483647 then (kf_296 n dp e 2 I L i1 i2 i3 i4 i5 i6 i7 (i8 + (-1)) 0) else none) := by rw [kf_296.eq_2, if_neg (show ¬ ((5 : Nat) = 0) by decide), if_neg (show ¬ ((5 : Nat) = 1) by decide), if_neg (show ¬ ((5 : Nat) = 2) by decide), if_neg (show ¬ ((5 : Nat) = 3) by decide), if_neg (show ¬ ((5 : Nat) = 4) by decide), if_pos (show (5 : Nat) = 5 from rfl)]
set_option maxRecDepth 100000 in
theorem ke_296_6 (n : Nat) (dp : Nat) (e : EN) (I : JI) (L : JI) (i1 : Int) (i2 : Int) (i3 : Int) (i4 : Int) (i5 : Int) (i6 : Int) (i7 : Int) (i8 : Int) (i9 : Int) : kf_296 (n + 1) dp e 6 I L i1 i2 i3 i4 i5 i6 i7 i8 i9 = (if -2147483648 ≤ i6 + 1 ∧ i6 + 1 ≤ 2147483647 then (kf_296 n dp e 1 I L i1 i2 i3 i4 i5 (i6 + 1) 0 0 0) else none) := by rw [kf_296.eq_2, if_neg (show ¬ ((6 : Nat) = 0) by decide), if_neg (show ¬ ((6 : Nat) = 1) by decide), if_neg (show ¬ ((6 : Nat) = 2) by decide), if_neg (show ¬ ((6 : Nat) = 3) by decide), if_neg (show ¬ ((6 : Nat) = 4) by decide), if_neg (show ¬ ((6 : Nat) = 5) by decide), if_pos (show (6 : Nat) = 6 from rfl)]
set_option maxHeartbeats 8000000 in
set_option maxRecDepth 100000 in
theorem ks_296 : ∀ (n : Nat) (dp : Nat) (e : EN) (lab : Nat) (I : Nat → Nat → Int32) (I' : JI) (L : Nat → Nat → Int64) (L' : JI) (i1 : Int32) (i1' : Int) (i2 : Int32) (i2' : Int) (i3 : Int32) (i3' : Int) (i4 : Int32) (i4' : Int) (i5 : Int32) (i5' : Int) (i6 : Int32) (i6' : Int) (i7 : Int32) (i7' : Int) (i8 : Int32) (i8' : Int) (i9 : Int32) (i9' : Int), Rli I I' → Rll L L' → Ui i1 i1' → Ui i2 i2' → Ui i3 i3' → Ui i4 i4' → Ui i5 i5' → Ui i6 i6' → Ui i7 i7' → Ui i8 i8' → Ui i9 i9' → Sim R3 (g_296 n dp e lab I L i1 i2 i3 i4 i5 i6 i7 i8 i9) (kf_296 n dp e lab I' L' i1' i2' i3' i4' i5' i6' i7' i8' i9') := by
  intro n
  induction n with
  | zero => intros; rw [kf_296.eq_1]; exact Sn
  | succ n ih =>
    intro dp e lab I I' L L' i1 i1' i2 i2' i3 i3' i4 i4' i5 i5' i6 i6' i7 i7' i8 i8' i9 i9' u_I u_L u_i1 u_i2 u_i3 u_i4 u_i5 u_i6 u_i7 u_i8 u_i9
    rw [g_296.eq_2, kf_296.eq_2]
    refine Sc Iff.rfl (fun _ => ?_) (fun _ => ?_)
    · refine SsJ (ri_up u_I (rfl : ((0 : Nat) : Int) = 0) (rfl : Ui (0) (0))) (fun I_2 I_2' u_I_2 => ?_)
      refine Sc Iff.rfl (fun c1 => ?_) (fun _ => Sn)
      refine Sb3 (ks_193 n (dp - 1) e 0 _ _ _ _ _ _ _ _ _ _ u_I_2 u_L (ul_i2l u_i1) (rfl : Ul (1) (1)) (rfl : Ul (16) (16))) (fun x0_11 x0_11' I0_11 I0_11' L0_11 L0_11' u_x0_11 u_I0_11 u_L0_11 => ?_)
      refine Sc (eq_up u_x0_11 (rfl : Ui 0 0)) (fun c2 => ?_) (fun c2 => ?_)
      · refine Sc Iff.rfl (fun c3 => ?_) (fun _ => Sn)
        refine Sb3 (ks_194 n (dp - 1) e 0 _ _ _ _ _ _ u_I0_11 u_L0_11 (rfl : Ui (-1) (-1))) (fun x1_56 x1_56' I1_56 I1_56' L1_56 L1_56' u_x1_56 u_I1_56 u_L1_56 => ?_)
        exact Sr ⟨u_x1_56, u_I1_56, u_L1_56⟩
      · refine Sc Iff.rfl (fun c4 => ?_) (fun _ => Sn)
        refine Sb3 (ks_193 n (dp - 1) e 0 _ _ _ _ _ _ _ _ _ _ u_I0_11 u_L0_11 (ul_i2l u_i2) (rfl : Ul (0) (0)) (rfl : Ul (99) (99))) (fun x1_23 x1_23' I1_23 I1_23' L1_23 L1_23' u_x1_23 u_I1_23 u_L1_23 => ?_)
        refine Sc (eq_up u_x1_23 (rfl : Ui 0 0)) (fun c5 => ?_) (fun c5 => ?_)
        · refine Sc Iff.rfl (fun c6 => ?_) (fun _ => Sn)
          refine Sb3 (ks_194 n (dp - 1) e 0 _ _ _ _ _ _ u_I1_23 u_L1_23 (rfl : Ui (-1) (-1))) (fun x2_56 x2_56' I2_56 I2_56' L2_56 L2_56' u_x2_56 u_I2_56 u_L2_56 => ?_)
          exact Sr ⟨u_x2_56, u_I2_56, u_L2_56⟩
        · refine Sc Iff.rfl (fun c7 => ?_) (fun _ => Sn)
          refine Sb3 (ks_193 n (dp - 1) e 0 _ _ _ _ _ _ _ _ _ _ u_I1_23 u_L1_23 (ul_i2l u_i3) (rfl : Ul (0) (0)) (rfl : Ul (99) (99))) (fun x2_35 x2_35' I2_35 I2_35' L2_35 L2_35' u_x2_35 u_I2_35 u_L2_35 => ?_)
          refine Sc (eq_up u_x2_35 (rfl : Ui 0 0)) (fun c8 => ?_) (fun c8 => ?_)
          · refine Sc Iff.rfl (fun c9 => ?_) (fun _ => Sn)
            refine Sb3 (ks_194 n (dp - 1) e 0 _ _ _ _ _ _ u_I2_35 u_L2_35 (rfl : Ui (-1) (-1))) (fun x3_56 x3_56' I3_56 I3_56' L3_56 L3_56' u_x3_56 u_I3_56 u_L3_56 => ?_)
            exact Sr ⟨u_x3_56, u_I3_56, u_L3_56⟩
          · refine Sc Iff.rfl (fun c10 => ?_) (fun _ => Sn)
            refine Sb3 (ks_193 n (dp - 1) e 0 _ _ _ _ _ _ _ _ _ _ u_I2_35 u_L2_35 (ul_i2l u_i4) (rfl : Ul (0) (0)) (rfl : Ul (99) (99))) (fun x3_48 x3_48' I3_48 I3_48' L3_48 L3_48' u_x3_48 u_I3_48 u_L3_48 => ?_)
            refine Sc (eq_up u_x3_48 (rfl : Ui 0 0)) (fun c11 => ?_) (fun c11 => ?_)
            · refine Sc Iff.rfl (fun c12 => ?_) (fun _ => Sn)
              refine Sb3 (ks_194 n (dp - 1) e 0 _ _ _ _ _ _ u_I3_48 u_L3_48 (rfl : Ui (-1) (-1))) (fun x4_56 x4_56' I4_56 I4_56' L4_56 L4_56' u_x4_56 u_I4_56 u_L4_56 => ?_)
              exact Sr ⟨u_x4_56, u_I4_56, u_L4_56⟩
            · exact (ih dp e 1 _ _ _ _ _ _ _ _ _ _ _ _ _ _ _ _ _ _ _ _ _ _ u_I3_48 u_L3_48 u_i1 u_i2 u_i3 u_i4 (rfl : Ui (0) (0)) (rfl : Ui (0) (0)) (rfl : Ui 0 0) (rfl : Ui 0 0) (rfl : Ui 0 0))
    refine Sc Iff.rfl (fun _ => ?_) (fun _ => ?_)
    · refine Sc (le_up u_i1 u_i6) (fun c1 => ?_) (fun c1 => ?_)
      · refine Sc Iff.rfl (fun c2 => ?_) (fun _ => Sn)
        refine Sb3 (ks_194 n (dp - 1) e 0 _ _ _ _ _ _ u_I u_L u_i5) (fun x0_215 x0_215' I0_215 I0_215' L0_215 L0_215' u_x0_215 u_I0_215 u_L0_215 => ?_)
        exact Sr ⟨u_x0_215, u_I0_215, u_L0_215⟩
      · refine Sg (fun g3 => ?_)
        refine SsI (ui_sub (u_I 107 6) (rfl : Ui (1) (1)) g3) (fun v_84 v_84' u_v_84 => ?_)
        exact (ih dp e 2 _ _ _ _ _ _ _ _ _ _ _ _ _ _ _ _ _ _ _ _ _ _ u_I u_L u_i1 u_i2 u_i3 u_i4 u_i5 u_i6 (rfl : Ui (-1) (-1)) u_v_84 (rfl : Ui 0 0))
    refine Sc Iff.rfl (fun _ => ?_) (fun _ => ?_)
    · refine Sc (lt_up u_i8 (rfl : Ui 0 0)) (fun c1 => ?_) (fun c1 => ?_)
      · refine Sc (eq_up u_i7 (rfl : Ui (-1) (-1))) (fun c2 => ?_) (fun c2 => ?_)
        · exact (ih dp e 6 _ _ _ _ _ _ _ _ _ _ _ _ _ _ _ _ _ _ _ _ _ _ u_I u_L u_i1 u_i2 u_i3 u_i4 u_i5 u_i6 u_i7 u_i8 (rfl : Ui 0 0))
        · refine Sg (fun g3 => ?_)
          refine Sc (ix_up (ui_add (ui_add (rfl : Ui (90) (90)) (ui_mul (rfl : Ui (7) (7)) u_i7 g3.1) g3.2.1) (rfl : Ui (6) (6)) g3.2.2)) (fun c4 => ?_) (fun _ => Sn)
          refine SsJ (ri_up u_I (kc_up (ui_add (ui_add (rfl : Ui (90) (90)) (ui_mul (rfl : Ui (7) (7)) u_i7 g3.1) g3.2.1) (rfl : Ui (6) (6)) g3.2.2) c4.1) (rfl : Ui (0) (0))) (fun I_196 I_196' u_I_196 => ?_)
          refine SsI (ui_or u_i5 (ui_shl (rfl : Ui (1) (1)) u_i7)) (fun v_204 v_204' u_v_204 => ?_)
          exact (ih dp e 6 _ _ _ _ _ _ _ _ _ _ _ _ _ _ _ _ _ _ _ _ _ _ u_I_196 u_L u_i1 u_i2 u_i3 u_i4 u_v_204 u_i6 u_i7 u_i8 (rfl : Ui 0 0))
      · refine Sc Iff.rfl (fun c5 => ?_) (fun _ => Sn)
        refine Sb3 (ks_292 n (dp - 1) e 0 _ _ _ _ _ _ _ _ u_I u_L u_i8 (rfl : Ui (6) (6))) (fun x0_96 x0_96' I0_96 I0_96' L0_96 L0_96' u_x0_96 u_I0_96 u_L0_96 => ?_)
        refine Sc (eq_up u_x0_96 (rfl : Ui (1) (1))) (fun c6 => ?_) (fun c6 => ?_)
        · refine Sc Iff.rfl (fun c7 => ?_) (fun _ => Sn)
          refine Sb3 (ks_292 n (dp - 1) e 0 _ _ _ _ _ _ _ _ u_I0_96 u_L0_96 u_i8 (rfl : Ui (2) (2))) (fun x1_108 x1_108' I1_108 I1_108' L1_108 L1_108' u_x1_108 u_I1_108 u_L1_108 => ?_)
          refine Sc Iff.rfl (fun c8 => ?_) (fun _ => Sn)
          refine Sg (fun g9 => ?_)
          refine Sb3 (ks_193 n (dp - 1) e 0 _ _ _ _ _ _ _ _ _ _ u_I1_108 u_L1_108 (ul_i2l (ui_sub u_i2 u_x1_108 g9)) (ul_i2l u_i3) (ul_i2l u_i4)) (fun x2_118 x2_118' I2_118 I2_118' L2_118 L2_118' u_x2_118 u_I2_118 u_L2_118 => ?_)
          refine Sc (eq_up u_x2_118 (rfl : Ui 0 0)) (fun c10 => ?_) (fun c10 => ?_)
          · exact (ih dp e 3 _ _ _ _ _ _ _ _ _ _ _ _ _ _ _ _ _ _ _ _ _ _ u_I2_118 u_L2_118 u_i1 u_i2 u_i3 u_i4 u_i5 u_i6 u_i7 u_i8 (rfl : Ui 0 0))
          · refine Sc (eq_up (rfl : Ui (1) (1)) (rfl : Ui 0 0)) (fun c11 => ?_) (fun c11 => ?_)
            · exact (ih dp e 5 _ _ _ _ _ _ _ _ _ _ _ _ _ _ _ _ _ _ _ _ _ _ u_I2_118 u_L2_118 u_i1 u_i2 u_i3 u_i4 u_i5 u_i6 u_i7 u_i8 (rfl : Ui (1) (1)))
            · refine Sc (eq_up u_i7 (rfl : Ui (-1) (-1))) (fun c12 => ?_) (fun c12 => ?_)
              · exact (ih dp e 4 _ _ _ _ _ _ _ _ _ _ _ _ _ _ _ _ _ _ _ _ _ _ u_I2_118 u_L2_118 u_i1 u_i2 u_i3 u_i4 u_i5 u_i6 u_i7 u_i8 (rfl : Ui (1) (1)))
              · refine Sc Iff.rfl (fun c13 => ?_) (fun _ => Sn)
                refine Sb3 (ks_292 n (dp - 1) e 0 _ _ _ _ _ _ _ _ u_I2_118 u_L2_118 u_i8 (rfl : Ui (2) (2))) (fun x3_146 x3_146' I3_146 I3_146' L3_146 L3_146' u_x3_146 u_I3_146 u_L3_146 => ?_)
                refine Sc Iff.rfl (fun c14 => ?_) (fun _ => Sn)
                refine Sb3 (ks_292 n (dp - 1) e 0 _ _ _ _ _ _ _ _ u_I3_146 u_L3_146 u_i7 (rfl : Ui (2) (2))) (fun x4_153 x4_153' I4_153 I4_153' L4_153 L4_153' u_x4_153 u_I4_153 u_L4_153 => ?_)
                refine Sc (lt_up u_x4_153 u_x3_146) (fun c15 => ?_) (fun c15 => ?_)
                · exact (ih dp e 5 _ _ _ _ _ _ _ _ _ _ _ _ _ _ _ _ _ _ _ _ _ _ u_I4_153 u_L4_153 u_i1 u_i2 u_i3 u_i4 u_i5 u_i6 u_i7 u_i8 (rfl : Ui (1) (1)))
                · exact (ih dp e 4 _ _ _ _ _ _ _ _ _ _ _ _ _ _ _ _ _ _ _ _ _ _ u_I4_153 u_L4_153 u_i1 u_i2 u_i3 u_i4 u_i5 u_i6 u_i7 u_i8 (rfl : Ui (1) (1)))
        · exact (ih dp e 3 _ _ _ _ _ _ _ _ _ _ _ _ _ _ _ _ _ _ _ _ _ _ u_I0_96 u_L0_96 u_i1 u_i2 u_i3 u_i4 u_i5 u_i6 u_i7 u_i8 (rfl : Ui 0 0))
    refine Sc Iff.rfl (fun _ => ?_) (fun _ => ?_)
    · refine Sc (eq_up (rfl : Ui (0) (0)) (rfl : Ui 0 0)) (fun c1 => ?_) (fun c1 => ?_)
      · exact (ih dp e 5 _ _ _ _ _ _ _ _ _ _ _ _ _ _ _ _ _ _ _ _ _ _ u_I u_L u_i1 u_i2 u_i3 u_i4 u_i5 u_i6 u_i7 u_i8 (rfl : Ui (0) (0)))
      · refine Sc (eq_up u_i7 (rfl : Ui (-1) (-1))) (fun c2 => ?_) (fun c2 => ?_)
        · exact (ih dp e 4 _ _ _ _ _ _ _ _ _ _ _ _ _ _ _ _ _ _ _ _ _ _ u_I u_L u_i1 u_i2 u_i3 u_i4 u_i5 u_i6 u_i7 u_i8 (rfl : Ui (0) (0)))
        · refine Sc Iff.rfl (fun c3 => ?_) (fun _ => Sn)
          refine Sb3 (ks_292 n (dp - 1) e 0 _ _ _ _ _ _ _ _ u_I u_L u_i8 (rfl : Ui (2) (2))) (fun x0_146 x0_146' I0_146 I0_146' L0_146 L0_146' u_x0_146 u_I0_146 u_L0_146 => ?_)
          refine Sc Iff.rfl (fun c4 => ?_) (fun _ => Sn)
          refine Sb3 (ks_292 n (dp - 1) e 0 _ _ _ _ _ _ _ _ u_I0_146 u_L0_146 u_i7 (rfl : Ui (2) (2))) (fun x1_153 x1_153' I1_153 I1_153' L1_153 L1_153' u_x1_153 u_I1_153 u_L1_153 => ?_)
          refine Sc (lt_up u_x1_153 u_x0_146) (fun c5 => ?_) (fun c5 => ?_)
          · exact (ih dp e 5 _ _ _ _ _ _ _ _ _ _ _ _ _ _ _ _ _ _ _ _ _ _ u_I1_153 u_L1_153 u_i1 u_i2 u_i3 u_i4 u_i5 u_i6 u_i7 u_i8 (rfl : Ui (0) (0)))
          · exact (ih dp e 4 _ _ _ _ _ _ _ _ _ _ _ _ _ _ _ _ _ _ _ _ _ _ u_I1_153 u_L1_153 u_i1 u_i2 u_i3 u_i4 u_i5 u_i6 u_i7 u_i8 (rfl : Ui (0) (0)))
    refine Sc Iff.rfl (fun _ => ?_) (fun _ => ?_)
    · refine Sg (fun g1 => ?_)
      exact (ih dp e 2 _ _ _ _ _ _ _ _ _ _ _ _ _ _ _ _ _ _ _ _ _ _ u_I u_L u_i1 u_i2 u_i3 u_i4 u_i5 u_i6 u_i8 (ui_add u_i8 (rfl : Ui (Int32.ofInt (-1)) (-1)) g1) (rfl : Ui 0 0))
    refine Sc Iff.rfl (fun _ => ?_) (fun _ => ?_)
    · refine Sg (fun g1 => ?_)
      exact (ih dp e 2 _ _ _ _ _ _ _ _ _ _ _ _ _ _ _ _ _ _ _ _ _ _ u_I u_L u_i1 u_i2 u_i3 u_i4 u_i5 u_i6 u_i7 (ui_add u_i8 (rfl : Ui (Int32.ofInt (-1)) (-1)) g1) (rfl : Ui 0 0))
    refine Sc Iff.rfl (fun _ => ?_) (fun _ => ?_)
    · refine Sg (fun g1 => ?_)
      exact (ih dp e 1 _ _ _ _ _ _ _ _ _ _ _ _ _ _ _ _ _ _ _ _ _ _ u_I u_L u_i1 u_i2 u_i3 u_i4 u_i5 (ui_add u_i6 (rfl : Ui (Int32.ofInt (1)) (1)) g1) (rfl : Ui 0 0) (rfl : Ui 0 0) (rfl : Ui 0 0))
    exact Sn
set_option maxHeartbeats 4000000 in
set_option maxRecDepth 100000 in
def kf_297 : Nat → Nat → EN → Nat → JI → JI → Int → Option (Int × JI × JI)
  | 0, _, _, _, _, _, _ => none
  | n + 1, dp, e, lab, I, L, i1 =>
    if lab = 0 then (stI (w2 I 105 0 0) (fun I_2 => (if 1 ≤ dp then (if -9223372036854775808 ≤ (I_2 107 6) - 1 ∧ (I_2 107 6) - 1 ≤ 9223372036854775807 then ((kf_193 n (dp - 1) e 0 I_2 L i1 0 ((I_2 107 6) - 1)).bind (fun ⟨x0_18, I0_18, L0_18⟩ => (if x0_18 = 0 then (if 1 ≤ dp then ((kf_194 n (dp - 1) e 0 I0_18 L0_18 (-2)).bind (fun ⟨x1_27, I1_27, L1_27⟩ => (some ((x1_27 : Int), I1_27, L1_27)))) else none) else (if 1 ≤ dp then ((kf_292 n (dp - 1) e 0 I0_18 L0_18 i1 6).bind (fun ⟨x1_35, I1_35, L1_35⟩ => (if x1_35 = 1 then (if 1 ≤ dp then ((kf_194 n (dp - 1) e 0 I1_35 L1_35 (-3)).bind (fun ⟨x2_45, I2_45, L2_45⟩ => (some ((x2_45 : Int), I2_45, L2_45)))) else none) else (if (-2147483648 ≤ 7 * i1 ∧ 7 * i1 ≤ 2147483647) ∧ (-2147483648 ≤ 90 + (7 * i1) ∧ 90 + (7 * i1) ≤ 2147483647) ∧ (-2147483648 ≤ (90 + (7 * i1)) + 6 ∧ (90 + (7 * i1)) + 6 ≤ 2147483647) then (if 0 ≤ ((90 + (7 * i1)) + 6) ∧ ((90 + (7 * i1)) + 6) < 1570 then (stI (w2 I1_35 107 ((90 + (7 * i1)) + 6) 1) (fun I_64 => (if 1 ≤ dp then ((kf_194 n (dp - 1) e 0 I_64 L1_35 0).bind (fun ⟨x2_67, I2_67, L2_67⟩ => (some ((x2_67 : Int), I2_67, L2_67)))) else none))) else none) else none)))) else none)))) else none) else none)))
    else none
set_option maxRecDepth 100000 in
theorem ke_297_0 (n : Nat) (dp : Nat) (e : EN) (I : JI) (L : JI) (i1 : Int) : kf_297 (n + 1) dp e 0 I L i1 = (stI (w2 I 105 0 0) (fun I_2 => (if 1 ≤ dp then (if -9223372036854775808 ≤ (I_2 107 6) - 1 ∧ (I_2 107 6) - 1 ≤ 9223372036854775807 then ((kf_193 n (dp - 1) e 0 I_2 L i1 0 ((I_2 107 6) - 1)).bind (fun ⟨x0_18, I0_18, L0_18⟩ => (if x0_18 = 0 then (if 1 ≤ dp then ((kf_194 n (dp - 1) e 0 I0_18 L0_18 (-2)).bind (fun ⟨x1_27, I1_27, L1_27⟩ => (some ((x1_27 : Int), I1_27, L1_27)))) else none) else (if 1 ≤ dp then ((kf_292 n (dp - 1) e 0 I0_18 L0_18 i1 6).bind (fun ⟨x1_35, I1_35, L1_35⟩ => (if x1_35 = 1 then (if 1 ≤ dp then ((kf_194 n (dp - 1) e 0 I1_35 L1_35 (-3)).bind (fun ⟨x2_45, I2_45, L2_45⟩ => (some ((x2_45 : Int), I2_45, L2_45)))) else none) else (if (-2147483648 ≤ 7 * i1 ∧ 7 * i1 ≤ 2147483647) ∧ (-2147483648 ≤ 90 + (7 * i1) ∧ 90 + (7 * i1) ≤ 2147483647) ∧ (-2147483648 ≤ (90 + (7 * i1)) + 6 ∧ (90 + (7 * i1)) + 6 ≤ 2147483647) then (if 0 ≤ ((90 + (7 * i1)) + 6) ∧ ((90 + (7 * i1)) + 6) < 1570 then (stI (w2 I1_35 107 ((90 + (7 * i1)) + 6) 1) (fun I_64 => (if 1 ≤ dp then ((kf_194 n (dp - 1) e 0 I_64 L1_35 0).bind (fun ⟨x2_67, I2_67, L2_67⟩ => (some ((x2_67 : Int), I2_67, L2_67)))) else none))) else none) else none)))) else none)))) else none) else none))) := by rw [kf_297.eq_2, if_pos (show (0 : Nat) = 0 from rfl)]
set_option maxHeartbeats 8000000 in
set_option maxRecDepth 100000 in
theorem ks_297 : ∀ (n : Nat) (dp : Nat) (e : EN) (lab : Nat) (I : Nat → Nat → Int32) (I' : JI) (L : Nat → Nat → Int64) (L' : JI) (i1 : Int32) (i1' : Int), Rli I I' → Rll L L' → Ui i1 i1' → Sim R3 (g_297 n dp e lab I L i1) (kf_297 n dp e lab I' L' i1') := by
  intro n
  induction n with
  | zero => intros; rw [kf_297.eq_1]; exact Sn
  | succ n ih =>
    intro dp e lab I I' L L' i1 i1' u_I u_L u_i1
    rw [g_297.eq_2, kf_297.eq_2]
    refine Sc Iff.rfl (fun _ => ?_) (fun _ => ?_)
    · refine SsJ (ri_up u_I (rfl : ((0 : Nat) : Int) = 0) (rfl : Ui (0) (0))) (fun I_2 I_2' u_I_2 => ?_)
      refine Sc Iff.rfl (fun c1 => ?_) (fun _ => Sn)
      refine Sg (fun g2 => ?_)
      refine Sb3 (ks_193 n (dp - 1) e 0 _ _ _ _ _ _ _ _ _ _ u_I_2 u_L (ul_i2l u_i1) (rfl : Ul (0) (0)) (ul_sub (ul_i2l (u_I_2 107 6)) (rfl : Ul (1) (1)) g2)) (fun x0_18 x0_18' I0_18 I0_18' L0_18 L0_18' u_x0_18 u_I0_18 u_L0_18 => ?_)
      refine Sc (eq_up u_x0_18 (rfl : Ui 0 0)) (fun c3 => ?_) (fun c3 => ?_)
      · refine Sc Iff.rfl (fun c4 => ?_) (fun _ => Sn)
        refine Sb3 (ks_194 n (dp - 1) e 0 _ _ _ _ _ _ u_I0_18 u_L0_18 (rfl : Ui (-2) (-2))) (fun x1_27 x1_27' I1_27 I1_27' L1_27 L1_27' u_x1_27 u_I1_27 u_L1_27 => ?_)
        exact Sr ⟨u_x1_27, u_I1_27, u_L1_27⟩
      · refine Sc Iff.rfl (fun c5 => ?_) (fun _ => Sn)
        refine Sb3 (ks_292 n (dp - 1) e 0 _ _ _ _ _ _ _ _ u_I0_18 u_L0_18 u_i1 (rfl : Ui (6) (6))) (fun x1_35 x1_35' I1_35 I1_35' L1_35 L1_35' u_x1_35 u_I1_35 u_L1_35 => ?_)
        refine Sc (eq_up u_x1_35 (rfl : Ui (1) (1))) (fun c6 => ?_) (fun c6 => ?_)
        · refine Sc Iff.rfl (fun c7 => ?_) (fun _ => Sn)
          refine Sb3 (ks_194 n (dp - 1) e 0 _ _ _ _ _ _ u_I1_35 u_L1_35 (rfl : Ui (-3) (-3))) (fun x2_45 x2_45' I2_45 I2_45' L2_45 L2_45' u_x2_45 u_I2_45 u_L2_45 => ?_)
          exact Sr ⟨u_x2_45, u_I2_45, u_L2_45⟩
        · refine Sg (fun g8 => ?_)
          refine Sc (ix_up (ui_add (ui_add (rfl : Ui (90) (90)) (ui_mul (rfl : Ui (7) (7)) u_i1 g8.1) g8.2.1) (rfl : Ui (6) (6)) g8.2.2)) (fun c9 => ?_) (fun _ => Sn)
          refine SsJ (ri_up u_I1_35 (kc_up (ui_add (ui_add (rfl : Ui (90) (90)) (ui_mul (rfl : Ui (7) (7)) u_i1 g8.1) g8.2.1) (rfl : Ui (6) (6)) g8.2.2) c9.1) (rfl : Ui (1) (1))) (fun I_64 I_64' u_I_64 => ?_)
          refine Sc Iff.rfl (fun c10 => ?_) (fun _ => Sn)
          refine Sb3 (ks_194 n (dp - 1) e 0 _ _ _ _ _ _ u_I_64 u_L1_35 (rfl : Ui (0) (0))) (fun x2_67 x2_67' I2_67 I2_67' L2_67 L2_67' u_x2_67 u_I2_67 u_L2_67 => ?_)
          exact Sr ⟨u_x2_67, u_I2_67, u_L2_67⟩
    exact Sn
set_option maxHeartbeats 4000000 in
set_option maxRecDepth 100000 in
def kf_299 : Nat → Nat → EN → Nat → JI → JI → Int → Int → Int → Option (Int × JI × JI)
  | 0, _, _, _, _, _, _, _, _ => none
  | n + 1, dp, e, lab, I, L, i1, i2, i3 =>
    if lab = 0 then (if 1 ≤ dp then ((kf_292 n (dp - 1) e 0 I L i1 2).bind (fun ⟨x0_3, I0_3, L0_3⟩ => (if 1 ≤ dp then ((kf_292 n (dp - 1) e 0 I0_3 L0_3 i2 2).bind (fun ⟨x1_9, I1_9, L1_9⟩ => (if x0_3 = x1_9 then (if 1 ≤ dp then ((kf_292 n (dp - 1) e 0 I1_9 L1_9 i1 3).bind (fun ⟨x2_18, I2_18, L2_18⟩ => (if 1 ≤ dp then ((kf_292 n (dp - 1) e 0 I2_18 L2_18 i2 3).bind (fun ⟨x3_24, I3_24, L3_24⟩ => (if x2_18 = x3_24 then (if 1 ≤ dp then ((kf_292 n (dp - 1) e 0 I3_24 L3_24 i1 4).bind (fun ⟨x4_33, I4_33, L4_33⟩ => (if 1 ≤ dp then ((kf_292 n (dp - 1) e 0 I4_33 L4_33 i2 4).bind (fun ⟨x5_39, I5_39, L5_39⟩ => (if x4_33 = x5_39 then (if (1 : Int) = 0 then (if 1 ≤ dp then ((kf_292 n (dp - 1) e 0 I5_39 L5_39 i1 5).bind (fun ⟨x6_58, I6_58, L6_58⟩ => (if 1 ≤ dp then ((kf_292 n (dp - 1) e 0 I6_58 L6_58 i2 5).bind (fun ⟨x7_64, I7_64, L7_64⟩ => (if (bA x6_58 x7_64) = 0 then (some ((0 : Int), I7_64, L7_64)) else (kf_299 n dp e 2 I7_64 L7_64 i1 i2 1)))) else none))) else none) else (kf_299 n dp e 2 I5_39 L5_39 i1 i2 1)) else (kf_299 n dp e 1 I5_39 L5_39 i1 i2 0)))) else none))) else none) else (kf_299 n dp e 1 I3_24 L3_24 i1 i2 0)))) else none))) else none) else (kf_299 n dp e 1 I1_9 L1_9 i1 i2 0)))) else none))) else none)
    else if lab = 1 then (if (0 : Int) = 0 then (if 1 ≤ dp then ((kf_292 n (dp - 1) e 0 I L i1 5).bind (fun ⟨x0_58, I0_58, L0_58⟩ => (if 1 ≤ dp then ((kf_292 n (dp - 1) e 0 I0_58 L0_58 i2 5).bind (fun ⟨x1_64, I1_64, L1_64⟩ => (if (bA x0_58 x1_64) = 0 then (some ((0 : Int), I1_64, L1_64)) else (kf_299 n dp e 2 I1_64 L1_64 i1 i2 0)))) else none))) else none) else (kf_299 n dp e 2 I L i1 i2 0))
    else if lab = 2 then (some ((1 : Int), I, L))
    else none
set_option maxRecDepth 100000 in
theorem ke_299_0 (n : Nat) (dp : Nat) (e : EN) (I : JI) (L : JI) (i1 : Int) (i2 : Int) (i3 : Int) : kf_299 (n + 1) dp e 0 I L i1 i2 i3 = (if 1 ≤ dp then ((kf_292 n (dp - 1) e 0 I L i1 2).bind (fun ⟨x0_3, I0_3, L0_3⟩ => (if 1 ≤ dp then ((kf_292 n (dp - 1) e 0 I0_3 L0_3 i2 2).bind (fun ⟨x1_9, I1_9, L1_9⟩ => (if x0_3 = x1_9 then (if 1 ≤ dp then ((kf_292 n (dp - 1) e 0 I1_9 L1_9 i1 3).bind (fun ⟨x2_18, I2_18, L2_18⟩ => (if 1 ≤ dp then ((kf_292 n (dp - 1) e 0 I2_18 L2_18 i2 3).bind (fun ⟨x3_24, I3_24, L3_24⟩ => (if x2_18 = x3_24 then (if 1 ≤ dp then ((kf_292 n (dp - 1) e 0 I3_24 L3_24 i1 4).bind (fun ⟨x4_33, I4_33, L4_33⟩ => (if 1 ≤ dp then ((kf_292 n (dp - 1) e 0 I4_33 L4_33 i2 4).bind (fun ⟨x5_39, I5_39, L5_39⟩ => (if x4_33 = x5_39 then (if (1 : Int) = 0 then (if 1 ≤ dp then ((kf_292 n (dp - 1) e 0 I5_39 L5_39 i1 5).bind (fun ⟨x6_58, I6_58, L6_58⟩ => (if 1 ≤ dp then ((kf_292 n (dp - 1) e 0 I6_58 L6_58 i2 5).bind (fun ⟨x7_64, I7_64, L7_64⟩ => (if (bA x6_58 x7_64) = 0 then (some ((0 : Int), I7_64, L7_64)) else (kf_299 n dp e 2 I7_64 L7_64 i1 i2 1)))) else none))) else none) else (kf_299 n dp e 2 I5_39 L5_39 i1 i2 1)) else (kf_299 n dp e 1 I5_39 L5_39 i1 i2 0)))) else none))) else none) else (kf_299 n dp e 1 I3_24 L3_24 i1 i2 0)))) else none))) else none) else (kf_299 n dp e 1 I1_9 L1_9 i1 i2 0)))) else none))) else none) := by rw [kf_299.eq_2, if_pos (show (0 : Nat) = 0 from rfl)]
set_option maxRecDepth 100000 in
theorem ke_299_1 (n : Nat) (dp : Nat) (e : EN) (I : JI) (L : JI) (i1 : Int) (i2 : Int) (i3 : Int) : kf_299 (n + 1) dp e 1 I L i1 i2 i3 = (if (0 : Int) = 0 then (if 1 ≤ dp then ((kf_292 n (dp - 1) e 0 I L i1 5).bind (fun ⟨x0_58, I0_58, L0_58⟩ => (if 1 ≤ dp then ((kf_292 n (dp - 1) e 0 I0_58 L0_58 i2 5).bind (fun ⟨x1_64, I1_64, L1_64⟩ => (if (bA x0_58 x1_64) = 0 then (some ((0 : Int), I1_64, L1_64)) else (kf_299 n dp e 2 I1_64 L1_64 i1 i2 0)))) else none))) else none) else (kf_299 n dp e 2 I L i1 i2 0)) := by rw [kf_299.eq_2, if_neg (show ¬ ((1 : Nat) = 0) by decide), if_pos (show (1 : Nat) = 1 from rfl)]
set_option maxRecDepth 100000 in
theorem ke_299_2 (n : Nat) (dp : Nat) (e : EN) (I : JI) (L : JI) (i1 : Int) (i2 : Int) (i3 : Int) : kf_299 (n + 1) dp e 2 I L i1 i2 i3 = (some ((1 : Int), I, L)) := by rw [kf_299.eq_2, if_neg (show ¬ ((2 : Nat) = 0) by decide), if_neg (show ¬ ((2 : Nat) = 1) by decide), if_pos (show (2 : Nat) = 2 from rfl)]
set_option maxHeartbeats 8000000 in
set_option maxRecDepth 100000 in
theorem ks_299 : ∀ (n : Nat) (dp : Nat) (e : EN) (lab : Nat) (I : Nat → Nat → Int32) (I' : JI) (L : Nat → Nat → Int64) (L' : JI) (i1 : Int32) (i1' : Int) (i2 : Int32) (i2' : Int) (i3 : Int32) (i3' : Int), Rli I I' → Rll L L' → Ui i1 i1' → Ui i2 i2' → Ui i3 i3' → Sim R3 (g_299 n dp e lab I L i1 i2 i3) (kf_299 n dp e lab I' L' i1' i2' i3') := by
  intro n
  induction n with
  | zero => intros; rw [kf_299.eq_1]; exact Sn
  | succ n ih =>
    intro dp e lab I I' L L' i1 i1' i2 i2' i3 i3' u_I u_L u_i1 u_i2 u_i3
    rw [g_299.eq_2, kf_299.eq_2]
    refine Sc Iff.rfl (fun _ => ?_) (fun _ => ?_)
    · refine Sc Iff.rfl (fun c1 => ?_) (fun _ => Sn)
      refine Sb3 (ks_292 n (dp - 1) e 0 _ _ _ _ _ _ _ _ u_I u_L u_i1 (rfl : Ui (2) (2))) (fun x0_3 x0_3' I0_3 I0_3' L0_3 L0_3' u_x0_3 u_I0_3 u_L0_3 => ?_)
      refine Sc Iff.rfl (fun c2 => ?_) (fun _ => Sn)
      refine Sb3 (ks_292 n (dp - 1) e 0 _ _ _ _ _ _ _ _ u_I0_3 u_L0_3 u_i2 (rfl : Ui (2) (2))) (fun x1_9 x1_9' I1_9 I1_9' L1_9 L1_9' u_x1_9 u_I1_9 u_L1_9 => ?_)
      refine Sc (eq_up u_x0_3 u_x1_9) (fun c3 => ?_) (fun c3 => ?_)
      · refine Sc Iff.rfl (fun c4 => ?_) (fun _ => Sn)
        refine Sb3 (ks_292 n (dp - 1) e 0 _ _ _ _ _ _ _ _ u_I1_9 u_L1_9 u_i1 (rfl : Ui (3) (3))) (fun x2_18 x2_18' I2_18 I2_18' L2_18 L2_18' u_x2_18 u_I2_18 u_L2_18 => ?_)
        refine Sc Iff.rfl (fun c5 => ?_) (fun _ => Sn)
        refine Sb3 (ks_292 n (dp - 1) e 0 _ _ _ _ _ _ _ _ u_I2_18 u_L2_18 u_i2 (rfl : Ui (3) (3))) (fun x3_24 x3_24' I3_24 I3_24' L3_24 L3_24' u_x3_24 u_I3_24 u_L3_24 => ?_)
        refine Sc (eq_up u_x2_18 u_x3_24) (fun c6 => ?_) (fun c6 => ?_)
        · refine Sc Iff.rfl (fun c7 => ?_) (fun _ => Sn)
          refine Sb3 (ks_292 n (dp - 1) e 0 _ _ _ _ _ _ _ _ u_I3_24 u_L3_24 u_i1 (rfl : Ui (4) (4))) (fun x4_33 x4_33' I4_33 I4_33' L4_33 L4_33' u_x4_33 u_I4_33 u_L4_33 => ?_)
          refine Sc Iff.rfl (fun c8 => ?_) (fun _ => Sn)
          refine Sb3 (ks_292 n (dp - 1) e 0 _ _ _ _ _ _ _ _ u_I4_33 u_L4_33 u_i2 (rfl : Ui (4) (4))) (fun x5_39 x5_39' I5_39 I5_39' L5_39 L5_39' u_x5_39 u_I5_39 u_L5_39 => ?_)
          refine Sc (eq_up u_x4_33 u_x5_39) (fun c9 => ?_) (fun c9 => ?_)
          · refine Sc (eq_up (rfl : Ui (1) (1)) (rfl : Ui 0 0)) (fun c10 => ?_) (fun c10 => ?_)
            · refine Sc Iff.rfl (fun c11 => ?_) (fun _ => Sn)
              refine Sb3 (ks_292 n (dp - 1) e 0 _ _ _ _ _ _ _ _ u_I5_39 u_L5_39 u_i1 (rfl : Ui (5) (5))) (fun x6_58 x6_58' I6_58 I6_58' L6_58 L6_58' u_x6_58 u_I6_58 u_L6_58 => ?_)
              refine Sc Iff.rfl (fun c12 => ?_) (fun _ => Sn)
              refine Sb3 (ks_292 n (dp - 1) e 0 _ _ _ _ _ _ _ _ u_I6_58 u_L6_58 u_i2 (rfl : Ui (5) (5))) (fun x7_64 x7_64' I7_64 I7_64' L7_64 L7_64' u_x7_64 u_I7_64 u_L7_64 => ?_)
              refine Sc (eq_up (ui_and u_x6_58 u_x7_64) (rfl : Ui 0 0)) (fun c13 => ?_) (fun c13 => ?_)
              · exact Sr ⟨(rfl : Ui (0) (0)), u_I7_64, u_L7_64⟩
              · exact (ih dp e 2 _ _ _ _ _ _ _ _ _ _ u_I7_64 u_L7_64 u_i1 u_i2 (rfl : Ui (1) (1)))
            · exact (ih dp e 2 _ _ _ _ _ _ _ _ _ _ u_I5_39 u_L5_39 u_i1 u_i2 (rfl : Ui (1) (1)))
          · exact (ih dp e 1 _ _ _ _ _ _ _ _ _ _ u_I5_39 u_L5_39 u_i1 u_i2 (rfl : Ui 0 0))
        · exact (ih dp e 1 _ _ _ _ _ _ _ _ _ _ u_I3_24 u_L3_24 u_i1 u_i2 (rfl : Ui 0 0))
      · exact (ih dp e 1 _ _ _ _ _ _ _ _ _ _ u_I1_9 u_L1_9 u_i1 u_i2 (rfl : Ui 0 0))
    refine Sc Iff.rfl (fun _ => ?_) (fun _ => ?_)
    · refine Sc (eq_up (rfl : Ui (0) (0)) (rfl : Ui 0 0)) (fun c1 => ?_) (fun c1 => ?_)
      · refine Sc Iff.rfl (fun c2 => ?_) (fun _ => Sn)
        refine Sb3 (ks_292 n (dp - 1) e 0 _ _ _ _ _ _ _ _ u_I u_L u_i1 (rfl : Ui (5) (5))) (fun x0_58 x0_58' I0_58 I0_58' L0_58 L0_58' u_x0_58 u_I0_58 u_L0_58 => ?_)
        refine Sc Iff.rfl (fun c3 => ?_) (fun _ => Sn)
        refine Sb3 (ks_292 n (dp - 1) e 0 _ _ _ _ _ _ _ _ u_I0_58 u_L0_58 u_i2 (rfl : Ui (5) (5))) (fun x1_64 x1_64' I1_64 I1_64' L1_64 L1_64' u_x1_64 u_I1_64 u_L1_64 => ?_)
        refine Sc (eq_up (ui_and u_x0_58 u_x1_64) (rfl : Ui 0 0)) (fun c4 => ?_) (fun c4 => ?_)
        · exact Sr ⟨(rfl : Ui (0) (0)), u_I1_64, u_L1_64⟩
        · exact (ih dp e 2 _ _ _ _ _ _ _ _ _ _ u_I1_64 u_L1_64 u_i1 u_i2 (rfl : Ui (0) (0)))
      · exact (ih dp e 2 _ _ _ _ _ _ _ _ _ _ u_I u_L u_i1 u_i2 (rfl : Ui (0) (0)))
    refine Sc Iff.rfl (fun _ => ?_) (fun _ => ?_)
    · exact Sr ⟨(rfl : Ui (1) (1)), u_I, u_L⟩
    exact Sn
set_option maxHeartbeats 4000000 in
set_option maxRecDepth 100000 in
def kf_298 : Nat → Nat → EN → Nat → JI → JI → Int → Int → Int → Int → Int → Int → Int → Option (Int × JI × JI)
  | 0, _, _, _, _, _, _, _, _, _, _, _, _ => none
  | n + 1, dp, e, lab, I, L, i1, i2, i3, i4, i5, i6, i7 =>
    if lab = 0 then (stI (w2 I 105 0 0) (fun I_2 => (if 1 ≤ dp then ((kf_193 n (dp - 1) e 0 I_2 L i1 0 255).bind (fun ⟨x0_19, I0_19, L0_19⟩ => (if x0_19 = 0 then (some (((-1) : Int), I0_19, L0_19)) else (if i2 = (-1) then (kf_298 n dp e 1 I0_19 L0_19 i1 i2 (I_2 107 6) 0 0 0 0) else (if 1 ≤ dp then (if -9223372036854775808 ≤ (I_2 107 6) - 1 ∧ (I_2 107 6) - 1 ≤ 9223372036854775807 then ((kf_193 n (dp - 1) e 0 I0_19 L0_19 i2 0 ((I_2 107 6) - 1)).bind (fun ⟨x1_37, I1_37, L1_37⟩ => (if x1_37 = 0 then (some (((-1) : Int), I1_37, L1_37)) else (kf_298 n dp e 1 I1_37 L1_37 i1 i2 (I_2 107 6) 0 0 0 0)))) else none) else none))))) else none)))
    else if lab = 1 then (kf_298 n dp e 2 I L i1 i2 i3 0 0 0 0)
    else if lab = 2 then (if i3 ≤ i5 then (kf_298 n dp e 3 I L i1 i2 i3 i4 1 0 0) else (if 1 ≤ dp then ((kf_292 n (dp - 1) e 0 I L i5 5).bind (fun ⟨x0_67, I0_67, L0_67⟩ => (if (bA x0_67 i1) = 0 then (if 0 ≤ i5 ∧ i5 < 16 then (stI (w2 I0_67 141 i5 (-1)) (fun I_80 => (if -2147483648 ≤ i5 + 1 ∧ i5 + 1 ≤ 2147483647 then (kf_298 n dp e 2 I_80 L0_67 i1 i2 i3 i4 (i5 + 1) 0 0) else none))) else none) else (if 0 ≤ i5 ∧ i5 < 16 then (stI (w2 I0_67 141 i5 0) (fun I_80 => (if -2147483648 ≤ i5 + 1 ∧ i5 + 1 ≤ 2147483647 then (kf_298 n dp e 2 I_80 L0_67 i1 i2 i3 i4 (i5 + 1) 0 0) else none))) else none)))) else none))
    else if lab = 3 then (if i3 < i5 then (kf_298 n dp e 6 I L i1 i2 i3 i4 0 0 0) else (kf_298 n dp e 4 I L i1 i2 i3 i4 i5 0 0))
    else if lab = 4 then (if i3 ≤ i6 then (if -2147483648 ≤ i5 + 1 ∧ i5 + 1 ≤ 2147483647 then (kf_298 n dp e 3 I L i1 i2 i3 i4 (i5 + 1) 0 0) else none) else (kf_298 n dp e 5 I L i1 i2 i3 i4 i5 i6 0))
    else if lab = 5 then (if i3 ≤ i7 then (if -2147483648 ≤ i6 + 1 ∧ i6 + 1 ≤ 2147483647 then (kf_298 n dp e 4 I L i1 i2 i3 i4 i5 (i6 + 1) 0) else none) else (if 0 ≤ i6 ∧ i6 < 16 then (if (I 141 i6) = (-1) then (if 0 ≤ i7 ∧ i7 < 16 then (if 1 ≤ dp then (if -9223372036854775808 ≤ i5 - 1 ∧ i5 - 1 ≤ 9223372036854775807 then ((kf_193 n (dp - 1) e 0 I L (I 141 i7) 0 (i5 - 1)).bind (fun ⟨x0_145, I0_145, L0_145⟩ => (if x0_145 = 0 then (if 0 ≤ i6 ∧ i6 < 16 then (if 0 ≤ i6 ∧ i6 < 16 then (stI (w2 I0_145 141 i6 (I0_145 141 i6)) (fun I_174 => (if -2147483648 ≤ i7 + 1 ∧ i7 + 1 ≤ 2147483647 then (kf_298 n dp e 5 I_174 L0_145 i1 i2 i3 i4 i5 i6 (i7 + 1)) else none))) else none) else none) else (if 1 ≤ dp then ((kf_299 n (dp - 1) e 0 I0_145 L0_145 i6 i7 0).bind (fun ⟨x1_156, I1_156, L1_156⟩ => (if x1_156 = 0 then (if 0 ≤ i6 ∧ i6 < 16 then (if 0 ≤ i6 ∧ i6 < 16 then (stI (w2 I1_156 141 i6 (I1_156 141 i6)) (fun I_174 => (if -2147483648 ≤ i7 + 1 ∧ i7 + 1 ≤ 2147483647 then (kf_298 n dp e 5 I_174 L1_156 i1 i2 i3 i4 i5 i6 (i7 + 1)) else none))) else none) else none) else (if 0 ≤ i6 ∧ i6 < 16 then (stI (w2 I1_156 141 i6 i5) (fun I_174 => (if -2147483648 ≤ i7 + 1 ∧ i7 + 1 ≤ 2147483647 then (kf_298 n dp e 5 I_174 L1_156 i1 i2 i3 i4 i5 i6 (i7 + 1)) else none))) else none)))) else none)))) else none) else none) else none) else (if 0 ≤ i6 ∧ i6 < 16 then (if 0 ≤ i6 ∧ i6 < 16 then (stI (w2 I 141 i6 (I 141 i6)) (fun I_174 => (if -2147483648 ≤ i7 + 1 ∧ i7 + 1 ≤ 2147483647 then (kf_298 n dp e 5 I_174 L i1 i2 i3 i4 i5 i6 (i7 + 1)) else none))) else none) else none)) else none))
    else if lab = 6 then (if i3 ≤ i5 then (if i2 = (-1) then (some ((i4 : Int), I, L)) else (if 0 ≤ i2 ∧ i2 < 16 then (some (((I 141 i2) : Int), I, L)) else none)) else (if 0 ≤ i5 ∧ i5 < 16 then (if (I 141 i5) = (-1) then (if -2147483648 ≤ i5 + 1 ∧ i5 + 1 ≤ 2147483647 then (kf_298 n dp e 6 I L i1 i2 i3 (bO i4 0) (i5 + 1) 0 0) else none) else (stI (bO i4 (bL 1 i5)) (fun v_224 => (if -2147483648 ≤ i5 + 1 ∧ i5 + 1 ≤ 2147483647 then (kf_298 n dp e 6 I L i1 i2 i3 v_224 (i5 + 1) 0 0) else none)))) else none))
    else none
set_option maxRecDepth 100000 in
theorem ke_298_0 (n : Nat) (dp : Nat) (e : EN) (I : JI) (L : JI) (i1 : Int) (i2 : Int) (i3 : Int) (i4 : Int) (i5 : Int) (i6 : Int) (i7 : Int) : kf_298 (n + 1) dp e 0 I L i1 i2 i3 i4 i5 i6 i7 = (stI (w2 I 105 0 0) (fun I_2 => (if 1 ≤ dp then ((kf_193 n (dp - 1) e 0 I_2 L i1 0 255).bind (fun ⟨x0_19, I0_19, L0_19⟩ => (if x0_19 = 0 then (some (((-1) : Int), I0_19, L0_19)) else (if i2 = (-1) then (kf_298 n dp e 1 I0_19 L0_19 i1 i2 (I_2 107 6) 0 0 0 0) else (if 1 ≤ dp then (if -9223372036854775808 ≤ (I_2 107 6) - 1 ∧ (I_2 107 6) - 1 ≤ 9223372036854775807 then ((kf_193 n (dp - 1) e 0 I0_19 L0_19 i2 0 ((I_2 107 6) - 1)).bind (fun ⟨x1_37, I1_37, L1_37⟩ => (if x1_37 = 0 then (some (((-1) : Int), I1_37, L1_37)) else (kf_298 n dp e 1 I1_37 L1_37 i1 i2 (I_2 107 6) 0 0 0 0)))) else none) else none))))) else none))) := by rw [kf_298.eq_2, if_pos (show (0 : Nat) = 0 from rfl)]
set_option maxRecDepth 100000 in
theorem ke_298_1 (n : Nat) (dp : Nat) (e : EN) (I : JI) (L : JI) (i1 : Int) (i2 : Int) (i3 : Int) (i4 : Int) (i5 : Int) (i6 : Int) (i7 : Int) : kf_298 (n + 1) dp e 1 I L i1 i2 i3 i4 i5 i6 i7 = (kf_298 n dp e 2 I L i1 i2 i3 0 0 0 0) := by rw [kf_298.eq_2, if_neg (show ¬ ((1 : Nat) = 0) by decide), if_pos (show (1 : Nat) = 1 from rfl)]
set_option maxRecDepth 100000 in
theorem ke_298_2 (n : Nat) (dp : Nat) (e : EN) (I : JI) (L : JI) (i1 : Int) (i2 : Int) (i3 : Int) (i4 : Int) (i5 : Int) (i6 : Int) (i7 : Int) : kf_298 (n + 1) dp e 2 I L i1 i2 i3 i4 i5 i6 i7 = (if i3 ≤ i5 then (kf_298 n dp e 3 I L i1 i2 i3 i4 1 0 0) else (if 1 ≤ dp then ((kf_292 n (dp - 1) e 0 I L i5 5).bind (fun ⟨x0_67, I0_67, L0_67⟩ => (if (bA x0_67 i1) = 0 then (if 0 ≤ i5 ∧ i5 < 16 then (stI (w2 I0_67 141 i5 (-1)) (fun I_80 => (if -2147483648 ≤ i5 + 1 ∧ i5 + 1 ≤ 2147483647 then (kf_298 n dp e 2 I_80 L0_67 i1 i2 i3 i4 (i5 + 1) 0 0) else none))) else none) else (if 0 ≤ i5 ∧ i5 < 16 then (stI (w2 I0_67 141 i5 0) (fun I_80 => (if -2147483648 ≤ i5 + 1 ∧ i5 + 1 ≤ 2147483647 then (kf_298 n dp e 2 I_80 L0_67 i1 i2 i3 i4 (i5 + 1) 0 0) else none))) else none)))) else none)) := by rw [kf_298.eq_2, if_neg (show ¬ ((2 : Nat) = 0) by decide), if_neg (show ¬ ((2 : Nat) = 1) by decide), if_pos (show (2 : Nat) = 2 from rfl)]
set_option maxRecDepth 100000 in
theorem ke_298_3 (n : Nat) (dp : Nat) (e : EN) (I : JI) (L : JI) (i1 : Int) (i2 : Int) (i3 : Int) (i4 : Int) (i5 : Int) (i6 : Int) (i7 : Int) : kf_298 (n + 1) dp e 3 I L i1 i2 i3 i4 i5 i6 i7 = (if i3 < i5 then (kf_298 n dp e 6 I L i1 i2 i3 i4 0 0 0) else (kf_298 n dp e 4 I L i1 i2 i3 i4 i5 0 0)) := by rw [kf_298.eq_2, if_neg (show ¬ ((3 : Nat) = 0) by decide), if_neg (show ¬ ((3 : Nat) = 1) by decide), if_neg (show ¬ ((3 : Nat) = 2) by decide), if_pos (show (3 : Nat) = 3 from rfl)]
set_option maxRecDepth 100000 in
theorem ke_298_4 (n : Nat) (dp : Nat) (e : EN) (I : JI) (L : JI) (i1 : Int) (i2 : Int) (i3 : Int) (i4 : Int) (i5 : Int) (i6 : Int) (i7 : Int) : kf_298 (n + 1) dp e 4 I L i1 i2 i3 i4 i5 i6 i7 = (if i3 ≤ i6 then (if -2147483648 ≤ i5 + 1 ∧ i5 + 1 ≤ 2147483647 then (kf_298 n dp e 3 I L i1 i2 i3 i4 (i5 + 1) 0 0) else none) else (kf_298 n dp e 5 I L i1 i2 i3 i4 i5 i6 0)) := by rw [kf_298.eq_2, if_neg (show ¬ ((4 : Nat) = 0) by decide), if_neg (show ¬ ((4 : Nat) = 1) by decide), if_neg (show ¬ ((4 : Nat) = 2) by decide), if_neg (show ¬ ((4 : Nat) = 3) by decide), if_pos (show (4 : Nat) = 4 from rfl)]
set_option maxRecDepth 100000 in
theorem ke_298_5 (n : Nat) (dp : Nat) (e : EN) (I : JI) (L : JI) (i1 : Int) (i2 : Int) (i3 : Int) (i4 : Int) (i5 : Int) (i6 : Int) (i7 : Int) : kf_298 (n + 1) dp e 5 I L i1 i2 i3 i4 i5 i6 i7 = (if i3 ≤ i7 then (if -2147483648 ≤ i6 + 1 ∧ i6 + 1 ≤ 2147483647 then (kf_298 n dp e 4 I L i1 i2 i3 i4 i5 (i6 + 1) 0) else none) else (if 0 ≤ i6 ∧ i6 < 16 then (if (I 141 i6) = (-1) then (if 0 ≤ i7 ∧ i7 < 16 then (if 1 ≤ dp then (if -9223372036854775808 ≤ i5 - 1 ∧ i5 - 1 ≤ 9223372036854775807 then ((kf_193 n (dp - 1) e 0 I L (I 141 i7) 0 (i5 - 1)).bind (fun ⟨x0_145, I0_145, L0_145⟩ => (if x0_145 = 0 then (if 0 ≤ i6 ∧ i6 < 16 then (if 0 ≤ i6 ∧ i6 < 16 then (stI (w2 I0_145 141 i6 (I0_145 141 i6)) (fun I_174 => (if -2147483648 ≤ i7 + 1 ∧ i7 + 1 ≤ 2147483647 then (kf_298 n dp e 5 I_174 L0_145 i1 i2 i3 i4 i5 i6 (i7 + 1)) else none))) else none) else none) else (if 1 ≤ dp then ((kf_299 n (dp - 1) e 0 I0_145 L0_145 i6 i7 0).bind (fun ⟨x1_156, I1_156, L1_156⟩ => (if x1_156 = 0 then (if 0 ≤ i6 ∧ i6 < 16 then (if 0 ≤ i6 ∧ i6 < 16 then (stI (w2 I1_156 141 i6 (I1_156 141 i6)) (fun I_174 => (if -2147483648 ≤ i7 + 1 ∧ i7 + 1 ≤ 2147483647 then (kf_298 n dp e 5 I_174 L1_156 i1 i2 i3 i4 i5 i6 (i7 + 1)) else none))) else none) else none) else (if 0 ≤ i6 ∧ i6 < 16 then (stI (w2 I1_156 141 i6 i5) (fun I_174 => (if -2147483648 ≤ i7 + 1 ∧ i7 + 1 ≤ 2147483647 then (kf_298 n dp e 5 I_174 L1_156 i1 i2 i3 i4 i5 i6 (i7 + 1)) else none))) else none)))) else none)))) else none) else none) else none) else (if 0 ≤ i6 ∧ i6 < 16 then (if 0 ≤ i6 ∧ i6 < 16 then (stI (w2 I 141 i6 (I 141 i6)) (fun I_174 => (if -2147483648 ≤ i7 + 1 ∧ i7 + 1 ≤ 2147483647 then (kf_298 n dp e 5 I_174 L i1 i2 i3 i4 i5 i6 (i7 + 1)) else none))) else none) else none)) else none)) := by rw [kf_298.eq_2, if_neg (show ¬ ((5 : Nat) = 0) by decide), if_neg (show ¬ ((5 : Nat) = 1) by decide), if_neg (show ¬ ((5 : Nat) = 2) by decide), if_neg (show ¬ ((5 : Nat) = 3) by decide), if_neg (show ¬ ((5 : Nat) = 4) by decide), if_pos (show (5 : Nat) = 5 from rfl)]
set_option maxRecDepth 100000 in
theorem ke_298_6 (n : Nat) (dp : Nat) (e : EN) (I : JI) (L : JI) (i1 : Int) (i2 : Int) (i3 : Int) (i4 : Int) (i5 : Int) (i6 : Int) (i7 : Int) : kf_298 (n + 1) dp e 6 I L i1 i2 i3 i4 i5 i6 i7 = (if i3 ≤ i5 then (if i2 = (-1) then (some ((i4 : Int), I, L)) else (if 0 ≤ i2 ∧ i2 < 16 then (some (((I 141 i2) : Int), I, L)) else none)) else (if 0 ≤ i5 ∧ i5 < 16 then (if (I 141 i5) = (-1) then (if -2147483648 ≤ i5 + 1 ∧ i5 + 1 ≤ 2147483647 then (kf_298 n dp e 6 I L i1 i2 i3 (bO i4 0) (i5 + 1) 0 0) else none) else (stI (bO i4 (bL 1 i5)) (fun v_224 => (if -2147483648 ≤ i5 + 1 ∧ i5 + 1 ≤ 2147483647 then (kf_298 n dp e 6 I L i1 i2 i3 v_224 (i5 + 1) 0 0) else none)))) else none)) := by rw [kf_298.eq_2, if_neg (show ¬ ((6 : Nat) = 0) by decide), if_neg (show ¬ ((6 : Nat) = 1) by decide), if_neg (show ¬ ((6 : Nat) = 2) by decide), if_neg (show ¬ ((6 : Nat) = 3) by decide), if_neg (show ¬ ((6 : Nat) = 4) by decide), if_neg (show ¬ ((6 : Nat) = 5) by decide), if_pos (show (6 : Nat) = 6 from rfl)]
set_option maxHeartbeats 8000000 in
set_option maxRecDepth 100000 in
theorem ks_298 : ∀ (n : Nat) (dp : Nat) (e : EN) (lab : Nat) (I : Nat → Nat → Int32) (I' : JI) (L : Nat → Nat → Int64) (L' : JI) (i1 : Int32) (i1' : Int) (i2 : Int32) (i2' : Int) (i3 : Int32) (i3' : Int) (i4 : Int32) (i4' : Int) (i5 : Int32) (i5' : Int) (i6 : Int32) (i6' : Int) (i7 : Int32) (i7' : Int), Rli I I' → Rll L L' → Ui i1 i1' → Ui i2 i2' → Ui i3 i3' → Ui i4 i4' → Ui i5 i5' → Ui i6 i6' → Ui i7 i7' → Sim R3 (g_298 n dp e lab I L i1 i2 i3 i4 i5 i6 i7) (kf_298 n dp e lab I' L' i1' i2' i3' i4' i5' i6' i7') := by
  intro n
  induction n with
  | zero => intros; rw [kf_298.eq_1]; exact Sn
  | succ n ih =>
    intro dp e lab I I' L L' i1 i1' i2 i2' i3 i3' i4 i4' i5 i5' i6 i6' i7 i7' u_I u_L u_i1 u_i2 u_i3 u_i4 u_i5 u_i6 u_i7
    rw [g_298.eq_2, kf_298.eq_2]
    refine Sc Iff.rfl (fun _ => ?_) (fun _ => ?_)
    · refine SsJ (ri_up u_I (rfl : ((0 : Nat) : Int) = 0) (rfl : Ui (0) (0))) (fun I_2 I_2' u_I_2 => ?_)
      refine Sc Iff.rfl (fun c1 => ?_) (fun _ => Sn)
      refine Sb3 (ks_193 n (dp - 1) e 0 _ _ _ _ _ _ _ _ _ _ u_I_2 u_L (ul_i2l u_i1) (rfl : Ul (0) (0)) (rfl : Ul (255) (255))) (fun x0_19 x0_19' I0_19 I0_19' L0_19 L0_19' u_x0_19 u_I0_19 u_L0_19 => ?_)
      refine Sc (eq_up u_x0_19 (rfl : Ui 0 0)) (fun c2 => ?_) (fun c2 => ?_)
      · exact Sr ⟨(rfl : Ui (-1) (-1)), u_I0_19, u_L0_19⟩
      · refine Sc (eq_up u_i2 (rfl : Ui (-1) (-1))) (fun c3 => ?_) (fun c3 => ?_)
        · exact (ih dp e 1 _ _ _ _ _ _ _ _ _ _ _ _ _ _ _ _ _ _ u_I0_19 u_L0_19 u_i1 u_i2 (u_I_2 107 6) (rfl : Ui 0 0) (rfl : Ui 0 0) (rfl : Ui 0 0) (rfl : Ui 0 0))
        · refine Sc Iff.rfl (fun c4 => ?_) (fun _ => Sn)
          refine Sg (fun g5 => ?_)
          refine Sb3 (ks_193 n (dp - 1) e 0 _ _ _ _ _ _ _ _ _ _ u_I0_19 u_L0_19 (ul_i2l u_i2) (rfl : Ul (0) (0)) (ul_sub (ul_i2l (u_I_2 107 6)) (rfl : Ul (1) (1)) g5)) (fun x1_37 x1_37' I1_37 I1_37' L1_37 L1_37' u_x1_37 u_I1_37 u_L1_37 => ?_)
          refine Sc (eq_up u_x1_37 (rfl : Ui 0 0)) (fun c6 => ?_) (fun c6 => ?_)
          · exact Sr ⟨(rfl : Ui (-1) (-1)), u_I1_37, u_L1_37⟩
          · exact (ih dp e 1 _ _ _ _ _ _ _ _ _ _ _ _ _ _ _ _ _ _ u_I1_37 u_L1_37 u_i1 u_i2 (u_I_2 107 6) (rfl : Ui 0 0) (rfl : Ui 0 0) (rfl : Ui 0 0) (rfl : Ui 0 0))
    refine Sc Iff.rfl (fun _ => ?_) (fun _ => ?_)
    · exact (ih dp e 2 _ _ _ _ _ _ _ _ _ _ _ _ _ _ _ _ _ _ u_I u_L u_i1 u_i2 u_i3 (rfl : Ui (0) (0)) (rfl : Ui (0) (0)) (rfl : Ui 0 0) (rfl : Ui 0 0))
    refine Sc Iff.rfl (fun _ => ?_) (fun _ => ?_)
    · refine Sc (le_up u_i3 u_i5) (fun c1 => ?_) (fun c1 => ?_)
      · exact (ih dp e 3 _ _ _ _ _ _ _ _ _ _ _ _ _ _ _ _ _ _ u_I u_L u_i1 u_i2 u_i3 u_i4 (rfl : Ui (1) (1)) (rfl : Ui 0 0) (rfl : Ui 0 0))
      · refine Sc Iff.rfl (fun c2 => ?_) (fun _ => Sn)
        refine Sb3 (ks_292 n (dp - 1) e 0 _ _ _ _ _ _ _ _ u_I u_L u_i5 (rfl : Ui (5) (5))) (fun x0_67 x0_67' I0_67 I0_67' L0_67 L0_67' u_x0_67 u_I0_67 u_L0_67 => ?_)
        refine Sc (eq_up (ui_and u_x0_67 u_i1) (rfl : Ui 0 0)) (fun c3 => ?_) (fun c3 => ?_)
        · refine Sc (ix_up u_i5) (fun c4 => ?_) (fun _ => Sn)
          refine SsJ (ri_up u_I0_67 (kc_up u_i5 c4.1) (rfl : Ui (-1) (-1))) (fun I_80 I_80' u_I_80 => ?_)
          refine Sg (fun g5 => ?_)
          exact (ih dp e 2 _ _ _ _ _ _ _ _ _ _ _ _ _ _ _ _ _ _ u_I_80 u_L0_67 u_i1 u_i2 u_i3 u_i4 (ui_add u_i5 (rfl : Ui (Int32.ofInt (1)) (1)) g5) (rfl : Ui 0 0) (rfl : Ui 0 0))
        · refine Sc (ix_up u_i5) (fun c6 => ?_) (fun _ => Sn)
          refine SsJ (ri_up u_I0_67 (kc_up u_i5 c6.1) (rfl : Ui (0) (0))) (fun I_80 I_80' u_I_80 => ?_)
          refine Sg (fun g7 => ?_)
          exact (ih dp e 2 _ _ _ _ _ _ _ _ _ _ _ _ _ _ _ _ _ _ u_I_80 u_L0_67 u_i1 u_i2 u_i3 u_i4 (ui_add u_i5 (rfl : Ui (Int32.ofInt (1)) (1)) g7) (rfl : Ui 0 0) (rfl : Ui 0 0))
    refine Sc Iff.rfl (fun _ => ?_) (fun _ => ?_)
    · refine Sc (lt_up u_i3 u_i5) (fun c1 => ?_) (fun c1 => ?_)
      · exact (ih dp e 6 _ _ _ _ _ _ _ _ _ _ _ _ _ _ _ _ _ _ u_I u_L u_i1 u_i2 u_i3 u_i4 (rfl : Ui (0) (0)) (rfl : Ui 0 0) (rfl : Ui 0 0))
      · exact (ih dp e 4 _ _ _ _ _ _ _ _ _ _ _ _ _ _ _ _ _ _ u_I u_L u_i1 u_i2 u_i3 u_i4 u_i5 (rfl : Ui (0) (0)) (rfl : Ui 0 0))
    refine Sc Iff.rfl (fun _ => ?_) (fun _ => ?_)
    · refine Sc (le_up u_i3 u_i6) (fun c1 => ?_) (fun c1 => ?_)
      · refine Sg (fun g2 => ?_)
        exact (ih dp e 3 _ _ _ _ _ _ _ _ _ _ _ _ _ _ _ _ _ _ u_I u_L u_i1 u_i2 u_i3 u_i4 (ui_add u_i5 (rfl : Ui (Int32.ofInt (1)) (1)) g2) (rfl : Ui 0 0) (rfl : Ui 0 0))
      · exact (ih dp e 5 _ _ _ _ _ _ _ _ _ _ _ _ _ _ _ _ _ _ u_I u_L u_i1 u_i2 u_i3 u_i4 u_i5 u_i6 (rfl : Ui (0) (0)))
    refine Sc Iff.rfl (fun _ => ?_) (fun _ => ?_)
    · refine Sc (le_up u_i3 u_i7) (fun c1 => ?_) (fun c1 => ?_)
      · refine Sg (fun g2 => ?_)
        exact (ih dp e 4 _ _ _ _ _ _ _ _ _ _ _ _ _ _ _ _ _ _ u_I u_L u_i1 u_i2 u_i3 u_i4 u_i5 (ui_add u_i6 (rfl : Ui (Int32.ofInt (1)) (1)) g2) (rfl : Ui 0 0))
      · refine Sc (ix_up u_i6) (fun c3 => ?_) (fun _ => Sn)
        refine Sc (eq_up (ui_rd (a := 141) u_I u_i6 c3.1) (rfl : Ui (-1) (-1))) (fun c4 => ?_) (fun c4 => ?_)
        · refine Sc (ix_up u_i7) (fun c5 => ?_) (fun _ => Sn)
          refine Sc Iff.rfl (fun c6 => ?_) (fun _ => Sn)
          refine Sg (fun g7 => ?_)
          refine Sb3 (ks_193 n (dp - 1) e 0 _ _ _ _ _ _ _ _ _ _ u_I u_L (ul_i2l (ui_rd (a := 141) u_I u_i7 c5.1)) (rfl : Ul (0) (0)) (ul_sub (ul_i2l u_i5) (rfl : Ul (1) (1)) g7)) (fun x0_145 x0_145' I0_145 I0_145' L0_145 L0_145' u_x0_145 u_I0_145 u_L0_145 => ?_)
          refine Sc (eq_up u_x0_145 (rfl : Ui 0 0)) (fun c8 => ?_) (fun c8 => ?_)
          · refine Sc (ix_up u_i6) (fun c9 => ?_) (fun _ => Sn)
            refine Sc (ix_up u_i6) (fun c10 => ?_) (fun _ => Sn)
            refine SsJ (ri_up u_I0_145 (kc_up u_i6 c10.1) (ui_rd (a := 141) u_I0_145 u_i6 c10.1)) (fun I_174 I_174' u_I_174 => ?_)
            refine Sg (fun g11 => ?_)
            exact (ih dp e 5 _ _ _ _ _ _ _ _ _ _ _ _ _ _ _ _ _ _ u_I_174 u_L0_145 u_i1 u_i2 u_i3 u_i4 u_i5 u_i6 (ui_add u_i7 (rfl : Ui (Int32.ofInt (1)) (1)) g11))
          · refine Sc Iff.rfl (fun c12 => ?_) (fun _ => Sn)
            refine Sb3 (ks_299 n (dp - 1) e 0 _ _ _ _ _ _ _ _ _ _ u_I0_145 u_L0_145 u_i6 u_i7 (rfl : Ui 0 0)) (fun x1_156 x1_156' I1_156 I1_156' L1_156 L1_156' u_x1_156 u_I1_156 u_L1_156 => ?_)
            refine Sc (eq_up u_x1_156 (rfl : Ui 0 0)) (fun c13 => ?_) (fun c13 => ?_)
            · refine Sc (ix_up u_i6) (fun c14 => ?_) (fun _ => Sn)
              refine Sc (ix_up u_i6) (fun c15 => ?_) (fun _ => Sn)
              refine SsJ (ri_up u_I1_156 (kc_up u_i6 c15.1) (ui_rd (a := 141) u_I1_156 u_i6 c15.1)) (fun I_174 I_174' u_I_174 => ?_)
              refine Sg (fun g16 => ?_)
              exact (ih dp e 5 _ _ _ _ _ _ _ _ _ _ _ _ _ _ _ _ _ _ u_I_174 u_L1_156 u_i1 u_i2 u_i3 u_i4 u_i5 u_i6 (ui_add u_i7 (rfl : Ui (Int32.ofInt (1)) (1)) g16))
            · refine Sc (ix_up u_i6) (fun c17 => ?_) (fun _ => Sn)
              refine SsJ (ri_up u_I1_156 (kc_up u_i6 c17.1) u_i5) (fun I_174 I_174' u_I_174 => ?_)
              refine Sg (fun g18 => ?_)
              exact (ih dp e 5 _ _ _ _ _ _ _ _ _ _ _ _ _ _ _ _ _ _ u_I_174 u_L1_156 u_i1 u_i2 u_i3 u_i4 u_i5 u_i6 (ui_add u_i7 (rfl : Ui (Int32.ofInt (1)) (1)) g18))
        · refine Sc (ix_up u_i6) (fun c19 => ?_) (fun _ => Sn)
          refine Sc (ix_up u_i6) (fun c20 => ?_) (fun _ => Sn)
          refine SsJ (ri_up u_I (kc_up u_i6 c20.1) (ui_rd (a := 141) u_I u_i6 c20.1)) (fun I_174 I_174' u_I_174 => ?_)
          refine Sg (fun g21 => ?_)
          exact (ih dp e 5 _ _ _ _ _ _ _ _ _ _ _ _ _ _ _ _ _ _ u_I_174 u_L u_i1 u_i2 u_i3 u_i4 u_i5 u_i6 (ui_add u_i7 (rfl : Ui (Int32.ofInt (1)) (1)) g21))
    refine Sc Iff.rfl (fun _ => ?_) (fun _ => ?_)
    · refine Sc (le_up u_i3 u_i5) (fun c1 => ?_) (fun c1 => ?_)
      · refine Sc (eq_up u_i2 (rfl : Ui (-1) (-1))) (fun c2 => ?_) (fun c2 => ?_)
        · exact Sr ⟨u_i4, u_I, u_L⟩
        · refine Sc (ix_up u_i2) (fun c3 => ?_) (fun _ => Sn)
          exact Sr ⟨(ui_rd (a := 141) u_I u_i2 c3.1), u_I, u_L⟩
      · refine Sc (ix_up u_i5) (fun c4 => ?_) (fun _ => Sn)
        refine Sc (eq_up (ui_rd (a := 141) u_I u_i5 c4.1) (rfl : Ui (-1) (-1))) (fun c5 => ?_) (fun c5 => ?_)
        · refine Sg (fun g6 => ?_)
          exact (ih dp e 6 _ _ _ _ _ _ _ _ _ _ _ _ _ _ _ _ _ _ u_I u_L u_i1 u_i2 u_i3 (ui_or u_i4 (rfl : Ui (0) (0))) (ui_add u_i5 (rfl : Ui (Int32.ofInt (1)) (1)) g6) (rfl : Ui 0 0) (rfl : Ui 0 0))
        · refine SsI (ui_or u_i4 (ui_shl (rfl : Ui (1) (1)) u_i5)) (fun v_224 v_224' u_v_224 => ?_)
          refine Sg (fun g7 => ?_)
          exact (ih dp e 6 _ _ _ _ _ _ _ _ _ _ _ _ _ _ _ _ _ _ u_I u_L u_i1 u_i2 u_i3 u_v_224 (ui_add u_i5 (rfl : Ui (Int32.ofInt (1)) (1)) g7) (rfl : Ui 0 0) (rfl : Ui 0 0))
    exact Sn
set_option maxHeartbeats 4000000 in
set_option maxRecDepth 100000 in
def kf_300 : Nat → Nat → EN → Nat → JI → JI → Int → Int → Option (Int × JI × JI)
  | 0, _, _, _, _, _, _, _ => none
  | n + 1, dp, e, lab, I, L, i1, i2 =>
    if lab = 0 then (stI (w2 I 105 0 0) (fun I_2 => (if 1 ≤ dp then ((kf_193 n (dp - 1) e 0 I_2 L i1 0 999).bind (fun ⟨x0_11, I0_11, L0_11⟩ => (if x0_11 = 0 then (if 1 ≤ dp then ((kf_194 n (dp - 1) e 0 I0_11 L0_11 (-1)).bind (fun ⟨x1_31, I1_31, L1_31⟩ => (some ((x1_31 : Int), I1_31, L1_31)))) else none) else (if 1 ≤ dp then ((kf_193 n (dp - 1) e 0 I0_11 L0_11 i2 0 999).bind (fun ⟨x1_23, I1_23, L1_23⟩ => (if x1_23 = 0 then (if 1 ≤ dp then ((kf_194 n (dp - 1) e 0 I1_23 L1_23 (-1)).bind (fun ⟨x2_31, I2_31, L2_31⟩ => (some ((x2_31 : Int), I2_31, L2_31)))) else none) else (if (I1_23 107 7) = 40 then (if 1 ≤ dp then ((kf_194 n (dp - 1) e 0 I1_23 L1_23 (-5)).bind (fun ⟨x2_50, I2_50, L2_50⟩ => (some ((x2_50 : Int), I2_50, L2_50)))) else none) else (if (-2147483648 ≤ 2 * (I1_23 107 7) ∧ 2 * (I1_23 107 7) ≤ 2147483647) ∧ (-2147483648 ≤ 202 + (2 * (I1_23 107 7)) ∧ 202 + (2 * (I1_23 107 7)) ≤ 2147483647) then (if 0 ≤ (202 + (2 * (I1_23 107 7))) ∧ (202 + (2 * (I1_23 107 7))) < 1570 then (stI (w2 I1_23 107 (202 + (2 * (I1_23 107 7))) i1) (fun I_72 => (if (-2147483648 ≤ 2 * (I_72 107 7) ∧ 2 * (I_72 107 7) ≤ 2147483647) ∧ (-2147483648 ≤ 202 + (2 * (I_72 107 7)) ∧ 202 + (2 * (I_72 107 7)) ≤ 2147483647) ∧ (-2147483648 ≤ (202 + (2 * (I_72 107 7))) + 1 ∧ (202 + (2 * (I_72 107 7))) + 1 ≤ 2147483647) then (if 0 ≤ ((202 + (2 * (I_72 107 7))) + 1) ∧ ((202 + (2 * (I_72 107 7))) + 1) < 1570 then (stI (w2 I_72 107 ((202 + (2 * (I_72 107 7))) + 1) i2) (fun I_93 => (if -2147483648 ≤ (I_93 107 7) + 1 ∧ (I_93 107 7) + 1 ≤ 2147483647 then (stI (w2 I_93 107 7 ((I_93 107 7) + 1)) (fun I_104 => (if 1 ≤ dp then ((kf_194 n (dp - 1) e 0 I_104 L1_23 (I_104 107 7)).bind (fun ⟨x2_113, I2_113, L2_113⟩ => (some ((x2_113 : Int), I2_113, L2_113)))) else none))) else none))) else none) else none))) else none) else none))))) else none)))) else none)))
    else none
set_option maxRecDepth 100000 in
theorem ke_300_0 (n : Nat) (dp : Nat) (e : EN) (I : JI) (L : JI) (i1 : Int) (i2 : Int) : kf_300 (n + 1) dp e 0 I L i1 i2 = (stI (w2 I 105 0 0) (fun I_2 => (if 1 ≤ dp then ((kf_193 n (dp - 1) e 0 I_2 L i1 0 999).bind (fun ⟨x0_11, I0_11, L0_11⟩ => (if x0_11 = 0 then (if 1 ≤ dp then ((kf_194 n (dp - 1) e 0 I0_11 L0_11 (-1)).bind (fun ⟨x1_31, I1_31, L1_31⟩ => (some ((x1_31 : Int), I1_31, L1_31)))) else none) else (if 1 ≤ dp then ((kf_193 n (dp - 1) e 0 I0_11 L0_11 i2 0 999).bind (fun ⟨x1_23, I1_23, L1_23⟩ => (if x1_23 = 0 then (if 1 ≤ dp then ((kf_194 n (dp - 1) e 0 I1_23 L1_23 (-1)).bind (fun ⟨x2_31, I2_31, L2_31⟩ => (some ((x2_31 : Int), I2_31, L2_31)))) else none) else (if (I1_23 107 7) = 40 then (if 1 ≤ dp then ((kf_194 n (dp - 1) e 0 I1_23 L1_23 (-5)).bind (fun ⟨x2_50, I2_50, L2_50⟩ => (some ((x2_50 : Int), I2_50, L2_50)))) else none) else (if (-2147483648 ≤ 2 * (I1_23 107 7) ∧ 2 * (I1_23 107 7) ≤ 2147483647) ∧ (-2147483648 ≤ 202 + (2 * (I1_23 107 7)) ∧ 202 + (2 * (I1_23 107 7)) ≤ 2147483647) then (if 0 ≤ (202 + (2 * (I1_23 107 7))) ∧ (202 + (2 * (I1_23 107 7))) < 1570 then (stI (w2 I1_23 107 (202 + (2 * (I1_23 107 7))) i1) (fun I_72 => (if (-2147483648 ≤ 2 * (I_72 107 7) ∧ 2 * (I_72 107 7) ≤ 2147483647) ∧ (-2147483648 ≤ 202 + (2 * (I_72 107 7)) ∧ 202 + (2 * (I_72 107 7)) ≤ 2147483647) ∧ (-2147483648 ≤ (202 + (2 * (I_72 107 7))) + 1 ∧ (202 + (2 * (I_72 107 7))) + 1 ≤ 2147483647) then (if 0 ≤ ((202 + (2 * (I_72 107 7))) + 1) ∧ ((202 + (2 * (I_72 107 7))) + 1) < 1570 then (stI (w2 I_72 107 ((202 + (2 * (I_72 107 7))) + 1) i2) (fun I_93 => (if -2147483648 ≤ (I_93 107 7) + 1 ∧ (I_93 107 7) + 1 ≤ 2147483647 then (stI (w2 I_93 107 7 ((I_93 107 7) + 1)) (fun I_104 => (if 1 ≤ dp then ((kf_194 n (dp - 1) e 0 I_104 L1_23 (I_104 107 7)).bind (fun ⟨x2_113, I2_113, L2_113⟩ => (some ((x2_113 : Int), I2_113, L2_113)))) else none))) else none))) else none) else none))) else none) else none))))) else none)))) else none))) := by rw [kf_300.eq_2, if_pos (show (0 : Nat) = 0 from rfl)]
set_option maxHeartbeats 8000000 in
set_option maxRecDepth 100000 in
theorem ks_300 : ∀ (n : Nat) (dp : Nat) (e : EN) (lab : Nat) (I : Nat → Nat → Int32) (I' : JI) (L : Nat → Nat → Int64) (L' : JI) (i1 : Int32) (i1' : Int) (i2 : Int32) (i2' : Int), Rli I I' → Rll L L' → Ui i1 i1' → Ui i2 i2' → Sim R3 (g_300 n dp e lab I L i1 i2) (kf_300 n dp e lab I' L' i1' i2') := by
  intro n
  induction n with
  | zero => intros; rw [kf_300.eq_1]; exact Sn
  | succ n ih =>
    intro dp e lab I I' L L' i1 i1' i2 i2' u_I u_L u_i1 u_i2
    rw [g_300.eq_2, kf_300.eq_2]
    refine Sc Iff.rfl (fun _ => ?_) (fun _ => ?_)
    · refine SsJ (ri_up u_I (rfl : ((0 : Nat) : Int) = 0) (rfl : Ui (0) (0))) (fun I_2 I_2' u_I_2 => ?_)
      refine Sc Iff.rfl (fun c1 => ?_) (fun _ => Sn)
      refine Sb3 (ks_193 n (dp - 1) e 0 _ _ _ _ _ _ _ _ _ _ u_I_2 u_L (ul_i2l u_i1) (rfl : Ul (0) (0)) (rfl : Ul (999) (999))) (fun x0_11 x0_11' I0_11 I0_11' L0_11 L0_11' u_x0_11 u_I0_11 u_L0_11 => ?_)
      refine Sc (eq_up u_x0_11 (rfl : Ui 0 0)) (fun c2 => ?_) (fun c2 => ?_)
      · refine Sc Iff.rfl (fun c3 => ?_) (fun _ => Sn)
        refine Sb3 (ks_194 n (dp - 1) e 0 _ _ _ _ _ _ u_I0_11 u_L0_11 (rfl : Ui (-1) (-1))) (fun x1_31 x1_31' I1_31 I1_31' L1_31 L1_31' u_x1_31 u_I1_31 u_L1_31 => ?_)
        exact Sr ⟨u_x1_31, u_I1_31, u_L1_31⟩
      · refine Sc Iff.rfl (fun c4 => ?_) (fun _ => Sn)
        refine Sb3 (ks_193 n (dp - 1) e 0 _ _ _ _ _ _ _ _ _ _ u_I0_11 u_L0_11 (ul_i2l u_i2) (rfl : Ul (0) (0)) (rfl : Ul (999) (999))) (fun x1_23 x1_23' I1_23 I1_23' L1_23 L1_23' u_x1_23 u_I1_23 u_L1_23 => ?_)
        refine Sc (eq_up u_x1_23 (rfl : Ui 0 0)) (fun c5 => ?_) (fun c5 => ?_)
        · refine Sc Iff.rfl (fun c6 => ?_) (fun _ => Sn)
          refine Sb3 (ks_194 n (dp - 1) e 0 _ _ _ _ _ _ u_I1_23 u_L1_23 (rfl : Ui (-1) (-1))) (fun x2_31 x2_31' I2_31 I2_31' L2_31 L2_31' u_x2_31 u_I2_31 u_L2_31 => ?_)
          exact Sr ⟨u_x2_31, u_I2_31, u_L2_31⟩
        · refine Sc (eq_up (u_I1_23 107 7) (rfl : Ui (40) (40))) (fun c7 => ?_) (fun c7 => ?_)
          · refine Sc Iff.rfl (fun c8 => ?_) (fun _ => Sn)
            refine Sb3 (ks_194 n (dp - 1) e 0 _ _ _ _ _ _ u_I1_23 u_L1_23 (rfl : Ui (-5) (-5))) (fun x2_50 x2_50' I2_50 I2_50' L2_50 L2_50' u_x2_50 u_I2_50 u_L2_50 => ?_)
            exact Sr ⟨u_x2_50, u_I2_50, u_L2_50⟩
          · refine Sg (fun g9 => ?_)
            refine Sc (ix_up (ui_add (rfl : Ui (202) (202)) (ui_mul (rfl : Ui (2) (2)) (u_I1_23 107 7) g9.1) g9.2)) (fun c10 => ?_) (fun _ => Sn)
            refine SsJ (ri_up u_I1_23 (kc_up (ui_add (rfl : Ui (202) (202)) (ui_mul (rfl : Ui (2) (2)) (u_I1_23 107 7) g9.1) g9.2) c10.1) u_i1) (fun I_72 I_72' u_I_72 => ?_)
            refine Sg (fun g11 => ?_)
            refine Sc (ix_up (ui_add (ui_add (rfl : Ui (202) (202)) (ui_mul (rfl : Ui (2) (2)) (u_I_72 107 7) g11.1) g11.2.1) (rfl : Ui (1) (1)) g11.2.2)) (fun c12 => ?_) (fun _ => Sn)
            refine SsJ (ri_up u_I_72 (kc_up (ui_add (ui_add (rfl : Ui (202) (202)) (ui_mul (rfl : Ui (2) (2)) (u_I_72 107 7) g11.1) g11.2.1) (rfl : Ui (1) (1)) g11.2.2) c12.1) u_i2) (fun I_93 I_93' u_I_93 => ?_)
            refine Sg (fun g13 => ?_)
            refine SsJ (ri_up u_I_93 (rfl : ((7 : Nat) : Int) = 7) (ui_add (u_I_93 107 7) (rfl : Ui (1) (1)) g13)) (fun I_104 I_104' u_I_104 => ?_)
            refine Sc Iff.rfl (fun c14 => ?_) (fun _ => Sn)
            refine Sb3 (ks_194 n (dp - 1) e 0 _ _ _ _ _ _ u_I_104 u_L1_23 (u_I_104 107 7)) (fun x2_113 x2_113' I2_113 I2_113' L2_113 L2_113' u_x2_113 u_I2_113 u_L2_113 => ?_)
            exact Sr ⟨u_x2_113, u_I2_113, u_L2_113⟩
    exact Sn
set_option maxHeartbeats 4000000 in
set_option maxRecDepth 100000 in
def kf_301 : Nat → Nat → EN → Nat → JI → JI → Int → Int → Int → Int → Int → Int → Int → Option (Int × JI × JI)
  | 0, _, _, _, _, _, _, _, _, _, _, _, _ => none
  | n + 1, dp, e, lab, I, L, i1, i2, i3, i4, i5, i6, i7 =>
    if lab = 0 then (stI (w2 I 105 0 0) (fun I_2 => (if 1 ≤ dp then ((kf_193 n (dp - 1) e 0 I_2 L i1 0 99).bind (fun ⟨x0_11, I0_11, L0_11⟩ => (if x0_11 = 0 then (some (((-1) : Int), I0_11, L0_11)) else (if 1 ≤ dp then ((kf_193 n (dp - 1) e 0 I0_11 L0_11 i2 0 9999).bind (fun ⟨x1_23, I1_23, L1_23⟩ => (if x1_23 = 0 then (some (((-1) : Int), I1_23, L1_23)) else (if 1 ≤ dp then ((kf_193 n (dp - 1) e 0 I1_23 L1_23 i3 0 1).bind (fun ⟨x2_33, I2_33, L2_33⟩ => (if x2_33 = 0 then (some (((-1) : Int), I2_33, L2_33)) else (kf_301 n dp e 1 I2_33 L2_33 i1 i2 i3 (-1) 0 0 0)))) else none)))) else none)))) else none)))
    else if lab = 1 then (if (I 107 7) ≤ i7 then (if i3 = 0 then (some ((i4 : Int), I, L)) else (some ((i5 : Int), I, L))) else (if (-2147483648 ≤ 2 * i7 ∧ 2 * i7 ≤ 2147483647) ∧ (-2147483648 ≤ 202 + (2 * i7) ∧ 202 + (2 * i7) ≤ 2147483647) then (if 0 ≤ (202 + (2 * i7)) ∧ (202 + (2 * i7)) < 1570 then (if -2147483648 ≤ (202 + (2 * i7)) + 1 ∧ (202 + (2 * i7)) + 1 ≤ 2147483647 then (if 0 ≤ ((202 + (2 * i7)) + 1) ∧ ((202 + (2 * i7)) + 1) < 1570 then (if (-2147483648 ≤ (I 107 (202 + (2 * i7))) - (I 107 ((202 + (2 * i7)) + 1)) ∧ (I 107 (202 + (2 * i7))) - (I 107 ((202 + (2 * i7)) + 1)) ≤ 2147483647) ∧ (-2147483648 ≤ ((I 107 (202 + (2 * i7))) - (I 107 ((202 + (2 * i7)) + 1))) - i1 ∧ ((I 107 (202 + (2 * i7))) - (I 107 ((202 + (2 * i7)) + 1))) - i1 ≤ 2147483647) ∧ (-2147483648 ≤ i6 + (((I 107 (202 + (2 * i7))) - (I 107 ((202 + (2 * i7)) + 1))) - i1) ∧ i6 + (((I 107 (202 + (2 * i7))) - (I 107 ((202 + (2 * i7)) + 1))) - i1) ≤ 2147483647) then (stI (i6 + (((I 107 (202 + (2 * i7))) - (I 107 ((202 + (2 * i7)) + 1))) - i1)) (fun v_99 => (if 0 ≤ v_99 then (if i4 = (-1) then (if v_99 ≤ i2 then (kf_301 n dp e 2 I L i1 i2 i3 i4 i5 v_99 i7) else (if v_99 ≤ i5 then (if -2147483648 ≤ i7 + 1 ∧ i7 + 1 ≤ 2147483647 then (kf_301 n dp e 1 I L i1 i2 i3 i7 i5 v_99 (i7 + 1)) else none) else (if -2147483648 ≤ i7 + 1 ∧ i7 + 1 ≤ 2147483647 then (kf_301 n dp e 1 I L i1 i2 i3 i7 v_99 v_99 (i7 + 1)) else none))) else (kf_301 n dp e 2 I L i1 i2 i3 i4 i5 v_99 i7)) else (if i4 = (-1) then (if 0 ≤ i2 then (kf_301 n dp e 2 I L i1 i2 i3 i4 i5 0 i7) else (if 0 ≤ i5 then (if -2147483648 ≤ i7 + 1 ∧ i7 + 1 ≤ 2147483647 then (kf_301 n dp e 1 I L i1 i2 i3 i7 i5 0 (i7 + 1)) else none) else (if -2147483648 ≤ i7 + 1 ∧ i7 + 1 ≤ 2147483647 then (kf_301 n dp e 1 I L i1 i2 i3 i7 0 0 (i7 + 1)) else none))) else (kf_301 n dp e 2 I L i1 i2 i3 i4 i5 0 i7))))) else none) else none) else none) else none) else none))
    else if lab = 2 then (if i6 ≤ i5 then (if -2147483648 ≤ i7 + 1 ∧ i7 + 1 ≤ 2147483647 then (kf_301 n dp e 1 I L i1 i2 i3 i4 i5 i6 (i7 + 1)) else none) else (if -2147483648 ≤ i7 + 1 ∧ i7 + 1 ≤ 2147483647 then (kf_301 n dp e 1 I L i1 i2 i3 i4 i6 i6 (i7 + 1)) else none))
    else none
set_option maxRecDepth 100000 in
theorem ke_301_0 (n : Nat) (dp : Nat) (e : EN) (I : JI) (L : JI) (i1 : Int) (i2 : Int) (i3 : Int) (i4 : Int) (i5 : Int) (i6 : Int) (i7 : Int) : kf_301 (n + 1) dp e 0 I L i1 i2 i3 i4 i5 i6 i7 = (stI (w2 I 105 0 0) (fun I_2 => (if 1 ≤ dp then ((kf_193 n (dp - 1) e 0 I_2 L i1 0 99).bind (fun ⟨x0_11, I0_11, L0_11⟩ => (if x0_11 = 0 then (some (((-1) : Int), I0_11, L0_11)) else (if 1 ≤ dp then ((kf_193 n (dp - 1) e 0 I0_11 L0_11 i2 0 9999).bind (fun ⟨x1_23, I1_23, L1_23⟩ => (if x1_23 = 0 then (some (((-1) : Int), I1_23, L1_23)) else (if 1 ≤ dp then ((kf_193 n (dp - 1) e 0 I1_23 L1_23 i3 0 1).bind (fun ⟨x2_33, I2_33, L2_33⟩ => (if x2_33 = 0 then (some (((-1) : Int), I2_33, L2_33)) else (kf_301 n dp e 1 I2_33 L2_33 i1 i2 i3 (-1) 0 0 0)))) else none)))) else none)))) else none))) := by rw [kf_301.eq_2, if_pos (show (0 : Nat) = 0 from rfl)]
set_option maxRecDepth 100000 in
theorem ke_301_1 (n : Nat) (dp : Nat) (e : EN) (I : JI) (L : JI) (i1 : Int) (i2 : Int) (i3 : Int) (i4 : Int) (i5 : Int) (i6 : Int) (i7 : Int) : kf_301 (n + 1) dp e 1 I L i1 i2 i3 i4 i5 i6 i7 = (if (I 107 7) ≤ i7 then (if i3 = 0 then (some ((i4 : Int), I, L)) else (some ((i5 : Int), I, L))) else (if (-2147483648 ≤ 2 * i7 ∧ 2 * i7 ≤ 2147483647) ∧ (-2147483648 ≤ 202 + (2 * i7) ∧ 202 + (2 * i7) ≤ 2147483647) then (if 0 ≤ (202 + (2 * i7)) ∧ (202 + (2 * i7)) < 1570 then (if -2147483648 ≤ (202 + (2 * i7)) + 1 ∧ (202 + (2 * i7)) + 1 ≤ 2147483647 then (if 0 ≤ ((202 + (2 * i7)) + 1) ∧ ((202 + (2 * i7)) + 1) < 1570 then (if (-2147483648 ≤ (I 107 (202 + (2 * i7))) - (I 107 ((202 + (2 * i7)) + 1)) ∧ (I 107 (202 + (2 * i7))) - (I 107 ((202 + (2 * i7)) + 1)) ≤ 2147483647) ∧ (-2147483648 ≤ ((I 107 (202 + (2 * i7))) - (I 107 ((202 + (2 * i7)) + 1))) - i1 ∧ ((I 107 (202 + (2 * i7))) - (I 107 ((202 + (2 * i7)) + 1))) - i1 ≤ 2147483647) ∧ (-2147483648 ≤ i6 + (((I 107 (202 + (2 * i7))) - (I 107 ((202 + (2 * i7)) + 1))) - i1) ∧ i6 + (((I 107 (202 + (2 * i7))) - (I 107 ((202 + (2 * i7)) + 1))) - i1) ≤ 2147483647) then (stI (i6 + (((I 107 (202 + (2 * i7))) - (I 107 ((202 + (2 * i7)) + 1))) - i1)) (fun v_99 => (if 0 ≤ v_99 then (if i4 = (-1) then (if v_99 ≤ i2 then (kf_301 n dp e 2 I L i1 i2 i3 i4 i5 v_99 i7) else (if v_99 ≤ i5 then (if -2147483648 ≤ i7 + 1 ∧ i7 + 1 ≤ 2147483647 then (kf_301 n dp e 1 I L i1 i2 i3 i7 i5 v_99 (i7 + 1)) else none) else (if -2147483648 ≤ i7 + 1 ∧ i7 + 1 ≤ 2147483647 then (kf_301 n dp e 1 I L i1 i2 i3 i7 v_99 v_99 (i7 + 1)) else none))) else (kf_301 n dp e 2 I L i1 i2 i3 i4 i5 v_99 i7)) else (if i4 = (-1) then (if 0 ≤ i2 then (kf_301 n dp e 2 I L i1 i2 i3 i4 i5 0 i7) else (if 0 ≤ i5 then (if -2147483648 ≤ i7 + 1 ∧ i7 + 1 ≤ 2147483647 then (kf_301 n dp e 1 I L i1 i2 i3 i7 i5 0 (i7 + 1)) else none) else (if -2147483648 ≤ i7 + 1 ∧ i7 + 1 ≤ 2147483647 then (kf_301 n dp e 1 I L i1 i2 i3 i7 0 0 (i7 + 1)) else none))) else (kf_301 n dp e 2 I L i1 i2 i3 i4 i5 0 i7))))) else none) else none) else none) else none) else none)) := by rw [kf_301.eq_2, if_neg (show ¬ ((1 : Nat) = 0) by decide), if_pos (show (1 : Nat) = 1 from rfl)]
set_option maxRecDepth 100000 in
theorem ke_301_2 (n : Nat) (dp : Nat) (e : EN) (I : JI) (L : JI) (i1 : Int) (i2 : Int) (i3 : Int) (i4 : Int) (i5 : Int) (i6 : Int) (i7 : Int) : kf_301 (n + 1) dp e 2 I L i1 i2 i3 i4 i5 i6 i7 = (if i6 ≤ i5 then (if -2147483648 ≤ i7 + 1 ∧ i7 + 1 ≤ 2147483647 then (kf_301 n dp e 1 I L i1 i2 i3 i4 i5 i6 (i7 + 1)) else none) else (if -2147483648 ≤ i7 + 1 ∧ i7 + 1 ≤ 2147483647 then (kf_301 n dp e 1 I L i1 i2 i3 i4 i6 i6 (i7 + 1)) else none)) := by rw [kf_301.eq_2, if_neg (show ¬ ((2 : Nat) = 0) by decide), if_neg (show ¬ ((2 : Nat) = 1) by decide), if_pos (show (2 : Nat) = 2 from rfl)]
set_option maxHeartbeats 8000000 in
set_option maxRecDepth 100000 in
theorem ks_301 : ∀ (n : Nat) (dp : Nat) (e : EN) (lab : Nat) (I : Nat → Nat → Int32) (I' : JI) (L : Nat → Nat → Int64) (L' : JI) (i1 : Int32) (i1' : Int) (i2 : Int32) (i2' : Int) (i3 : Int32) (i3' : Int) (i4 : Int32) (i4' : Int) (i5 : Int32) (i5' : Int) (i6 : Int32) (i6' : Int) (i7 : Int32) (i7' : Int), Rli I I' → Rll L L' → Ui i1 i1' → Ui i2 i2' → Ui i3 i3' → Ui i4 i4' → Ui i5 i5' → Ui i6 i6' → Ui i7 i7' → Sim R3 (g_301 n dp e lab I L i1 i2 i3 i4 i5 i6 i7) (kf_301 n dp e lab I' L' i1' i2' i3' i4' i5' i6' i7') := by
  intro n
  induction n with
  | zero => intros; rw [kf_301.eq_1]; exact Sn
  | succ n ih =>
    intro dp e lab I I' L L' i1 i1' i2 i2' i3 i3' i4 i4' i5 i5' i6 i6' i7 i7' u_I u_L u_i1 u_i2 u_i3 u_i4 u_i5 u_i6 u_i7
    rw [g_301.eq_2, kf_301.eq_2]
    refine Sc Iff.rfl (fun _ => ?_) (fun _ => ?_)
    · refine SsJ (ri_up u_I (rfl : ((0 : Nat) : Int) = 0) (rfl : Ui (0) (0))) (fun I_2 I_2' u_I_2 => ?_)
      refine Sc Iff.rfl (fun c1 => ?_) (fun _ => Sn)
      refine Sb3 (ks_193 n (dp - 1) e 0 _ _ _ _ _ _ _ _ _ _ u_I_2 u_L (ul_i2l u_i1) (rfl : Ul (0) (0)) (rfl : Ul (99) (99))) (fun x0_11 x0_11' I0_11 I0_11' L0_11 L0_11' u_x0_11 u_I0_11 u_L0_11 => ?_)
      refine Sc (eq_up u_x0_11 (rfl : Ui 0 0)) (fun c2 => ?_) (fun c2 => ?_)
      · exact Sr ⟨(rfl : Ui (-1) (-1)), u_I0_11, u_L0_11⟩
      · refine Sc Iff.rfl (fun c3 => ?_) (fun _ => Sn)
        refine Sb3 (ks_193 n (dp - 1) e 0 _ _ _ _ _ _ _ _ _ _ u_I0_11 u_L0_11 (ul_i2l u_i2) (rfl : Ul (0) (0)) (rfl : Ul (9999) (9999))) (fun x1_23 x1_23' I1_23 I1_23' L1_23 L1_23' u_x1_23 u_I1_23 u_L1_23 => ?_)
        refine Sc (eq_up u_x1_23 (rfl : Ui 0 0)) (fun c4 => ?_) (fun c4 => ?_)
        · exact Sr ⟨(rfl : Ui (-1) (-1)), u_I1_23, u_L1_23⟩
        · refine Sc Iff.rfl (fun c5 => ?_) (fun _ => Sn)
          refine Sb3 (ks_193 n (dp - 1) e 0 _ _ _ _ _ _ _ _ _ _ u_I1_23 u_L1_23 (ul_i2l u_i3) (rfl : Ul (0) (0)) (rfl : Ul (1) (1))) (fun x2_33 x2_33' I2_33 I2_33' L2_33 L2_33' u_x2_33 u_I2_33 u_L2_33 => ?_)
          refine Sc (eq_up u_x2_33 (rfl : Ui 0 0)) (fun c6 => ?_) (fun c6 => ?_)
          · exact Sr ⟨(rfl : Ui (-1) (-1)), u_I2_33, u_L2_33⟩
          · exact (ih dp e 1 _ _ _ _ _ _ _ _ _ _ _ _ _ _ _ _ _ _ u_I2_33 u_L2_33 u_i1 u_i2 u_i3 (rfl : Ui (-1) (-1)) (rfl : Ui (0) (0)) (rfl : Ui (0) (0)) (rfl : Ui (0) (0)))
    refine Sc Iff.rfl (fun _ => ?_) (fun _ => ?_)
    · refine Sc (le_up (u_I 107 7) u_i7) (fun c1 => ?_) (fun c1 => ?_)
      · refine Sc (eq_up u_i3 (rfl : Ui 0 0)) (fun c2 => ?_) (fun c2 => ?_)
        · exact Sr ⟨u_i4, u_I, u_L⟩
        · exact Sr ⟨u_i5, u_I, u_L⟩
      · refine Sg (fun g3 => ?_)
        refine Sc (ix_up (ui_add (rfl : Ui (202) (202)) (ui_mul (rfl : Ui (2) (2)) u_i7 g3.1) g3.2)) (fun c4 => ?_) (fun _ => Sn)
        refine Sg (fun g5 => ?_)
        refine Sc (ix_up (ui_add (ui_add (rfl : Ui (202) (202)) (ui_mul (rfl : Ui (2) (2)) u_i7 g3.1) g3.2) (rfl : Ui (1) (1)) g5)) (fun c6 => ?_) (fun _ => Sn)
        refine Sg (fun g7 => ?_)
        refine SsI (ui_add u_i6 (ui_sub (ui_sub (ui_rd (a := 107) u_I (ui_add (rfl : Ui (202) (202)) (ui_mul (rfl : Ui (2) (2)) u_i7 g3.1) g3.2) c4.1) (ui_rd (a := 107) u_I (ui_add (ui_add (rfl : Ui (202) (202)) (ui_mul (rfl : Ui (2) (2)) u_i7 g3.1) g3.2) (rfl : Ui (1) (1)) g5) c6.1) g7.1) u_i1 g7.2.1) g7.2.2) (fun v_99 v_99' u_v_99 => ?_)
        refine Sc (le_up (rfl : Ui 0 0) u_v_99) (fun c8 => ?_) (fun c8 => ?_)
        · refine Sc (eq_up u_i4 (rfl : Ui (-1) (-1))) (fun c9 => ?_) (fun c9 => ?_)
          · refine Sc (le_up u_v_99 u_i2) (fun c10 => ?_) (fun c10 => ?_)
            · exact (ih dp e 2 _ _ _ _ _ _ _ _ _ _ _ _ _ _ _ _ _ _ u_I u_L u_i1 u_i2 u_i3 u_i4 u_i5 u_v_99 u_i7)
            · refine Sc (le_up u_v_99 u_i5) (fun c11 => ?_) (fun c11 => ?_)
              · refine Sg (fun g12 => ?_)
                exact (ih dp e 1 _ _ _ _ _ _ _ _ _ _ _ _ _ _ _ _ _ _ u_I u_L u_i1 u_i2 u_i3 u_i7 u_i5 u_v_99 (ui_add u_i7 (rfl : Ui (Int32.ofInt (1)) (1)) g12))
              · refine Sg (fun g13 => ?_)
                exact (ih dp e 1 _ _ _ _ _ _ _ _ _ _ _ _ _ _ _ _ _ _ u_I u_L u_i1 u_i2 u_i3 u_i7 u_v_99 u_v_99 (ui_add u_i7 (rfl : Ui (Int32.ofInt (1)) (1)) g13))
          · exact (ih dp e 2 _ _ _ _ _ _ _ _ _ _ _ _ _ _ _ _ _ _ u_I u_L u_i1 u_i2 u_i3 u_i4 u_i5 u_v_99 u_i7)
        · refine Sc (eq_up u_i4 (rfl : Ui (-1) (-1))) (fun c14 => ?_) (fun c14 => ?_)
          · refine Sc (le_up (rfl : Ui (0) (0)) u_i2) (fun c15 => ?_) (fun c15 => ?_)
            · exact (ih dp e 2 _ _ _ _ _ _ _ _ _ _ _ _ _ _ _ _ _ _ u_I u_L u_i1 u_i2 u_i3 u_i4 u_i5 (rfl : Ui (0) (0)) u_i7)
            · refine Sc (le_up (rfl : Ui (0) (0)) u_i5) (fun c16 => ?_) (fun c16 => ?_)
              · refine Sg (fun g17 => ?_)
                exact (ih dp e 1 _ _ _ _ _ _ _ _ _ _ _ _ _ _ _ _ _ _ u_I u_L u_i1 u_i2 u_i3 u_i7 u_i5 (rfl : Ui (0) (0)) (ui_add u_i7 (rfl : Ui (Int32.ofInt (1)) (1)) g17))
              · refine Sg (fun g18 => ?_)
                exact (ih dp e 1 _ _ _ _ _ _ _ _ _ _ _ _ _ _ _ _ _ _ u_I u_L u_i1 u_i2 u_i3 u_i7 (rfl : Ui (0) (0)) (rfl : Ui (0) (0)) (ui_add u_i7 (rfl : Ui (Int32.ofInt (1)) (1)) g18))
          · exact (ih dp e 2 _ _ _ _ _ _ _ _ _ _ _ _ _ _ _ _ _ _ u_I u_L u_i1 u_i2 u_i3 u_i4 u_i5 (rfl : Ui (0) (0)) u_i7)
    refine Sc Iff.rfl (fun _ => ?_) (fun _ => ?_)
    · refine Sc (le_up u_i6 u_i5) (fun c1 => ?_) (fun c1 => ?_)
      · refine Sg (fun g2 => ?_)
        exact (ih dp e 1 _ _ _ _ _ _ _ _ _ _ _ _ _ _ _ _ _ _ u_I u_L u_i1 u_i2 u_i3 u_i4 u_i5 u_i6 (ui_add u_i7 (rfl : Ui (Int32.ofInt (1)) (1)) g2))
      · refine Sg (fun g3 => ?_)
        exact (ih dp e 1 _ _ _ _ _ _ _ _ _ _ _ _ _ _ _ _ _ _ u_I u_L u_i1 u_i2 u_i3 u_i4 u_i6 u_i6 (ui_add u_i7 (rfl : Ui (Int32.ofInt (1)) (1)) g3))
    exact Sn
set_option maxHeartbeats 4000000 in
set_option maxRecDepth 100000 in
def kf_302 : Nat → Nat → EN → Nat → JI → JI → Int → Int → Int → Int → Int → Option (Int × JI × JI)
  | 0, _, _, _, _, _, _, _, _, _, _ => none
  | n + 1, dp, e, lab, I, L, i1, i4, i5, i6, j2 =>
    if lab = 0 then (stI (w2 I 105 0 0) (fun I_2 => (if 1 ≤ dp then ((kf_193 n (dp - 1) e 0 I_2 L i1 0 1000000).bind (fun ⟨x0_11, I0_11, L0_11⟩ => (if x0_11 = 0 then (if 1 ≤ dp then ((kf_194 n (dp - 1) e 0 I0_11 L0_11 (-1)).bind (fun ⟨x1_19, I1_19, L1_19⟩ => (some ((x1_19 : Int), I1_19, L1_19)))) else none) else (kf_302 n dp e 1 I0_11 L0_11 i1 0 0 0 i1)))) else none)))
    else if lab = 1 then (if 5 ≤ i5 then (kf_302 n dp e 3 I L i1 i4 0 0 j2) else (kf_302 n dp e 2 I L i1 i4 i5 0 j2))
    else if lab = 2 then (if 3 ≤ i6 then (if -2147483648 ≤ i5 + 1 ∧ i5 + 1 ≤ 2147483647 then (kf_302 n dp e 1 I L i1 i4 (i5 + 1) 0 j2) else none) else (if (-9223372036854775808 ≤ j2 * 1103 ∧ j2 * 1103 ≤ 9223372036854775807) ∧ (-9223372036854775808 ≤ (j2 * 1103) + 12345 ∧ (j2 * 1103) + 12345 ≤ 9223372036854775807) ∧ (-9223372036854775807 ≤ ((j2 * 1103) + 12345)) then (stI (Int.tmod ((j2 * 1103) + 12345) 1000003) (fun v_60 => (if -2147483648 ≤ 0 + i6 ∧ 0 + i6 ≤ 2147483647 then (if 0 ≤ (0 + i6) ∧ (0 + i6) < 1570 then (if -9223372036854775808 ≤ (I 107 (0 + i6)) + 1 ∧ (I 107 (0 + i6)) + 1 ≤ 9223372036854775807 then (if ¬ (((I 107 (0 + i6)) + 1) = 0) then (if (-2147483648 ≤ 3 * i5 ∧ 3 * i5 ≤ 2147483647) ∧ (-2147483648 ≤ (3 * i5) + i6 ∧ (3 * i5) + i6 ≤ 2147483647) then (if 0 ≤ ((3 * i5) + i6) ∧ ((3 * i5) + i6) < 15 then (if (-9223372036854775807 ≤ v_60) ∧ (-2147483648 ≤ (Int.tmod v_60 ((I 107 (0 + i6)) + 1)) ∧ (Int.tmod v_60 ((I 107 (0 + i6)) + 1)) ≤ 2147483647) then (stI (w2 I 143 ((3 * i5) + i6) (Int.tmod v_60 ((I 107 (0 + i6)) + 1))) (fun I_87 => (if -2147483648 ≤ i6 + 1 ∧ i6 + 1 ≤ 2147483647 then (kf_302 n dp e 2 I_87 L i1 i4 i5 (i6 + 1) v_60) else none))) else none) else none) else none) else none) else none) else none) else none))) else none))
    else if lab = 3 then (if 5 ≤ i5 then (stI (w2 I 105 67 1) (fun I_171 => (kf_302 n dp e 4 I_171 L i1 i4 0 0 j2))) else (if -2147483648 ≤ 3 * i5 ∧ 3 * i5 ≤ 2147483647 then (if 0 ≤ (3 * i5) ∧ (3 * i5) < 15 then (if -2147483648 ≤ (3 * i5) + 1 ∧ (3 * i5) + 1 ≤ 2147483647 then (if 0 ≤ ((3 * i5) + 1) ∧ ((3 * i5) + 1) < 15 then (if -2147483648 ≤ (3 * i5) + 2 ∧ (3 * i5) + 2 ≤ 2147483647 then (if 0 ≤ ((3 * i5) + 2) ∧ ((3 * i5) + 2) < 15 then (if 1 ≤ dp then ((kf_262 n (dp - 1) e 0 I L (I 143 (3 * i5)) (I 143 ((3 * i5) + 1)) (I 143 ((3 * i5) + 2)) 0 0 0).bind (fun ⟨x0_141, I0_141, L0_141⟩ => (if x0_141 = 0 then (if 1 ≤ dp then ((kf_194 n (dp - 1) e 0 I0_141 L0_141 (-3)).bind (fun ⟨x1_150, I1_150, L1_150⟩ => (some ((x1_150 : Int), I1_150, L1_150)))) else none) else (if 1 ≤ dp then ((kf_263 n (dp - 1) e 0 I0_141 L0_141 0 0 0).bind (fun ⟨x1_157, I1_157, L1_157⟩ => (if (-2147483648 ≤ i4 + x1_157 ∧ i4 + x1_157 ≤ 2147483647) ∧ (-2147483648 ≤ i5 + 1 ∧ i5 + 1 ≤ 2147483647) then (kf_302 n dp e 3 I1_157 L1_157 i1 (i4 + x1_157) (i5 + 1) 0 j2) else none))) else none)))) else none) else none) else none) else none) else none) else none) else none))
    else if lab = 4 then (if 15 ≤ i5 then (if 1 ≤ dp then ((kf_194 n (dp - 1) e 0 I L i4).bind (fun ⟨x0_207, I0_207, L0_207⟩ => (some ((x0_207 : Int), I0_207, L0_207)))) else none) else (if 0 ≤ i5 ∧ i5 < 15 then (if 0 ≤ i5 ∧ i5 < 15 then (stI (w2 I 142 i5 (I 143 i5)) (fun I_197 => (if -2147483648 ≤ i5 + 1 ∧ i5 + 1 ≤ 2147483647 then (kf_302 n dp e 4 I_197 L i1 i4 (i5 + 1) 0 j2) else none))) else none) else none))
    else none
set_option maxRecDepth 100000 in
theorem ke_302_0 (n : Nat) (dp : Nat) (e : EN) (I : JI) (L : JI) (i1 : Int) (i4 : Int) (i5 : Int) (i6 : Int) (j2 : Int) : kf_302 (n + 1) dp e 0 I L i1 i4 i5 i6 j2 = (stI (w2 I 105 0 0) (fun I_2 => (if 1 ≤ dp then ((kf_193 n (dp - 1) e 0 I_2 L i1 0 1000000).bind (fun ⟨x0_11, I0_11, L0_11⟩ => (if x0_11 = 0 then (if 1 ≤ dp then ((kf_194 n (dp - 1) e 0 I0_11 L0_11 (-1)).bind (fun ⟨x1_19, I1_19, L1_19⟩ => (some ((x1_19 : Int), I1_19, L1_19)))) else none) else (kf_302 n dp e 1 I0_11 L0_11 i1 0 0 0 i1)))) else none))) := by rw [kf_302.eq_2, if_pos (show (0 : Nat) = 0 from rfl)]
set_option maxRecDepth 100000 in
theorem ke_302_1 (n : Nat) (dp : Nat) (e : EN) (I : JI) (L : JI) (i1 : Int) (i4 : Int) (i5 : Int) (i6 : Int) (j2 : Int) : kf_302 (n + 1) dp e 1 I L i1 i4 i5 i6 j2 = (if 5 ≤ i5 then (kf_302 n dp e 3 I L i1 i4 0 0 j2) else (kf_302 n dp e 2 I L i1 i4 i5 0 j2)) := by rw [kf_302.eq_2, if_neg (show ¬ ((1 : Nat) = 0) by decide), if_pos (show (1 : Nat) = 1 from rfl)]
set_option maxRecDepth 100000 in
theorem ke_302_2 (n : Nat) (dp : Nat) (e : EN) (I : JI) (L : JI) (i1 : Int) (i4 : Int) (i5 : Int) (i6 : Int) (j2 : Int) : kf_302 (n + 1) dp e 2 I L i1 i4 i5 i6 j2 = (if 3 ≤ i6 then (if -2147483648 ≤ i5 + 1 ∧ i5 + 1 ≤ 2147483647 then (kf_302 n dp e 1 I L i1 i4 (i5 + 1) 0 j2) else none) else (if (-9223372036854775808 ≤ j2 * 1103 ∧ j2 * 1103 ≤ 9223372036854775807) ∧ (-9223372036854775808 ≤ (j2 * 1103) + 12345 ∧ (j2 * 1103) + 12345 ≤ 9223372036854775807) ∧ (-9223372036854775807 ≤ ((j2 * 1103) + 12345)) then (stI (Int.tmod ((j2 * 1103) + 12345) 1000003) (fun v_60 => (if -2147483648 ≤ 0 + i6 ∧ 0 + i6 ≤ 2147483647 then (if 0 ≤ (0 + i6) ∧ (0 + i6) < 1570 then (if -9223372036854775808 ≤ (I 107 (0 + i6)) + 1 ∧ (I 107 (0 + i6)) + 1 ≤ 9223372036854775807 then (if ¬ (((I 107 (0 + i6)) + 1) = 0) then (if (-2147483648 ≤ 3 * i5 ∧ 3 * i5 ≤ 2147483647) ∧ (-2147483648 ≤ (3 * i5) + i6 ∧ (3 * i5) + i6 ≤ 2147483647) then (if 0 ≤ ((3 * i5) + i6) ∧ ((3 * i5) + i6) < 15 then (if (-9223372036854775807 ≤ v_60) ∧ (-2147483648 ≤ (Int.tmod v_60 ((I 107 (0 + i6)) + 1)) ∧ (Int.tmod v_60 ((I 107 (0 + i6)) + 1)) ≤ 2147483647) then (stI (w2 I 143 ((3 * i5) + i6) (Int.tmod v_60 ((I 107 (0 + i6)) + 1))) (fun I_87 => (if -2147483648 ≤ i6 + 1 ∧ i6 + 1 ≤ 2147483647 then (kf_302 n dp e 2 I_87 L i1 i4 i5 (i6 + 1) v_60) else none))) else none) else none) else none) else none) else none) else none) else none))) else none)) := by rw [kf_302.eq_2, if_neg (show ¬ ((2 : Nat) = 0) by decide), if_neg (show ¬ ((2 : Nat) = 1) by decide), if_pos (show (2 : Nat) = 2 from rfl)]
set_option maxRecDepth 100000 in
theorem ke_302_3 (n : Nat) (dp : Nat) (e : EN) (I : JI) (L : JI) (i1 : Int) (i4 : Int) (i5 : Int) (i6 : Int) (j2 : Int) : kf_302 (n + 1) dp e 3 I L i1 i4 i5 i6 j2 = (if 5 ≤ i5 then (stI (w2 I 105 67 1) (fun I_171 => (kf_302 n dp e 4 I_171 L i1 i4 0 0 j2))) else (if -2147483648 ≤ 3 * i5 ∧ 3 * i5 ≤ 2147483647 then (if 0 ≤ (3 * i5) ∧ (3 * i5) < 15 then (if -2147483648 ≤ (3 * i5) + 1 ∧ (3 * i5) + 1 ≤ 2147483647 then (if 0 ≤ ((3 * i5) + 1) ∧ ((3 * i5) + 1) < 15 then (if -2147483648 ≤ (3 * i5) + 2 ∧ (3 * i5) + 2 ≤ 2147483647 then (if 0 ≤ ((3 * i5) + 2) ∧ ((3 * i5) + 2) < 15 then (if 1 ≤ dp then ((kf_262 n (dp - 1) e 0 I L (I 143 (3 * i5)) (I 143 ((3 * i5) + 1)) (I 143 ((3 * i5) + 2)) 0 0 0).bind (fun ⟨x0_141, I0_141, L0_141⟩ => (if x0_141 = 0 then (if 1 ≤ dp then ((kf_194 n (dp - 1) e 0 I0_141 L0_141 (-3)).bind (fun ⟨x1_150, I1_150, L1_150⟩ => (some ((x1_150 : Int), I1_150, L1_150)))) else none) else (if 1 ≤ dp then ((kf_263 n (dp - 1) e 0 I0_141 L0_141 0 0 0).bind (fun ⟨x1_157, I1_157, L1_157⟩ => (if (-2147483648 ≤ i4 + x1_157 ∧ i4 + x1_157 ≤ 2147483647) ∧ (-2147483648 ≤ i5 + 1 ∧ i5 + 1 ≤ 2147483647) then (kf_302 n dp e 3 I1_157 L1_157 i1 (i4 + x1_157) (i5 + 1) 0 j2) else none))) else none)))) else none) else none) else none) else none) else none) else none) else none)) := by rw [kf_302.eq_2, if_neg (show ¬ ((3 : Nat) = 0) by decide), if_neg (show ¬ ((3 : Nat) = 1) by decide), if_neg (show ¬ ((3 : Nat) = 2) by decide), if_pos (show (3 : Nat) = 3 from rfl)]
set_option maxRecDepth 100000 in
theorem ke_302_4 (n : Nat) (dp : Nat) (e : EN) (I : JI) (L : JI) (i1 : Int) (i4 : Int) (i5 : Int) (i6 : Int) (j2 : Int) : kf_302 (n + 1) dp e 4 I L i1 i4 i5 i6 j2 = (if 15 ≤ i5 then (if 1 ≤ dp then ((kf_194 n (dp - 1) e 0 I L i4).bind (fun ⟨x0_207, I0_207, L0_207⟩ => (some ((x0_207 : Int), I0_207, L0_207)))) else none) else (if 0 ≤ i5 ∧ i5 < 15 then (if 0 ≤ i5 ∧ i5 < 15 then (stI (w2 I 142 i5 (I 143 i5)) (fun I_197 => (if -2147483648 ≤ i5 + 1 ∧ i5 + 1 ≤ 2147483647 then (kf_302 n dp e 4 I_197 L i1 i4 (i5 + 1) 0 j2) else none))) else none) else none)) := by rw [kf_302.eq_2, if_neg (show ¬ ((4 : Nat) = 0) by decide), if_neg (show ¬ ((4 : Nat) = 1) by decide), if_neg (show ¬ ((4 : Nat) = 2) by decide), if_neg (show ¬ ((4 : Nat) = 3) by decide), if_pos (show (4 : Nat) = 4 from rfl)]
set_option maxHeartbeats 8000000 in
set_option maxRecDepth 100000 in
theorem ks_302 : ∀ (n : Nat) (dp : Nat) (e : EN) (lab : Nat) (I : Nat → Nat → Int32) (I' : JI) (L : Nat → Nat → Int64) (L' : JI) (i1 : Int32) (i1' : Int) (i4 : Int32) (i4' : Int) (i5 : Int32) (i5' : Int) (i6 : Int32) (i6' : Int) (j2 : Int64) (j2' : Int), Rli I I' → Rll L L' → Ui i1 i1' → Ui i4 i4' → Ui i5 i5' → Ui i6 i6' → Ul j2 j2' → Sim R3 (g_302 n dp e lab I L i1 i4 i5 i6 j2) (kf_302 n dp e lab I' L' i1' i4' i5' i6' j2') := by
  intro n
  induction n with
  | zero => intros; rw [kf_302.eq_1]; exact Sn
  | succ n ih =>
    intro dp e lab I I' L L' i1 i1' i4 i4' i5 i5' i6 i6' j2 j2' u_I u_L u_i1 u_i4 u_i5 u_i6 u_j2
    rw [g_302.eq_2, kf_302.eq_2]
    refine Sc Iff.rfl (fun _ => ?_) (fun _ => ?_)
    · refine SsJ (ri_up u_I (rfl : ((0 : Nat) : Int) = 0) (rfl : Ui (0) (0))) (fun I_2 I_2' u_I_2 => ?_)
      refine Sc Iff.rfl (fun c1 => ?_) (fun _ => Sn)
      refine Sb3 (ks_193 n (dp - 1) e 0 _ _ _ _ _ _ _ _ _ _ u_I_2 u_L (ul_i2l u_i1) (rfl : Ul (0) (0)) (rfl : Ul (1000000) (1000000))) (fun x0_11 x0_11' I0_11 I0_11' L0_11 L0_11' u_x0_11 u_I0_11 u_L0_11 => ?_)
      refine Sc (eq_up u_x0_11 (rfl : Ui 0 0)) (fun c2 => ?_) (fun c2 => ?_)
      · refine Sc Iff.rfl (fun c3 => ?_) (fun _ => Sn)
        refine Sb3 (ks_194 n (dp - 1) e 0 _ _ _ _ _ _ u_I0_11 u_L0_11 (rfl : Ui (-1) (-1))) (fun x1_19 x1_19' I1_19 I1_19' L1_19 L1_19' u_x1_19 u_I1_19 u_L1_19 => ?_)
        exact Sr ⟨u_x1_19, u_I1_19, u_L1_19⟩
      · exact (ih dp e 1 _ _ _ _ _ _ _ _ _ _ _ _ _ _ u_I0_11 u_L0_11 u_i1 (rfl : Ui (0) (0)) (rfl : Ui (0) (0)) (rfl : Ui 0 0) (ul_i2l u_i1))
    refine Sc Iff.rfl (fun _ => ?_) (fun _ => ?_)
    · refine Sc (le_up (rfl : Ui (5) (5)) u_i5) (fun c1 => ?_) (fun c1 => ?_)
      · exact (ih dp e 3 _ _ _ _ _ _ _ _ _ _ _ _ _ _ u_I u_L u_i1 u_i4 (rfl : Ui (0) (0)) (rfl : Ui 0 0) u_j2)
      · exact (ih dp e 2 _ _ _ _ _ _ _ _ _ _ _ _ _ _ u_I u_L u_i1 u_i4 u_i5 (rfl : Ui (0) (0)) u_j2)
    refine Sc Iff.rfl (fun _ => ?_) (fun _ => ?_)
    · refine Sc (le_up (rfl : Ui (3) (3)) u_i6) (fun c1 => ?_) (fun c1 => ?_)
      · refine Sg (fun g2 => ?_)
        exact (ih dp e 1 _ _ _ _ _ _ _ _ _ _ _ _ _ _ u_I u_L u_i1 u_i4 (ui_add u_i5 (rfl : Ui (Int32.ofInt (1)) (1)) g2) (rfl : Ui 0 0) u_j2)
      · refine Sg (fun g3 => ?_)
        refine SsL (ul_rem (ul_add (ul_mul u_j2 (rfl : Ul (1103) (1103)) g3.1) (rfl : Ul (12345) (12345)) g3.2.1) (rfl : Ul (1000003) (1000003)) g3.2.2) (fun v_60 v_60' u_v_60 => ?_)
        refine Sg (fun g4 => ?_)
        refine Sc (ix_up (ui_add (rfl : Ui (0) (0)) u_i6 g4)) (fun c5 => ?_) (fun _ => Sn)
        refine Sg (fun g6 => ?_)
        refine Sc (not_congr (leq_up (ul_add (ul_i2l (ui_rd (a := 107) u_I (ui_add (rfl : Ui (0) (0)) u_i6 g4) c5.1)) (rfl : Ul (1) (1)) g6) (rfl : Ul 0 0))) (fun c7 => ?_) (fun _ => Sn)
        refine Sg (fun g8 => ?_)
        refine Sc (ix_up (ui_add (ui_mul (rfl : Ui (3) (3)) u_i5 g8.1) u_i6 g8.2)) (fun c9 => ?_) (fun _ => Sn)
        refine Sg (fun g10 => ?_)
        refine SsJ (ri_up u_I (kc_up (ui_add (ui_mul (rfl : Ui (3) (3)) u_i5 g8.1) u_i6 g8.2) c9.1) (ui_l2i (ul_rem u_v_60 (ul_add (ul_i2l (ui_rd (a := 107) u_I (ui_add (rfl : Ui (0) (0)) u_i6 g4) c5.1)) (rfl : Ul (1) (1)) g6) g10.1) g10.2)) (fun I_87 I_87' u_I_87 => ?_)
        refine Sg (fun g11 => ?_)
        exact (ih dp e 2 _ _ _ _ _ _ _ _ _ _ _ _ _ _ u_I_87 u_L u_i1 u_i4 u_i5 (ui_add u_i6 (rfl : Ui (Int32.ofInt (1)) (1)) g11) u_v_60)
    refine Sc Iff.rfl (fun _ => ?_) (fun _ => ?_)
    · refine Sc (le_up (rfl : Ui (5) (5)) u_i5) (fun c1 => ?_) (fun c1 => ?_)
      · refine SsJ (ri_up u_I (rfl : ((67 : Nat) : Int) = 67) (rfl : Ui (1) (1))) (fun I_171 I_171' u_I_171 => ?_)
        exact (ih dp e 4 _ _ _ _ _ _ _ _ _ _ _ _ _ _ u_I_171 u_L u_i1 u_i4 (rfl : Ui (0) (0)) (rfl : Ui 0 0) u_j2)
      · refine Sg (fun g2 => ?_)
        refine Sc (ix_up (ui_mul (rfl : Ui (3) (3)) u_i5 g2)) (fun c3 => ?_) (fun _ => Sn)
        refine Sg (fun g4 => ?_)
        refine Sc (ix_up (ui_add (ui_mul (rfl : Ui (3) (3)) u_i5 g2) (rfl : Ui (1) (1)) g4)) (fun c5 => ?_) (fun _ => Sn)
        refine Sg (fun g6 => ?_)
        refine Sc (ix_up (ui_add (ui_mul (rfl : Ui (3) (3)) u_i5 g2) (rfl : Ui (2) (2)) g6)) (fun c7 => ?_) (fun _ => Sn)
        refine Sc Iff.rfl (fun c8 => ?_) (fun _ => Sn)
        refine Sb3 (ks_262 n (dp - 1) e 0 _ _ _ _ _ _ _ _ _ _ _ _ _ _ _ _ u_I u_L (ui_rd (a := 143) u_I (ui_mul (rfl : Ui (3) (3)) u_i5 g2) c3.1) (ui_rd (a := 143) u_I (ui_add (ui_mul (rfl : Ui (3) (3)) u_i5 g2) (rfl : Ui (1) (1)) g4) c5.1) (ui_rd (a := 143) u_I (ui_add (ui_mul (rfl : Ui (3) (3)) u_i5 g2) (rfl : Ui (2) (2)) g6) c7.1) (rfl : Ui 0 0) (rfl : Ui 0 0) (rfl : Ui 0 0)) (fun x0_141 x0_141' I0_141 I0_141' L0_141 L0_141' u_x0_141 u_I0_141 u_L0_141 => ?_)
        refine Sc (eq_up u_x0_141 (rfl : Ui 0 0)) (fun c9 => ?_) (fun c9 => ?_)
        · refine Sc Iff.rfl (fun c10 => ?_) (fun _ => Sn)
          refine Sb3 (ks_194 n (dp - 1) e 0 _ _ _ _ _ _ u_I0_141 u_L0_141 (rfl : Ui (-3) (-3))) (fun x1_150 x1_150' I1_150 I1_150' L1_150 L1_150' u_x1_150 u_I1_150 u_L1_150 => ?_)
          exact Sr ⟨u_x1_150, u_I1_150, u_L1_150⟩
        · refine Sc Iff.rfl (fun c11 => ?_) (fun _ => Sn)
          refine Sb3 (ks_263 n (dp - 1) e 0 _ _ _ _ _ _ _ _ _ _ u_I0_141 u_L0_141 (rfl : Ui 0 0) (rfl : Ui 0 0) (rfl : Ui 0 0)) (fun x1_157 x1_157' I1_157 I1_157' L1_157 L1_157' u_x1_157 u_I1_157 u_L1_157 => ?_)
          refine Sg (fun g12 => ?_)
          exact (ih dp e 3 _ _ _ _ _ _ _ _ _ _ _ _ _ _ u_I1_157 u_L1_157 u_i1 (ui_add u_i4 u_x1_157 g12.1) (ui_add u_i5 (rfl : Ui (Int32.ofInt (1)) (1)) g12.2) (rfl : Ui 0 0) u_j2)
    refine Sc Iff.rfl (fun _ => ?_) (fun _ => ?_)
    · refine Sc (le_up (rfl : Ui (15) (15)) u_i5) (fun c1 => ?_) (fun c1 => ?_)
      · refine Sc Iff.rfl (fun c2 => ?_) (fun _ => Sn)
        refine Sb3 (ks_194 n (dp - 1) e 0 _ _ _ _ _ _ u_I u_L u_i4) (fun x0_207 x0_207' I0_207 I0_207' L0_207 L0_207' u_x0_207 u_I0_207 u_L0_207 => ?_)
        exact Sr ⟨u_x0_207, u_I0_207, u_L0_207⟩
      · refine Sc (ix_up u_i5) (fun c3 => ?_) (fun _ => Sn)
        refine Sc (ix_up u_i5) (fun c4 => ?_) (fun _ => Sn)
        refine SsJ (ri_up u_I (kc_up u_i5 c4.1) (ui_rd (a := 143) u_I u_i5 c4.1)) (fun I_197 I_197' u_I_197 => ?_)
        refine Sg (fun g5 => ?_)
        exact (ih dp e 4 _ _ _ _ _ _ _ _ _ _ _ _ _ _ u_I_197 u_L u_i1 u_i4 (ui_add u_i5 (rfl : Ui (Int32.ofInt (1)) (1)) g5) (rfl : Ui 0 0) u_j2)
    exact Sn
set_option maxHeartbeats 4000000 in
set_option maxRecDepth 100000 in
def kf_303 : Nat → Nat → EN → Nat → JI → JI → Int → Int → Option (Int × JI × JI)
  | 0, _, _, _, _, _, _, _ => none
  | n + 1, dp, e, lab, I, L, i1, i2 =>
    if lab = 0 then (stI (w2 I 105 0 0) (fun I_2 => (if (I_2 105 67) = 0 then (some (((-1) : Int), I_2, L)) else (if 1 ≤ dp then ((kf_193 n (dp - 1) e 0 I_2 L i1 0 4).bind (fun ⟨x0_18, I0_18, L0_18⟩ => (if x0_18 = 0 then (some (((-1) : Int), I0_18, L0_18)) else (if 1 ≤ dp then ((kf_197 n (dp - 1) e 0 I0_18 L0_18 i2).bind (fun ⟨x1_25, I1_25, L1_25⟩ => (if x1_25 = 0 then (some (((-1) : Int), I1_25, L1_25)) else (if (-2147483648 ≤ 3 * i1 ∧ 3 * i1 ≤ 2147483647) ∧ (-2147483648 ≤ (3 * i1) + i2 ∧ (3 * i1) + i2 ≤ 2147483647) then (if 0 ≤ ((3 * i1) + i2) ∧ ((3 * i1) + i2) < 15 then (some (((I1_25 142 ((3 * i1) + i2)) : Int), I1_25, L1_25)) else none) else none)))) else none)))) else none))))
    else none
set_option maxRecDepth 100000 in
theorem ke_303_0 (n : Nat) (dp : Nat) (e : EN) (I : JI) (L : JI) (i1 : Int) (i2 : Int) : kf_303 (n + 1) dp e 0 I L i1 i2 = (stI (w2 I 105 0 0) (fun I_2 => (if (I_2 105 67) = 0 then (some (((-1) : Int), I_2, L)) else (if 1 ≤ dp then ((kf_193 n (dp - 1) e 0 I_2 L i1 0 4).bind (fun ⟨x0_18, I0_18, L0_18⟩ => (if x0_18 = 0 then (some (((-1) : Int), I0_18, L0_18)) else (if 1 ≤ dp then ((kf_197 n (dp - 1) e 0 I0_18 L0_18 i2).bind (fun ⟨x1_25, I1_25, L1_25⟩ => (if x1_25 = 0 then (some (((-1) : Int), I1_25, L1_25)) else (if (-2147483648 ≤ 3 * i1 ∧ 3 * i1 ≤ 2147483647) ∧ (-2147483648 ≤ (3 * i1) + i2 ∧ (3 * i1) + i2 ≤ 2147483647) then (if 0 ≤ ((3 * i1) + i2) ∧ ((3 * i1) + i2) < 15 then (some (((I1_25 142 ((3 * i1) + i2)) : Int), I1_25, L1_25)) else none) else none)))) else none)))) else none)))) := by rw [kf_303.eq_2, if_pos (show (0 : Nat) = 0 from rfl)]
set_option maxHeartbeats 8000000 in
set_option maxRecDepth 100000 in
theorem ks_303 : ∀ (n : Nat) (dp : Nat) (e : EN) (lab : Nat) (I : Nat → Nat → Int32) (I' : JI) (L : Nat → Nat → Int64) (L' : JI) (i1 : Int32) (i1' : Int) (i2 : Int32) (i2' : Int), Rli I I' → Rll L L' → Ui i1 i1' → Ui i2 i2' → Sim R3 (g_303 n dp e lab I L i1 i2) (kf_303 n dp e lab I' L' i1' i2') := by
  intro n
  induction n with
  | zero => intros; rw [kf_303.eq_1]; exact Sn
  | succ n ih =>
    intro dp e lab I I' L L' i1 i1' i2 i2' u_I u_L u_i1 u_i2
    rw [g_303.eq_2, kf_303.eq_2]
    refine Sc Iff.rfl (fun _ => ?_) (fun _ => ?_)
    · refine SsJ (ri_up u_I (rfl : ((0 : Nat) : Int) = 0) (rfl : Ui (0) (0))) (fun I_2 I_2' u_I_2 => ?_)
      refine Sc (eq_up (u_I_2 105 67) (rfl : Ui 0 0)) (fun c1 => ?_) (fun c1 => ?_)
      · exact Sr ⟨(rfl : Ui (-1) (-1)), u_I_2, u_L⟩
      · refine Sc Iff.rfl (fun c2 => ?_) (fun _ => Sn)
        refine Sb3 (ks_193 n (dp - 1) e 0 _ _ _ _ _ _ _ _ _ _ u_I_2 u_L (ul_i2l u_i1) (rfl : Ul (0) (0)) (rfl : Ul (4) (4))) (fun x0_18 x0_18' I0_18 I0_18' L0_18 L0_18' u_x0_18 u_I0_18 u_L0_18 => ?_)
        refine Sc (eq_up u_x0_18 (rfl : Ui 0 0)) (fun c3 => ?_) (fun c3 => ?_)
        · exact Sr ⟨(rfl : Ui (-1) (-1)), u_I0_18, u_L0_18⟩
        · refine Sc Iff.rfl (fun c4 => ?_) (fun _ => Sn)
          refine Sb3 (ks_197 n (dp - 1) e 0 _ _ _ _ _ _ u_I0_18 u_L0_18 u_i2) (fun x1_25 x1_25' I1_25 I1_25' L1_25 L1_25' u_x1_25 u_I1_25 u_L1_25 => ?_)
          refine Sc (eq_up u_x1_25 (rfl : Ui 0 0)) (fun c5 => ?_) (fun c5 => ?_)
          · exact Sr ⟨(rfl : Ui (-1) (-1)), u_I1_25, u_L1_25⟩
          · refine Sg (fun g6 => ?_)
            refine Sc (ix_up (ui_add (ui_mul (rfl : Ui (3) (3)) u_i1 g6.1) u_i2 g6.2)) (fun c7 => ?_) (fun _ => Sn)
            exact Sr ⟨(ui_rd (a := 142) u_I1_25 (ui_add (ui_mul (rfl : Ui (3) (3)) u_i1 g6.1) u_i2 g6.2) c7.1), u_I1_25, u_L1_25⟩
    exact Sn
set_option maxHeartbeats 4000000 in
set_option maxRecDepth 100000 in
def kf_304 : Nat → Nat → EN → Nat → JI → JI → Int → Int → Int → Option (Int × JI × JI)
  | 0, _, _, _, _, _, _, _, _ => none
  | n + 1, dp, e, lab, I, L, i1, i2, i3 =>
    if lab = 0 then (stI (w2 I 105 0 0) (fun I_2 => (kf_304 n dp e 1 I_2 L i1 0 0)))
    else if lab = 1 then (if (I 107 6) ≤ i3 then (if i1 = 0 then (if 1 ≤ dp then ((kf_198 n (dp - 1) e 0 I L).bind (fun ⟨x0_109, I0_109, L0_109⟩ => (some ((x0_109 : Int), I0_109, L0_109)))) else none) else (if i1 = 1 then (some (((I 107 8) : Int), I, L)) else (if i1 = 2 then (some (((I 107 9) : Int), I, L)) else (if i1 = 3 then (some (((I 107 3) : Int), I, L)) else (if i1 = 4 then (some ((i2 : Int), I, L)) else (if i1 = 5 then (some (((I 107 6) : Int), I, L)) else (if i1 = 6 then (some (((I 107 7) : Int), I, L)) else (if i1 = 7 then (if 1 ≤ dp then ((kf_204 n (dp - 1) e 0 I L 0 0).bind (fun ⟨x0_155, I0_155, L0_155⟩ => (some ((x0_155 : Int), I0_155, L0_155)))) else none) else (if i1 = 8 then (some (((I 105 7) : Int), I, L)) else (if i1 = 9 then (some (((I 106 1) : Int), I, L)) else (if i1 = 10 then (some (((I 106 2) : Int), I, L)) else (if i1 = 11 then (some (((I 106 3) : Int), I, L)) else (if i1 = 12 then (some (((I 106 5) : Int), I, L)) else (if i1 = 13 then (some (((I 106 6) : Int), I, L)) else (some (((-1) : Int), I, L)))))))))))))))) else (if 1 ≤ dp then ((kf_292 n (dp - 1) e 0 I L i3 6).bind (fun ⟨x0_25, I0_25, L0_25⟩ => (if (-2147483648 ≤ i2 + x0_25 ∧ i2 + x0_25 ≤ 2147483647) ∧ (-2147483648 ≤ i3 + 1 ∧ i3 + 1 ≤ 2147483647) then (kf_304 n dp e 1 I0_25 L0_25 i1 (i2 + x0_25) (i3 + 1)) else none))) else none))
    else none
set_option maxRecDepth 100000 in
theorem ke_304_0 (n : Nat) (dp : Nat) (e : EN) (I : JI) (L : JI) (i1 : Int) (i2 : Int) (i3 : Int) : kf_304 (n + 1) dp e 0 I L i1 i2 i3 = (stI (w2 I 105 0 0) (fun I_2 => (kf_304 n dp e 1 I_2 L i1 0 0))) := by rw [kf_304.eq_2, if_pos (show (0 : Nat) = 0 from rfl)]
set_option maxRecDepth 100000 in
theorem ke_304_1 (n : Nat) (dp : Nat) (e : EN) (I : JI) (L : JI) (i1 : Int) (i2 : Int) (i3 : Int) : kf_304 (n + 1) dp e 1 I L i1 i2 i3 = (if (I 107 6) ≤ i3 then (if i1 = 0 then (if 1 ≤ dp then ((kf_198 n (dp - 1) e 0 I L).bind (fun ⟨x0_109, I0_109, L0_109⟩ => (some ((x0_109 : Int), I0_109, L0_109)))) else none) else (if i1 = 1 then (some (((I 107 8) : Int), I, L)) else (if i1 = 2 then (some (((I 107 9) : Int), I, L)) else (if i1 = 3 then (some (((I 107 3) : Int), I, L)) else (if i1 = 4 then (some ((i2 : Int), I, L)) else (if i1 = 5 then (some (((I 107 6) : Int), I, L)) else (if i1 = 6 then (some (((I 107 7) : Int), I, L)) else (if i1 = 7 then (if 1 ≤ dp then ((kf_204 n (dp - 1) e 0 I L 0 0).bind (fun ⟨x0_155, I0_155, L0_155⟩ => (some ((x0_155 : Int), I0_155, L0_155)))) else none) else (if i1 = 8 then (some (((I 105 7) : Int), I, L)) else (if i1 = 9 then (some (((I 106 1) : Int), I, L)) else (if i1 = 10 then (some (((I 106 2) : Int), I, L)) else (if i1 = 11 then (some (((I 106 3) : Int), I, L)) else (if i1 = 12 then (some (((I 106 5) : Int), I, L)) else (if i1 = 13 then (some (((I 106 6) : Int), I, L)) else (some (((-1) : Int), I, L)))))))))))))))) else (if 1 ≤ dp then ((kf_292 n (dp - 1) e 0 I L i3 6).bind (fun ⟨x0_25, I0_25, L0_25⟩ => (if (-2147483648 ≤ i2 + x0_25 ∧ i2 + x0_25 ≤ 2147483647) ∧ (-2147483648 ≤ i3 + 1 ∧ i3 + 1 ≤ 2147483647) then (kf_304 n dp e 1 I0_25 L0_25 i1 (i2 + x0_25) (i3 + 1)) else none))) else none)) := by rw [kf_304.eq_2, if_neg (show ¬ ((1 : Nat) = 0) by decide), if_pos (show (1 : Nat) = 1 from rfl)]
set_option maxHeartbeats 8000000 in
set_option maxRecDepth 100000 in
theorem ks_304 : ∀ (n : Nat) (dp : Nat) (e : EN) (lab : Nat) (I : Nat → Nat → Int32) (I' : JI) (L : Nat → Nat → Int64) (L' : JI) (i1 : Int32) (i1' : Int) (i2 : Int32) (i2' : Int) (i3 : Int32) (i3' : Int), Rli I I' → Rll L L' → Ui i1 i1' → Ui i2 i2' → Ui i3 i3' → Sim R3 (g_304 n dp e lab I L i1 i2 i3) (kf_304 n dp e lab I' L' i1' i2' i3') := by
  intro n
  induction n with
  | zero => intros; rw [kf_304.eq_1]; exact Sn
  | succ n ih =>
    intro dp e lab I I' L L' i1 i1' i2 i2' i3 i3' u_I u_L u_i1 u_i2 u_i3
    rw [g_304.eq_2, kf_304.eq_2]
    refine Sc Iff.rfl (fun _ => ?_) (fun _ => ?_)
    · refine SsJ (ri_up u_I (rfl : ((0 : Nat) : Int) = 0) (rfl : Ui (0) (0))) (fun I_2 I_2' u_I_2 => ?_)
      exact (ih dp e 1 _ _ _ _ _ _ _ _ _ _ u_I_2 u_L u_i1 (rfl : Ui (0) (0)) (rfl : Ui (0) (0)))
    refine Sc Iff.rfl (fun _ => ?_) (fun _ => ?_)
    · refine Sc (le_up (u_I 107 6) u_i3) (fun c1 => ?_) (fun c1 => ?_)
      · refine Sc (eq_up u_i1 (rfl : Ui (0) (0))) (fun c2 => ?_) (fun c2 => ?_)
        · refine Sc Iff.rfl (fun c3 => ?_) (fun _ => Sn)
          refine Sb3 (ks_198 n (dp - 1) e 0 _ _ _ _ u_I u_L) (fun x0_109 x0_109' I0_109 I0_109' L0_109 L0_109' u_x0_109 u_I0_109 u_L0_109 => ?_)
          exact Sr ⟨u_x0_109, u_I0_109, u_L0_109⟩
        · refine Sc (eq_up u_i1 (rfl : Ui (1) (1))) (fun c4 => ?_) (fun c4 => ?_)
          · exact Sr ⟨(u_I 107 8), u_I, u_L⟩
          · refine Sc (eq_up u_i1 (rfl : Ui (2) (2))) (fun c5 => ?_) (fun c5 => ?_)
            · exact Sr ⟨(u_I 107 9), u_I, u_L⟩
            · refine Sc (eq_up u_i1 (rfl : Ui (3) (3))) (fun c6 => ?_) (fun c6 => ?_)
              · exact Sr ⟨(u_I 107 3), u_I, u_L⟩
              · refine Sc (eq_up u_i1 (rfl : Ui (4) (4))) (fun c7 => ?_) (fun c7 => ?_)
                · exact Sr ⟨u_i2, u_I, u_L⟩
                · refine Sc (eq_up u_i1 (rfl : Ui (5) (5))) (fun c8 => ?_) (fun c8 => ?_)
                  · exact Sr ⟨(u_I 107 6), u_I, u_L⟩
                  · refine Sc (eq_up u_i1 (rfl : Ui (6) (6))) (fun c9 => ?_) (fun c9 => ?_)
                    · exact Sr ⟨(u_I 107 7), u_I, u_L⟩
                    · refine Sc (eq_up u_i1 (rfl : Ui (7) (7))) (fun c10 => ?_) (fun c10 => ?_)
                      · refine Sc Iff.rfl (fun c11 => ?_) (fun _ => Sn)
                        refine Sb3 (ks_204 n (dp - 1) e 0 _ _ _ _ _ _ _ _ u_I u_L (rfl : Ui 0 0) (rfl : Ui 0 0)) (fun x0_155 x0_155' I0_155 I0_155' L0_155 L0_155' u_x0_155 u_I0_155 u_L0_155 => ?_)
                        exact Sr ⟨u_x0_155, u_I0_155, u_L0_155⟩
                      · refine Sc (eq_up u_i1 (rfl : Ui (8) (8))) (fun c12 => ?_) (fun c12 => ?_)
                        · exact Sr ⟨(u_I 105 7), u_I, u_L⟩
                        · refine Sc (eq_up u_i1 (rfl : Ui (9) (9))) (fun c13 => ?_) (fun c13 => ?_)
                          · exact Sr ⟨(u_I 106 1), u_I, u_L⟩
                          · refine Sc (eq_up u_i1 (rfl : Ui (10) (10))) (fun c14 => ?_) (fun c14 => ?_)
                            · exact Sr ⟨(u_I 106 2), u_I, u_L⟩
                            · refine Sc (eq_up u_i1 (rfl : Ui (11) (11))) (fun c15 => ?_) (fun c15 => ?_)
                              · exact Sr ⟨(u_I 106 3), u_I, u_L⟩
                              · refine Sc (eq_up u_i1 (rfl : Ui (12) (12))) (fun c16 => ?_) (fun c16 => ?_)
                                · exact Sr ⟨(u_I 106 5), u_I, u_L⟩
                                · refine Sc (eq_up u_i1 (rfl : Ui (13) (13))) (fun c17 => ?_) (fun c17 => ?_)
                                  · exact Sr ⟨(u_I 106 6), u_I, u_L⟩
                                  · exact Sr ⟨(rfl : Ui (-1) (-1)), u_I, u_L⟩
      · refine Sc Iff.rfl (fun c18 => ?_) (fun _ => Sn)
        refine Sb3 (ks_292 n (dp - 1) e 0 _ _ _ _ _ _ _ _ u_I u_L u_i3 (rfl : Ui (6) (6))) (fun x0_25 x0_25' I0_25 I0_25' L0_25 L0_25' u_x0_25 u_I0_25 u_L0_25 => ?_)
        refine Sg (fun g19 => ?_)
        exact (ih dp e 1 _ _ _ _ _ _ _ _ _ _ u_I0_25 u_L0_25 u_i1 (ui_add u_i2 u_x0_25 g19.1) (ui_add u_i3 (rfl : Ui (Int32.ofInt (1)) (1)) g19.2))
    exact Sn
set_option maxHeartbeats 4000000 in
set_option maxRecDepth 100000 in
def kf_305 : Nat → Nat → EN → Nat → JI → JI → Option (Int × JI × JI)
  | 0, _, _, _, _, _ => none
  | n + 1, dp, e, lab, I, L =>
    if lab = 0 then (stI (w2 I 105 0 0) (fun I_2 => (some (((I_2 105 1) : Int), I_2, L))))
    else none
set_option maxRecDepth 100000 in
theorem ke_305_0 (n : Nat) (dp : Nat) (e : EN) (I : JI) (L : JI) : kf_305 (n + 1) dp e 0 I L = (stI (w2 I 105 0 0) (fun I_2 => (some (((I_2 105 1) : Int), I_2, L)))) := by rw [kf_305.eq_2, if_pos (show (0 : Nat) = 0 from rfl)]
set_option maxHeartbeats 8000000 in
set_option maxRecDepth 100000 in
theorem ks_305 : ∀ (n : Nat) (dp : Nat) (e : EN) (lab : Nat) (I : Nat → Nat → Int32) (I' : JI) (L : Nat → Nat → Int64) (L' : JI), Rli I I' → Rll L L' → Sim R3 (g_305 n dp e lab I L) (kf_305 n dp e lab I' L') := by
  intro n
  induction n with
  | zero => intros; rw [kf_305.eq_1]; exact Sn
  | succ n ih =>
    intro dp e lab I I' L L' u_I u_L
    rw [g_305.eq_2, kf_305.eq_2]
    refine Sc Iff.rfl (fun _ => ?_) (fun _ => ?_)
    · refine SsJ (ri_up u_I (rfl : ((0 : Nat) : Int) = 0) (rfl : Ui (0) (0))) (fun I_2 I_2' u_I_2 => ?_)
      exact Sr ⟨(u_I_2 105 1), u_I_2, u_L⟩
    exact Sn
set_option maxHeartbeats 4000000 in
set_option maxRecDepth 100000 in
def kf_41 : Nat → Nat → EN → Nat → JI → JI → Int → Nat → Option (Int × JI × JI)
  | 0, _, _, _, _, _, _, _ => none
  | n + 1, dp, e, lab, I, L, i2, s1 =>
    if lab = 0 then (if (I 104 3) = 1 then (if (s1 < 13) ∧ (2 ≤ dp) then (if (-2147483648 ≤ (I 104 5) - (I 104 4) ∧ (I 104 5) - (I 104 4) ≤ 2147483647) ∧ ((sLen.getD s1 0) < 2147483648) then (if ((I 104 5) - (I 104 4)) = (((sLen.getD s1 0) : Nat) : Int) then (kf_41 n dp e 1 I L 0 s1) else (some ((0 : Int), I, L))) else none) else none) else (some ((0 : Int), I, L)))
    else if lab = 1 then (if (s1 < 13) ∧ (2 ≤ dp) then (if (sLen.getD s1 0) < 2147483648 then (if (((sLen.getD s1 0) : Nat) : Int) ≤ i2 then (some ((1 : Int), I, L)) else (if -2147483648 ≤ (I 104 4) + i2 ∧ (I 104 4) + i2 ≤ 2147483647 then (if 0 ≤ ((I 104 4) + i2) ∧ ((I 104 4) + i2) < 400 then (if (s1 < 13) ∧ ((0 ≤ i2 ∧ i2 < (((sLen.getD s1 0) : Nat) : Int)) ∧ (4 ≤ dp)) then (if (I 89 ((I 104 4) + i2)) = (sch s1 (Int32.ofInt i2)).toInt then (if -2147483648 ≤ i2 + 1 ∧ i2 + 1 ≤ 2147483647 then (kf_41 n dp e 1 I L (i2 + 1) s1) else none) else (some ((0 : Int), I, L))) else none) else none) else none)) else none) else none)
    else none
set_option maxRecDepth 100000 in
theorem ke_41_0 (n : Nat) (dp : Nat) (e : EN) (I : JI) (L : JI) (i2 : Int) (s1 : Nat) : kf_41 (n + 1) dp e 0 I L i2 s1 = (if (I 104 3) = 1 then (if (s1 < 13) ∧ (2 ≤ dp) then (if (-2147483648 ≤ (I 104 5) - (I 104 4) ∧ (I 104 5) - (I 104 4) ≤ 2147483647) ∧ ((sLen.getD s1 0) < 2147483648) then (if ((I 104 5) - (I 104 4)) = (((sLen.getD s1 0) : Nat) : Int) then (kf_41 n dp e 1 I L 0 s1) else (some ((0 : Int), I, L))) else none) else none) else (some ((0 : Int), I, L))) := by rw [kf_41.eq_2, if_pos (show (0 : Nat) = 0 from rfl)]
set_option maxRecDepth 100000 in
theorem ke_41_1 (n : Nat) (dp : Nat) (e : EN) (I : JI) (L : JI) (i2 : Int) (s1 : Nat) : kf_41 (n + 1) dp e 1 I L i2 s1 = (if (s1 < 13) ∧ (2 ≤ dp) then (if (sLen.getD s1 0) < 2147483648 then (if (((sLen.getD s1 0) : Nat) : Int) ≤ i2 then (some ((1 : Int), I, L)) else (if -2147483648 ≤ (I 104 4) + i2 ∧ (I 104 4) + i2 ≤ 2147483647 then (if 0 ≤ ((I 104 4) + i2) ∧ ((I 104 4) + i2) < 400 then (if (s1 < 13) ∧ ((0 ≤ i2 ∧ i2 < (((sLen.getD s1 0) : Nat) : Int)) ∧ (4 ≤ dp)) then (if (I 89 ((I 104 4) + i2)) = (sch s1 (Int32.ofInt i2)).toInt then (if -2147483648 ≤ i2 + 1 ∧ i2 + 1 ≤ 2147483647 then (kf_41 n dp e 1 I L (i2 + 1) s1) else none) else (some ((0 : Int), I, L))) else none) else none) else none)) else none) else none) := by rw [kf_41.eq_2, if_neg (show ¬ ((1 : Nat) = 0) by decide), if_pos (show (1 : Nat) = 1 from rfl)]
set_option maxHeartbeats 8000000 in
set_option maxRecDepth 100000 in
theorem ks_41 : ∀ (n : Nat) (dp : Nat) (e : EN) (lab : Nat) (I : Nat → Nat → Int32) (I' : JI) (L : Nat → Nat → Int64) (L' : JI) (i2 : Int32) (i2' : Int) (s1 : Nat), Rli I I' → Rll L L' → Ui i2 i2' → Sim R3 (g_41 n dp e lab I L i2 s1) (kf_41 n dp e lab I' L' i2' s1) := by
  intro n
  induction n with
  | zero => intros; rw [kf_41.eq_1]; exact Sn
  | succ n ih =>
    intro dp e lab I I' L L' i2 i2' s1 u_I u_L u_i2
    rw [g_41.eq_2, kf_41.eq_2]
    refine Sc Iff.rfl (fun _ => ?_) (fun _ => ?_)
    · refine Sc (eq_up (u_I 104 3) (rfl : Ui (1) (1))) (fun c1 => ?_) (fun c1 => ?_)
      · refine Sc Iff.rfl (fun c2 => ?_) (fun _ => Sn)
        refine Sg (fun g3 => ?_)
        refine Sc (eq_up (ui_sub (u_I 104 5) (u_I 104 4) g3.1) (ui_nI g3.2)) (fun c4 => ?_) (fun c4 => ?_)
        · exact (ih dp e 1 _ _ _ _ _ _ s1 u_I u_L (rfl : Ui (0) (0)))
        · exact Sr ⟨(rfl : Ui (0) (0)), u_I, u_L⟩
      · exact Sr ⟨(rfl : Ui (0) (0)), u_I, u_L⟩
    refine Sc Iff.rfl (fun _ => ?_) (fun _ => ?_)
    · refine Sc Iff.rfl (fun c1 => ?_) (fun _ => Sn)
      refine Sg (fun g2 => ?_)
      refine Sc (le_up (ui_nI g2) u_i2) (fun c3 => ?_) (fun c3 => ?_)
      · exact Sr ⟨(rfl : Ui (1) (1)), u_I, u_L⟩
      · refine Sg (fun g4 => ?_)
        refine Sc (ix_up (ui_add (u_I 104 4) u_i2 g4)) (fun c5 => ?_) (fun _ => Sn)
        refine Sc (and_congr Iff.rfl (and_congr (ix_up u_i2) Iff.rfl)) (fun c6 => ?_) (fun _ => Sn)
        refine Sc (eq_up (ui_rd (a := 89) u_I (ui_add (u_I 104 4) u_i2 g4) c5.1) (ui_sch s1 u_i2)) (fun c7 => ?_) (fun c7 => ?_)
        · refine Sg (fun g8 => ?_)
          exact (ih dp e 1 _ _ _ _ _ _ s1 u_I u_L (ui_add u_i2 (rfl : Ui (Int32.ofInt (1)) (1)) g8))
        · exact Sr ⟨(rfl : Ui (0) (0)), u_I, u_L⟩
    exact Sn
set_option maxHeartbeats 4000000 in
set_option maxRecDepth 100000 in
def kf_53 : Nat → Nat → EN → Nat → JI → JI → Int → Int → Int → Option (Int × JI × JI)
  | 0, _, _, _, _, _, _, _, _ => none
  | n + 1, dp, e, lab, I, L, i1, i2, i3 =>
    if lab = 0 then ((e.2.2 104 1).bind (fun b_1 => (if (b_1 < e.1) ∧ ((e.2.1 b_1).1 = 10) then (if (I b_1 11) < 16 then (if 1 ≤ dp then ((kf_37 n (dp - 1) e 0 I L 0).bind (fun ⟨I0_17, L0_17⟩ => (if 1 ≤ dp then ((kf_54 n (dp - 1) e 0 I0_17 L0_17 0 9).bind (fun ⟨x1_24, I1_24, L1_24⟩ => (if x1_24 = 0 then (some ((0 : Int), I1_24, L1_24)) else ((e.2.2 104 1).bind (fun b_33 => (if (b_33 < e.1) ∧ ((e.2.1 b_33).1 = 10) then ((e.2.2 b_33 5).bind (fun b_36 => (if ((b_36 < e.1) ∧ (((e.2.1 b_36).1 = 13) ∧ ((e.2.1 b_36).2 < (2 ^ 31)))) ∧ (0 ≤ (I b_1 11) ∧ (I b_1 11) < (((e.2.1 b_36).2 : Nat) : Int)) then (stI (w2 I1_24 b_36 (I b_1 11) (I1_24 104 6)) (fun I_44 => ((e.2.2 104 1).bind (fun b_46 => (if (b_46 < e.1) ∧ ((e.2.1 b_46).1 = 10) then ((e.2.2 b_46 6).bind (fun b_49 => (if ((b_49 < e.1) ∧ (((e.2.1 b_49).1 = 13) ∧ ((e.2.1 b_49).2 < (2 ^ 31)))) ∧ (0 ≤ (I b_1 11) ∧ (I b_1 11) < (((e.2.1 b_49).2 : Nat) : Int)) then (stI (w2 I_44 b_49 (I b_1 11) i1) (fun I_54 => (if 1 ≤ dp then ((kf_37 n (dp - 1) e 0 I_54 L1_24 0).bind (fun ⟨I2_56, L2_56⟩ => (if 1 ≤ dp then ((kf_41 n (dp - 1) e 0 I2_56 L2_56 0 1).bind (fun ⟨x3_62, I3_62, L3_62⟩ => (if x3_62 = 0 then (some ((0 : Int), I3_62, L3_62)) else (if 1 ≤ dp then ((kf_55 n (dp - 1) e 0 I3_62 L3_62 (I b_1 11)).bind (fun ⟨x4_70, I4_70, L4_70⟩ => (if x4_70 = 0 then (some ((0 : Int), I4_70, L4_70)) else (kf_53 n dp e 1 I4_70 L4_70 i1 (I b_1 11) 0)))) else none)))) else none))) else none))) else none))) else none))))) else none))) else none)))))) else none))) else none) else (some ((0 : Int), I, L))) else none)))
    else if lab = 1 then (if 400 ≤ i3 then (kf_53 n dp e 2 I L i1 i2 i3) else (if 1 ≤ dp then ((kf_41 n (dp - 1) e 0 I L 0 2).bind (fun ⟨x0_90, I0_90, L0_90⟩ => (if x0_90 = 0 then (kf_53 n dp e 2 I0_90 L0_90 i1 i2 i3) else (if 1 ≤ dp then ((kf_55 n (dp - 1) e 0 I0_90 L0_90 i2).bind (fun ⟨x1_98, I1_98, L1_98⟩ => (if x1_98 = 0 then (some ((0 : Int), I1_98, L1_98)) else (if -2147483648 ≤ i3 + 1 ∧ i3 + 1 ≤ 2147483647 then (kf_53 n dp e 1 I1_98 L1_98 i1 i2 (i3 + 1)) else none)))) else none)))) else none))
    else if lab = 2 then ((e.2.2 104 1).bind (fun b_113 => (if (b_113 < e.1) ∧ ((e.2.1 b_113).1 = 10) then (if -2147483648 ≤ i2 + 1 ∧ i2 + 1 ≤ 2147483647 then (stI (w2 I b_113 11 (i2 + 1)) (fun I_119 => (some ((1 : Int), I_119, L)))) else none) else none)))
    else none
set_option maxRecDepth 100000 in
theorem ke_53_0 (n : Nat) (dp : Nat) (e : EN) (I : JI) (L : JI) (i1 : Int) (i2 : Int) (i3 : Int) : kf_53 (n + 1) dp e 0 I L i1 i2 i3 = ((e.2.2 104 1).bind (fun b_1 => (if (b_1 < e.1) ∧ ((e.2.1 b_1).1 = 10) then (if (I b_1 11) < 16 then (if 1 ≤ dp then ((kf_37 n (dp - 1) e 0 I L 0).bind (fun ⟨I0_17, L0_17⟩ => (if 1 ≤ dp then ((kf_54 n (dp - 1) e 0 I0_17 L0_17 0 9).bind (fun ⟨x1_24, I1_24, L1_24⟩ => (if x1_24 = 0 then (some ((0 : Int), I1_24, L1_24)) else ((e.2.2 104 1).bind (fun b_33 => (if (b_33 < e.1) ∧ ((e.2.1 b_33).1 = 10) then ((e.2.2 b_33 5).bind (fun b_36 => (if ((b_36 < e.1) ∧ (((e.2.1 b_36).1 = 13) ∧ ((e.2.1 b_36).2 < (2 ^ 31)))) ∧ (0 ≤ (I b_1 11) ∧ (I b_1 11) < (((e.2.1 b_36).2 : Nat) : Int)) then (stI (w2 I1_24 b_36 (I b_1 11) (I1_24 104 6)) (fun I_44 => ((e.2.2 104 1).bind (fun b_46 => (if (b_46 < e.1) ∧ ((e.2.1 b_46).1 = 10) then ((e.2.2 b_46 6).bind (fun b_49 => (if ((b_49 < e.1) ∧ (((e.2.1 b_49).1 = 13) ∧ ((e.2.1 b_49).2 < (2 ^ 31)))) ∧ (0 ≤ (I b_1 11) ∧ (I b_1 11) < (((e.2.1 b_49).2 : Nat) : Int)) then (stI (w2 I_44 b_49 (I b_1 11) i1) (fun I_54 => (if 1 ≤ dp then ((kf_37 n (dp - 1) e 0 I_54 L1_24 0).bind (fun ⟨I2_56, L2_56⟩ => (if 1 ≤ dp then ((kf_41 n (dp - 1) e 0 I2_56 L2_56 0 1).bind (fun ⟨x3_62, I3_62, L3_62⟩ => (if x3_62 = 0 then (some ((0 : Int), I3_62, L3_62)) else (if 1 ≤ dp then ((kf_55 n (dp - 1) e 0 I3_62 L3_62 (I b_1 11)).bind (fun ⟨x4_70, I4_70, L4_70⟩ => (if x4_70 = 0 then (some ((0 : Int), I4_70, L4_70)) else (kf_53 n dp e 1 I4_70 L4_70 i1 (I b_1 11) 0)))) else none)))) else none))) else none))) else none))) else none))))) else none))) else none)))))) else none))) else none) else (some ((0 : Int), I, L))) else none))) := by rw [kf_53.eq_2, if_pos (show (0 : Nat) = 0 from rfl)]
set_option maxRecDepth 100000 in
theorem ke_53_1 (n : Nat) (dp : Nat) (e : EN) (I : JI) (L : JI) (i1 : Int) (i2 : Int) (i3 : Int) : kf_53 (n + 1) dp e 1 I L i1 i2 i3 = (if 400 ≤ i3 then (kf_53 n dp e 2 I L i1 i2 i3) else (if 1 ≤ dp then ((kf_41 n (dp - 1) e 0 I L 0 2).bind (fun ⟨x0_90, I0_90, L0_90⟩ => (if x0_90 = 0 then (kf_53 n dp e 2 I0_90 L0_90 i1 i2 i3) else (if 1 ≤ dp then ((kf_55 n (dp - 1) e 0 I0_90 L0_90 i2).bind (fun ⟨x1_98, I1_98, L1_98⟩ => (if x1_98 = 0 then (some ((0 : Int), I1_98, L1_98)) else (if -2147483648 ≤ i3 + 1 ∧ i3 + 1 ≤ 2147483647 then (kf_53 n dp e 1 I1_98 L1_98 i1 i2 (i3 + 1)) else none)))) else none)))) else none)) := by rw [kf_53.eq_2, if_neg (show ¬ ((1 : Nat) = 0) by decide), if_pos (show (1 : Nat) = 1 from rfl)]
set_option maxRecDepth 100000 in
theorem ke_53_2 (n : Nat) (dp : Nat) (e : EN) (I : JI) (L : JI) (i1 : Int) (i2 : Int) (i3 : Int) : kf_53 (n + 1) dp e 2 I L i1 i2 i3 = ((e.2.2 104 1).bind (fun b_113 => (if (b_113 < e.1) ∧ ((e.2.1 b_113).1 = 10) then (if -2147483648 ≤ i2 + 1 ∧ i2 + 1 ≤ 2147483647 then (stI (w2 I b_113 11 (i2 + 1)) (fun I_119 => (some ((1 : Int), I_119, L)))) else none) else none))) := by rw [kf_53.eq_2, if_neg (show ¬ ((2 : Nat) = 0) by decide), if_neg (show ¬ ((2 : Nat) = 1) by decide), if_pos (show (2 : Nat) = 2 from rfl)]
set_option maxHeartbeats 8000000 in
set_option maxRecDepth 100000 in
theorem ks_53 : ∀ (n : Nat) (dp : Nat) (e : EN) (lab : Nat) (I : Nat → Nat → Int32) (I' : JI) (L : Nat → Nat → Int64) (L' : JI) (i1 : Int32) (i1' : Int) (i2 : Int32) (i2' : Int) (i3 : Int32) (i3' : Int), Rli I I' → Rll L L' → Ui i1 i1' → Ui i2 i2' → Ui i3 i3' → Sim R3 (g_53 n dp e lab I L i1 i2 i3) (kf_53 n dp e lab I' L' i1' i2' i3') := by
  intro n
  induction n with
  | zero => intros; rw [kf_53.eq_1]; exact Sn
  | succ n ih =>
    intro dp e lab I I' L L' i1 i1' i2 i2' i3 i3' u_I u_L u_i1 u_i2 u_i3
    rw [g_53.eq_2, kf_53.eq_2]
    refine Sc Iff.rfl (fun _ => ?_) (fun _ => ?_)
    · refine SbE rfl (fun b_1 => ?_)
      refine Sc Iff.rfl (fun c1 => ?_) (fun _ => Sn)
      refine Sc (lt_up (u_I b_1 11) (rfl : Ui (16) (16))) (fun c2 => ?_) (fun c2 => ?_)
      · refine Sc Iff.rfl (fun c3 => ?_) (fun _ => Sn)
        refine Sb2 (ks_37 n (dp - 1) e 0 _ _ _ _ _ _ u_I u_L (rfl : Ui 0 0)) (fun I0_17 I0_17' L0_17 L0_17' u_I0_17 u_L0_17 => ?_)
        refine Sc Iff.rfl (fun c4 => ?_) (fun _ => Sn)
        refine Sb3 (ks_54 n (dp - 1) e 0 _ _ _ _ _ _ _ _ u_I0_17 u_L0_17 (rfl : Ui (0) (0)) (rfl : Ui (9) (9))) (fun x1_24 x1_24' I1_24 I1_24' L1_24 L1_24' u_x1_24 u_I1_24 u_L1_24 => ?_)
        refine Sc (eq_up u_x1_24 (rfl : Ui 0 0)) (fun c5 => ?_) (fun c5 => ?_)
        · exact Sr ⟨(rfl : Ui (0) (0)), u_I1_24, u_L1_24⟩
        · refine SbE rfl (fun b_33 => ?_)
          refine Sc Iff.rfl (fun c6 => ?_) (fun _ => Sn)
          refine SbE rfl (fun b_36 => ?_)
          refine Sc (and_congr Iff.rfl (ix_up (u_I b_1 11))) (fun c7 => ?_) (fun _ => Sn)
          refine SsJ (ri_up u_I1_24 (kc_up (u_I b_1 11) c7.2.1) (u_I1_24 104 6)) (fun I_44 I_44' u_I_44 => ?_)
          refine SbE rfl (fun b_46 => ?_)
          refine Sc Iff.rfl (fun c8 => ?_) (fun _ => Sn)
          refine SbE rfl (fun b_49 => ?_)
          refine Sc (and_congr Iff.rfl (ix_up (u_I b_1 11))) (fun c9 => ?_) (fun _ => Sn)
          refine SsJ (ri_up u_I_44 (kc_up (u_I b_1 11) c9.2.1) u_i1) (fun I_54 I_54' u_I_54 => ?_)
          refine Sc Iff.rfl (fun c10 => ?_) (fun _ => Sn)
          refine Sb2 (ks_37 n (dp - 1) e 0 _ _ _ _ _ _ u_I_54 u_L1_24 (rfl : Ui 0 0)) (fun I2_56 I2_56' L2_56 L2_56' u_I2_56 u_L2_56 => ?_)
          refine Sc Iff.rfl (fun c11 => ?_) (fun _ => Sn)
          refine Sb3 (ks_41 n (dp - 1) e 0 _ _ _ _ _ _ 1 u_I2_56 u_L2_56 (rfl : Ui 0 0)) (fun x3_62 x3_62' I3_62 I3_62' L3_62 L3_62' u_x3_62 u_I3_62 u_L3_62 => ?_)
          refine Sc (eq_up u_x3_62 (rfl : Ui 0 0)) (fun c12 => ?_) (fun c12 => ?_)
          · exact Sr ⟨(rfl : Ui (0) (0)), u_I3_62, u_L3_62⟩
          · refine Sc Iff.rfl (fun c13 => ?_) (fun _ => Sn)
            refine Sb3 (ks_55 n (dp - 1) e 0 _ _ _ _ _ _ u_I3_62 u_L3_62 (u_I b_1 11)) (fun x4_70 x4_70' I4_70 I4_70' L4_70 L4_70' u_x4_70 u_I4_70 u_L4_70 => ?_)
            refine Sc (eq_up u_x4_70 (rfl : Ui 0 0)) (fun c14 => ?_) (fun c14 => ?_)
            · exact Sr ⟨(rfl : Ui (0) (0)), u_I4_70, u_L4_70⟩
            · exact (ih dp e 1 _ _ _ _ _ _ _ _ _ _ u_I4_70 u_L4_70 u_i1 (u_I b_1 11) (rfl : Ui (0) (0)))
      · exact Sr ⟨(rfl : Ui (0) (0)), u_I, u_L⟩
    refine Sc Iff.rfl (fun _ => ?_) (fun _ => ?_)
    · refine Sc (le_up (rfl : Ui (400) (400)) u_i3) (fun c1 => ?_) (fun c1 => ?_)
      · exact (ih dp e 2 _ _ _ _ _ _ _ _ _ _ u_I u_L u_i1 u_i2 u_i3)
      · refine Sc Iff.rfl (fun c2 => ?_) (fun _ => Sn)
        refine Sb3 (ks_41 n (dp - 1) e 0 _ _ _ _ _ _ 2 u_I u_L (rfl : Ui 0 0)) (fun x0_90 x0_90' I0_90 I0_90' L0_90 L0_90' u_x0_90 u_I0_90 u_L0_90 => ?_)
        refine Sc (eq_up u_x0_90 (rfl : Ui 0 0)) (fun c3 => ?_) (fun c3 => ?_)
        · exact (ih dp e 2 _ _ _ _ _ _ _ _ _ _ u_I0_90 u_L0_90 u_i1 u_i2 u_i3)
        · refine Sc Iff.rfl (fun c4 => ?_) (fun _ => Sn)
          refine Sb3 (ks_55 n (dp - 1) e 0 _ _ _ _ _ _ u_I0_90 u_L0_90 u_i2) (fun x1_98 x1_98' I1_98 I1_98' L1_98 L1_98' u_x1_98 u_I1_98 u_L1_98 => ?_)
          refine Sc (eq_up u_x1_98 (rfl : Ui 0 0)) (fun c5 => ?_) (fun c5 => ?_)
          · exact Sr ⟨(rfl : Ui (0) (0)), u_I1_98, u_L1_98⟩
          · refine Sg (fun g6 => ?_)
            exact (ih dp e 1 _ _ _ _ _ _ _ _ _ _ u_I1_98 u_L1_98 u_i1 u_i2 (ui_add u_i3 (rfl : Ui (Int32.ofInt (1)) (1)) g6))
    refine Sc Iff.rfl (fun _ => ?_) (fun _ => ?_)
    · refine SbE rfl (fun b_113 => ?_)
      refine Sc Iff.rfl (fun c1 => ?_) (fun _ => Sn)
      refine Sg (fun g2 => ?_)
      refine SsJ (ri_up u_I (rfl : ((11 : Nat) : Int) = 11) (ui_add u_i2 (rfl : Ui (1) (1)) g2)) (fun I_119 I_119' u_I_119 => ?_)
      exact Sr ⟨(rfl : Ui (1) (1)), u_I_119, u_L⟩
    exact Sn
