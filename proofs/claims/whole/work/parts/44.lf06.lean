/-! lifted functions 06, printed by lift.py -/
set_option maxHeartbeats 4000000 in
set_option maxRecDepth 100000 in
def kf_199 : Nat → Nat → EN → Nat → JI → JI → Int → Int → Option (Int × JI × JI)
  | 0, _, _, _, _, _, _, _ => none
  | n + 1, dp, e, lab, I, L, i1, i2 =>
    if lab = 0 then (if 0 ≤ i1 ∧ i1 < 1570 then (stI (I 107 i1) (fun v_6 => (if 0 ≤ i1 ∧ i1 < 1570 then (stI (w2 I 107 i1 i2) (fun I_13 => (if 1 ≤ dp then ((kf_200 n (dp - 1) e 0 I_13 L v_6).bind (fun ⟨x0_16, I0_16, L0_16⟩ => (some ((x0_16 : Int), I0_16, L0_16)))) else none))) else none))) else none)
    else none
set_option maxRecDepth 100000 in
theorem ke_199_0 (n : Nat) (dp : Nat) (e : EN) (I : JI) (L : JI) (i1 : Int) (i2 : Int) : kf_199 (n + 1) dp e 0 I L i1 i2 = (if 0 ≤ i1 ∧ i1 < 1570 then (stI (I 107 i1) (fun v_6 => (if 0 ≤ i1 ∧ i1 < 1570 then (stI (w2 I 107 i1 i2) (fun I_13 => (if 1 ≤ dp then ((kf_200 n (dp - 1) e 0 I_13 L v_6).bind (fun ⟨x0_16, I0_16, L0_16⟩ => (some ((x0_16 : Int), I0_16, L0_16)))) else none))) else none))) else none) := by rw [kf_199.eq_2, if_pos (show (0 : Nat) = 0 from rfl)]
set_option maxHeartbeats 8000000 in
set_option maxRecDepth 100000 in
theorem ks_199 : ∀ (n : Nat) (dp : Nat) (e : EN) (lab : Nat) (I : Nat → Nat → Int32) (I' : JI) (L : Nat → Nat → Int64) (L' : JI) (i1 : Int32) (i1' : Int) (i2 : Int32) (i2' : Int), Rli I I' → Rll L L' → Ui i1 i1' → Ui i2 i2' → Sim R3 (g_199 n dp e lab I L i1 i2) (kf_199 n dp e lab I' L' i1' i2') := by
  intro n
  induction n with
  | zero => intros; rw [kf_199.eq_1]; exact Sn
  | succ n ih =>
    intro dp e lab I I' L L' i1 i1' i2 i2' u_I u_L u_i1 u_i2
    rw [g_199.eq_2, kf_199.eq_2]
    refine Sc Iff.rfl (fun _ => ?_) (fun _ => ?_)
    · refine Sc (ix_up u_i1) (fun c1 => ?_) (fun _ => Sn)
      refine SsI (ui_rd (a := 107) u_I u_i1 c1.1) (fun v_6 v_6' u_v_6 => ?_)
      refine Sc (ix_up u_i1) (fun c2 => ?_) (fun _ => Sn)
      refine SsJ (ri_up u_I (kc_up u_i1 c2.1) u_i2) (fun I_13 I_13' u_I_13 => ?_)
      refine Sc Iff.rfl (fun c3 => ?_) (fun _ => Sn)
      refine Sb3 (ks_200 n (dp - 1) e 0 _ _ _ _ _ _ u_I_13 u_L u_v_6) (fun x0_16 x0_16' I0_16 I0_16' L0_16 L0_16' u_x0_16 u_I0_16 u_L0_16 => ?_)
      exact Sr ⟨u_x0_16, u_I0_16, u_L0_16⟩
    exact Sn
set_option maxHeartbeats 4000000 in
set_option maxRecDepth 100000 in
def kf_196 : Nat → Nat → EN → Nat → JI → JI → Int → Int → Option (Int × JI × JI)
  | 0, _, _, _, _, _, _, _ => none
  | n + 1, dp, e, lab, I, L, i1, i2 =>
    if lab = 0 then (stI (w2 I 105 0 0) (fun I_2 => (if 1 ≤ dp then ((kf_197 n (dp - 1) e 0 I_2 L i1).bind (fun ⟨x0_6, I0_6, L0_6⟩ => (if x0_6 = 0 then (if 1 ≤ dp then ((kf_194 n (dp - 1) e 0 I0_6 L0_6 (-1)).bind (fun ⟨x1_26, I1_26, L1_26⟩ => (some ((x1_26 : Int), I1_26, L1_26)))) else none) else (if 1 ≤ dp then ((kf_193 n (dp - 1) e 0 I0_6 L0_6 i2 0 8).bind (fun ⟨x1_18, I1_18, L1_18⟩ => (if x1_18 = 0 then (if 1 ≤ dp then ((kf_194 n (dp - 1) e 0 I1_18 L1_18 (-1)).bind (fun ⟨x2_26, I2_26, L2_26⟩ => (some ((x2_26 : Int), I2_26, L2_26)))) else none) else (if 1 ≤ dp then ((kf_198 n (dp - 1) e 0 I1_18 L1_18).bind (fun ⟨x2_31, I2_31, L2_31⟩ => (if -2147483648 ≤ 0 + i1 ∧ 0 + i1 ≤ 2147483647 then (if 0 ≤ (0 + i1) ∧ (0 + i1) < 1570 then (if (-2147483648 ≤ x2_31 - (I2_31 107 (0 + i1)) ∧ x2_31 - (I2_31 107 (0 + i1)) ≤ 2147483647) ∧ (-2147483648 ≤ (x2_31 - (I2_31 107 (0 + i1))) + i2 ∧ (x2_31 - (I2_31 107 (0 + i1))) + i2 ≤ 2147483647) then (if ((x2_31 - (I2_31 107 (0 + i1))) + i2) ≤ 8 then (if 1 ≤ dp then ((kf_199 n (dp - 1) e 0 I2_31 L2_31 (0 + i1) i2).bind (fun ⟨x3_64, I3_64, L3_64⟩ => (some ((x3_64 : Int), I3_64, L3_64)))) else none) else (if 1 ≤ dp then ((kf_194 n (dp - 1) e 0 I2_31 L2_31 (-3)).bind (fun ⟨x3_53, I3_53, L3_53⟩ => (some ((x3_53 : Int), I3_53, L3_53)))) else none)) else none) else none) else none))) else none)))) else none)))) else none)))
    else none
set_option maxRecDepth 100000 in
theorem ke_196_0 (n : Nat) (dp : Nat) (e : EN) (I : JI) (L : JI) (i1 : Int) (i2 : Int) : kf_196 (n + 1) dp e 0 I L i1 i2 = (stI (w2 I 105 0 0) (fun I_2 => (if 1 ≤ dp then ((kf_197 n (dp - 1) e 0 I_2 L i1).bind (fun ⟨x0_6, I0_6, L0_6⟩ => (if x0_6 = 0 then (if 1 ≤ dp then ((kf_194 n (dp - 1) e 0 I0_6 L0_6 (-1)).bind (fun ⟨x1_26, I1_26, L1_26⟩ => (some ((x1_26 : Int), I1_26, L1_26)))) else none) else (if 1 ≤ dp then ((kf_193 n (dp - 1) e 0 I0_6 L0_6 i2 0 8).bind (fun ⟨x1_18, I1_18, L1_18⟩ => (if x1_18 = 0 then (if 1 ≤ dp then ((kf_194 n (dp - 1) e 0 I1_18 L1_18 (-1)).bind (fun ⟨x2_26, I2_26, L2_26⟩ => (some ((x2_26 : Int), I2_26, L2_26)))) else none) else (if 1 ≤ dp then ((kf_198 n (dp - 1) e 0 I1_18 L1_18).bind (fun ⟨x2_31, I2_31, L2_31⟩ => (if -2147483648 ≤ 0 + i1 ∧ 0 + i1 ≤ 2147483647 then (if 0 ≤ (0 + i1) ∧ (0 + i1) < 1570 then (if (-2147483648 ≤ x2_31 - (I2_31 107 (0 + i1)) ∧ x2_31 - (I2_31 107 (0 + i1)) ≤ 2147483647) ∧ (-2147483648 ≤ (x2_31 - (I2_31 107 (0 + i1))) + i2 ∧ (x2_31 - (I2_31 107 (0 + i1))) + i2 ≤ 2147483647) then (if ((x2_31 - (I2_31 107 (0 + i1))) + i2) ≤ 8 then (if 1 ≤ dp then ((kf_199 n (dp - 1) e 0 I2_31 L2_31 (0 + i1) i2).bind (fun ⟨x3_64, I3_64, L3_64⟩ => (some ((x3_64 : Int), I3_64, L3_64)))) else none) else (if 1 ≤ dp then ((kf_194 n (dp - 1) e 0 I2_31 L2_31 (-3)).bind (fun ⟨x3_53, I3_53, L3_53⟩ => (some ((x3_53 : Int), I3_53, L3_53)))) else none)) else none) else none) else none))) else none)))) else none)))) else none))) := by rw [kf_196.eq_2, if_pos (show (0 : Nat) = 0 from rfl)]
set_option maxHeartbeats 8000000 in
set_option maxRecDepth 100000 in
theorem ks_196 : ∀ (n : Nat) (dp : Nat) (e : EN) (lab : Nat) (I : Nat → Nat → Int32) (I' : JI) (L : Nat → Nat → Int64) (L' : JI) (i1 : Int32) (i1' : Int) (i2 : Int32) (i2' : Int), Rli I I' → Rll L L' → Ui i1 i1' → Ui i2 i2' → Sim R3 (g_196 n dp e lab I L i1 i2) (kf_196 n dp e lab I' L' i1' i2') := by
  intro n
  induction n with
  | zero => intros; rw [kf_196.eq_1]; exact Sn
  | succ n ih =>
    intro dp e lab I I' L L' i1 i1' i2 i2' u_I u_L u_i1 u_i2
    rw [g_196.eq_2, kf_196.eq_2]
    refine Sc Iff.rfl (fun _ => ?_) (fun _ => ?_)
    · refine SsJ (ri_up u_I (rfl : ((0 : Nat) : Int) = 0) (rfl : Ui (0) (0))) (fun I_2 I_2' u_I_2 => ?_)
      refine Sc Iff.rfl (fun c1 => ?_) (fun _ => Sn)
      refine Sb3 (ks_197 n (dp - 1) e 0 _ _ _ _ _ _ u_I_2 u_L u_i1) (fun x0_6 x0_6' I0_6 I0_6' L0_6 L0_6' u_x0_6 u_I0_6 u_L0_6 => ?_)
      refine Sc (eq_up u_x0_6 (rfl : Ui 0 0)) (fun c2 => ?_) (fun c2 => ?_)
      · refine Sc Iff.rfl (fun c3 => ?_) (fun _ => Sn)
        refine Sb3 (ks_194 n (dp - 1) e 0 _ _ _ _ _ _ u_I0_6 u_L0_6 (rfl : Ui (-1) (-1))) (fun x1_26 x1_26' I1_26 I1_26' L1_26 L1_26' u_x1_26 u_I1_26 u_L1_26 => ?_)
        exact Sr ⟨u_x1_26, u_I1_26, u_L1_26⟩
      · refine Sc Iff.rfl (fun c4 => ?_) (fun _ => Sn)
        refine Sb3 (ks_193 n (dp - 1) e 0 _ _ _ _ _ _ _ _ _ _ u_I0_6 u_L0_6 (ul_i2l u_i2) (rfl : Ul (0) (0)) (rfl : Ul (8) (8))) (fun x1_18 x1_18' I1_18 I1_18' L1_18 L1_18' u_x1_18 u_I1_18 u_L1_18 => ?_)
        refine Sc (eq_up u_x1_18 (rfl : Ui 0 0)) (fun c5 => ?_) (fun c5 => ?_)
        · refine Sc Iff.rfl (fun c6 => ?_) (fun _ => Sn)
          refine Sb3 (ks_194 n (dp - 1) e 0 _ _ _ _ _ _ u_I1_18 u_L1_18 (rfl : Ui (-1) (-1))) (fun x2_26 x2_26' I2_26 I2_26' L2_26 L2_26' u_x2_26 u_I2_26 u_L2_26 => ?_)
          exact Sr ⟨u_x2_26, u_I2_26, u_L2_26⟩
        · refine Sc Iff.rfl (fun c7 => ?_) (fun _ => Sn)
          refine Sb3 (ks_198 n (dp - 1) e 0 _ _ _ _ u_I1_18 u_L1_18) (fun x2_31 x2_31' I2_31 I2_31' L2_31 L2_31' u_x2_31 u_I2_31 u_L2_31 => ?_)
          refine Sg (fun g8 => ?_)
          refine Sc (ix_up (ui_add (rfl : Ui (0) (0)) u_i1 g8)) (fun c9 => ?_) (fun _ => Sn)
          refine Sg (fun g10 => ?_)
          refine Sc (le_up (ui_add (ui_sub u_x2_31 (ui_rd (a := 107) u_I2_31 (ui_add (rfl : Ui (0) (0)) u_i1 g8) c9.1) g10.1) u_i2 g10.2) (rfl : Ui (8) (8))) (fun c11 => ?_) (fun c11 => ?_)
          · refine Sc Iff.rfl (fun c12 => ?_) (fun _ => Sn)
            refine Sb3 (ks_199 n (dp - 1) e 0 _ _ _ _ _ _ _ _ u_I2_31 u_L2_31 (ui_add (rfl : Ui (0) (0)) u_i1 g8) u_i2) (fun x3_64 x3_64' I3_64 I3_64' L3_64 L3_64' u_x3_64 u_I3_64 u_L3_64 => ?_)
            exact Sr ⟨u_x3_64, u_I3_64, u_L3_64⟩
          · refine Sc Iff.rfl (fun c13 => ?_) (fun _ => Sn)
            refine Sb3 (ks_194 n (dp - 1) e 0 _ _ _ _ _ _ u_I2_31 u_L2_31 (rfl : Ui (-3) (-3))) (fun x3_53 x3_53' I3_53 I3_53' L3_53 L3_53' u_x3_53 u_I3_53 u_L3_53 => ?_)
            exact Sr ⟨u_x3_53, u_I3_53, u_L3_53⟩
    exact Sn
set_option maxHeartbeats 4000000 in
set_option maxRecDepth 100000 in
def kf_202 : Nat → Nat → EN → Nat → JI → JI → Int → Option (Int × JI × JI)
  | 0, _, _, _, _, _, _ => none
  | n + 1, dp, e, lab, I, L, i0 =>
    if lab = 0 then (if 1 ≤ dp then ((kf_193 n (dp - 1) e 0 I L i0 0 9).bind (fun ⟨x0_6, I0_6, L0_6⟩ => (if (x0_6 = 0) ∨ (x0_6 = 1) then (some ((x0_6 : Int), I0_6, L0_6)) else none))) else none)
    else none
set_option maxRecDepth 100000 in
theorem ke_202_0 (n : Nat) (dp : Nat) (e : EN) (I : JI) (L : JI) (i0 : Int) : kf_202 (n + 1) dp e 0 I L i0 = (if 1 ≤ dp then ((kf_193 n (dp - 1) e 0 I L i0 0 9).bind (fun ⟨x0_6, I0_6, L0_6⟩ => (if (x0_6 = 0) ∨ (x0_6 = 1) then (some ((x0_6 : Int), I0_6, L0_6)) else none))) else none) := by rw [kf_202.eq_2, if_pos (show (0 : Nat) = 0 from rfl)]
set_option maxHeartbeats 8000000 in
set_option maxRecDepth 100000 in
theorem ks_202 : ∀ (n : Nat) (dp : Nat) (e : EN) (lab : Nat) (I : Nat → Nat → Int32) (I' : JI) (L : Nat → Nat → Int64) (L' : JI) (i0 : Int32) (i0' : Int), Rli I I' → Rll L L' → Ui i0 i0' → Sim R3 (g_202 n dp e lab I L i0) (kf_202 n dp e lab I' L' i0') := by
  intro n
  induction n with
  | zero => intros; rw [kf_202.eq_1]; exact Sn
  | succ n ih =>
    intro dp e lab I I' L L' i0 i0' u_I u_L u_i0
    rw [g_202.eq_2, kf_202.eq_2]
    refine Sc Iff.rfl (fun _ => ?_) (fun _ => ?_)
    · refine Sc Iff.rfl (fun c1 => ?_) (fun _ => Sn)
      refine Sb3 (ks_193 n (dp - 1) e 0 _ _ _ _ _ _ _ _ _ _ u_I u_L (ul_i2l u_i0) (rfl : Ul (0) (0)) (rfl : Ul (9) (9))) (fun x0_6 x0_6' I0_6 I0_6' L0_6 L0_6' u_x0_6 u_I0_6 u_L0_6 => ?_)
      refine Sc (or_congr (eq_up u_x0_6 (rfl : Ui 0 0)) (eq_up u_x0_6 (rfl : Ui 1 1))) (fun c2 => ?_) (fun _ => Sn)
      exact Sr ⟨u_x0_6, u_I0_6, u_L0_6⟩
    exact Sn
set_option maxHeartbeats 4000000 in
set_option maxRecDepth 100000 in
def kf_201 : Nat → Nat → EN → Nat → JI → JI → Int → Int → Int → Option (Int × JI × JI)
  | 0, _, _, _, _, _, _, _, _ => none
  | n + 1, dp, e, lab, I, L, i1, i2, i3 =>
    if lab = 0 then (stI (w2 I 105 0 0) (fun I_2 => (if 1 ≤ dp then ((kf_202 n (dp - 1) e 0 I_2 L i1).bind (fun ⟨x0_6, I0_6, L0_6⟩ => (if x0_6 = 0 then (if 1 ≤ dp then ((kf_194 n (dp - 1) e 0 I0_6 L0_6 (-1)).bind (fun ⟨x1_49, I1_49, L1_49⟩ => (some ((x1_49 : Int), I1_49, L1_49)))) else none) else (if 1 ≤ dp then ((kf_197 n (dp - 1) e 0 I0_6 L0_6 i2).bind (fun ⟨x1_13, I1_13, L1_13⟩ => (if x1_13 = 0 then (if 1 ≤ dp then ((kf_194 n (dp - 1) e 0 I1_13 L1_13 (-1)).bind (fun ⟨x2_49, I2_49, L2_49⟩ => (some ((x2_49 : Int), I2_49, L2_49)))) else none) else (if 1 ≤ dp then ((kf_193 n (dp - 1) e 0 I1_13 L1_13 i3 0 9999).bind (fun ⟨x2_25, I2_25, L2_25⟩ => (if x2_25 = 0 then (if 1 ≤ dp then ((kf_194 n (dp - 1) e 0 I2_25 L2_25 (-1)).bind (fun ⟨x3_49, I3_49, L3_49⟩ => (some ((x3_49 : Int), I3_49, L3_49)))) else none) else (if 1 ≤ dp then (if (-2147483648 ≤ 3 * i1 ∧ 3 * i1 ≤ 2147483647) ∧ (-2147483648 ≤ 10 + (3 * i1) ∧ 10 + (3 * i1) ≤ 2147483647) ∧ (-2147483648 ≤ (10 + (3 * i1)) + i2 ∧ (10 + (3 * i1)) + i2 ≤ 2147483647) then ((kf_199 n (dp - 1) e 0 I2_25 L2_25 ((10 + (3 * i1)) + i2) i3).bind (fun ⟨x3_41, I3_41, L3_41⟩ => (some ((x3_41 : Int), I3_41, L3_41)))) else none) else none)))) else none)))) else none)))) else none)))
    else none
set_option maxRecDepth 100000 in
theorem ke_201_0 (n : Nat) (dp : Nat) (e : EN) (I : JI) (L : JI) (i1 : Int) (i2 : Int) (i3 : Int) : kf_201 (n + 1) dp e 0 I L i1 i2 i3 = (stI (w2 I 105 0 0) (fun I_2 => (if 1 ≤ dp then ((kf_202 n (dp - 1) e 0 I_2 L i1).bind (fun ⟨x0_6, I0_6, L0_6⟩ => (if x0_6 = 0 then (if 1 ≤ dp then ((kf_194 n (dp - 1) e 0 I0_6 L0_6 (-1)).bind (fun ⟨x1_49, I1_49, L1_49⟩ => (some ((x1_49 : Int), I1_49, L1_49)))) else none) else (if 1 ≤ dp then ((kf_197 n (dp - 1) e 0 I0_6 L0_6 i2).bind (fun ⟨x1_13, I1_13, L1_13⟩ => (if x1_13 = 0 then (if 1 ≤ dp then ((kf_194 n (dp - 1) e 0 I1_13 L1_13 (-1)).bind (fun ⟨x2_49, I2_49, L2_49⟩ => (some ((x2_49 : Int), I2_49, L2_49)))) else none) else (if 1 ≤ dp then ((kf_193 n (dp - 1) e 0 I1_13 L1_13 i3 0 9999).bind (fun ⟨x2_25, I2_25, L2_25⟩ => (if x2_25 = 0 then (if 1 ≤ dp then ((kf_194 n (dp - 1) e 0 I2_25 L2_25 (-1)).bind (fun ⟨x3_49, I3_49, L3_49⟩ => (some ((x3_49 : Int), I3_49, L3_49)))) else none) else (if 1 ≤ dp then (if (-2147483648 ≤ 3 * i1 ∧ 3 * i1 ≤ 2147483647) ∧ (-2147483648 ≤ 10 + (3 * i1) ∧ 10 + (3 * i1) ≤ 2147483647) ∧ (-2147483648 ≤ (10 + (3 * i1)) + i2 ∧ (10 + (3 * i1)) + i2 ≤ 2147483647) then ((kf_199 n (dp - 1) e 0 I2_25 L2_25 ((10 + (3 * i1)) + i2) i3).bind (fun ⟨x3_41, I3_41, L3_41⟩ => (some ((x3_41 : Int), I3_41, L3_41)))) else none) else none)))) else none)))) else none)))) else none))) := by rw [kf_201.eq_2, if_pos (show (0 : Nat) = 0 from rfl)]
set_option maxHeartbeats 8000000 in
set_option maxRecDepth 100000 in
theorem ks_201 : ∀ (n : Nat) (dp : Nat) (e : EN) (lab : Nat) (I : Nat → Nat → Int32) (I' : JI) (L : Nat → Nat → Int64) (L' : JI) (i1 : Int32) (i1' : Int) (i2 : Int32) (i2' : Int) (i3 : Int32) (i3' : Int), Rli I I' → Rll L L' → Ui i1 i1' → Ui i2 i2' → Ui i3 i3' → Sim R3 (g_201 n dp e lab I L i1 i2 i3) (kf_201 n dp e lab I' L' i1' i2' i3') := by
  intro n
  induction n with
  | zero => intros; rw [kf_201.eq_1]; exact Sn
  | succ n ih =>
    intro dp e lab I I' L L' i1 i1' i2 i2' i3 i3' u_I u_L u_i1 u_i2 u_i3
    rw [g_201.eq_2, kf_201.eq_2]
    refine Sc Iff.rfl (fun _ => ?_) (fun _ => ?_)
    · refine SsJ (ri_up u_I (rfl : ((0 : Nat) : Int) = 0) (rfl : Ui (0) (0))) (fun I_2 I_2' u_I_2 => ?_)
      refine Sc Iff.rfl (fun c1 => ?_) (fun _ => Sn)
      refine Sb3 (ks_202 n (dp - 1) e 0 _ _ _ _ _ _ u_I_2 u_L u_i1) (fun x0_6 x0_6' I0_6 I0_6' L0_6 L0_6' u_x0_6 u_I0_6 u_L0_6 => ?_)
      refine Sc (eq_up u_x0_6 (rfl : Ui 0 0)) (fun c2 => ?_) (fun c2 => ?_)
      · refine Sc Iff.rfl (fun c3 => ?_) (fun _ => Sn)
        refine Sb3 (ks_194 n (dp - 1) e 0 _ _ _ _ _ _ u_I0_6 u_L0_6 (rfl : Ui (-1) (-1))) (fun x1_49 x1_49' I1_49 I1_49' L1_49 L1_49' u_x1_49 u_I1_49 u_L1_49 => ?_)
        exact Sr ⟨u_x1_49, u_I1_49, u_L1_49⟩
      · refine Sc Iff.rfl (fun c4 => ?_) (fun _ => Sn)
        refine Sb3 (ks_197 n (dp - 1) e 0 _ _ _ _ _ _ u_I0_6 u_L0_6 u_i2) (fun x1_13 x1_13' I1_13 I1_13' L1_13 L1_13' u_x1_13 u_I1_13 u_L1_13 => ?_)
        refine Sc (eq_up u_x1_13 (rfl : Ui 0 0)) (fun c5 => ?_) (fun c5 => ?_)
        · refine Sc Iff.rfl (fun c6 => ?_) (fun _ => Sn)
          refine Sb3 (ks_194 n (dp - 1) e 0 _ _ _ _ _ _ u_I1_13 u_L1_13 (rfl : Ui (-1) (-1))) (fun x2_49 x2_49' I2_49 I2_49' L2_49 L2_49' u_x2_49 u_I2_49 u_L2_49 => ?_)
          exact Sr ⟨u_x2_49, u_I2_49, u_L2_49⟩
        · refine Sc Iff.rfl (fun c7 => ?_) (fun _ => Sn)
          refine Sb3 (ks_193 n (dp - 1) e 0 _ _ _ _ _ _ _ _ _ _ u_I1_13 u_L1_13 (ul_i2l u_i3) (rfl : Ul (0) (0)) (rfl : Ul (9999) (9999))) (fun x2_25 x2_25' I2_25 I2_25' L2_25 L2_25' u_x2_25 u_I2_25 u_L2_25 => ?_)
          refine Sc (eq_up u_x2_25 (rfl : Ui 0 0)) (fun c8 => ?_) (fun c8 => ?_)
          · refine Sc Iff.rfl (fun c9 => ?_) (fun _ => Sn)
            refine Sb3 (ks_194 n (dp - 1) e 0 _ _ _ _ _ _ u_I2_25 u_L2_25 (rfl : Ui (-1) (-1))) (fun x3_49 x3_49' I3_49 I3_49' L3_49 L3_49' u_x3_49 u_I3_49 u_L3_49 => ?_)
            exact Sr ⟨u_x3_49, u_I3_49, u_L3_49⟩
          · refine Sc Iff.rfl (fun c10 => ?_) (fun _ => Sn)
            refine Sg (fun g11 => ?_)
            refine Sb3 (ks_199 n (dp - 1) e 0 _ _ _ _ _ _ _ _ u_I2_25 u_L2_25 (ui_add (ui_add (rfl : Ui (10) (10)) (ui_mul (rfl : Ui (3) (3)) u_i1 g11.1) g11.2.1) u_i2 g11.2.2) u_i3) (fun x3_41 x3_41' I3_41 I3_41' L3_41 L3_41' u_x3_41 u_I3_41 u_L3_41 => ?_)
            exact Sr ⟨u_x3_41, u_I3_41, u_L3_41⟩
    exact Sn
set_option maxHeartbeats 4000000 in
set_option maxRecDepth 100000 in
def kf_204 : Nat → Nat → EN → Nat → JI → JI → Int → Int → Option (Int × JI × JI)
  | 0, _, _, _, _, _, _, _ => none
  | n + 1, dp, e, lab, I, L, i1, i2 =>
    if lab = 0 then (kf_204 n dp e 1 I L 0 0)
    else if lab = 1 then (if 10 ≤ i2 then (some ((i1 : Int), I, L)) else (if -2147483648 ≤ 60 + i2 ∧ 60 + i2 ≤ 2147483647 then (if 0 ≤ (60 + i2) ∧ (60 + i2) < 1570 then (if (I 107 (60 + i2)) ≤ 0 then (if (-2147483648 ≤ i1 + 0 ∧ i1 + 0 ≤ 2147483647) ∧ (-2147483648 ≤ i2 + 1 ∧ i2 + 1 ≤ 2147483647) then (kf_204 n dp e 1 I L (i1 + 0) (i2 + 1)) else none) else (if (-2147483648 ≤ i1 + 1 ∧ i1 + 1 ≤ 2147483647) ∧ (-2147483648 ≤ i2 + 1 ∧ i2 + 1 ≤ 2147483647) then (kf_204 n dp e 1 I L (i1 + 1) (i2 + 1)) else none)) else none) else none))
    else none
set_option maxRecDepth 100000 in
theorem ke_204_0 (n : Nat) (dp : Nat) (e : EN) (I : JI) (L : JI) (i1 : Int) (i2 : Int) : kf_204 (n + 1) dp e 0 I L i1 i2 = (kf_204 n dp e 1 I L 0 0) := by rw [kf_204.eq_2, if_pos (show (0 : Nat) = 0 from rfl)]
set_option maxRecDepth 100000 in
theorem ke_204_1 (n : Nat) (dp : Nat) (e : EN) (I : JI) (L : JI) (i1 : Int) (i2 : Int) : kf_204 (n + 1) dp e 1 I L i1 i2 = (if 10 ≤ i2 then (some ((i1 : Int), I, L)) else (if -2147483648 ≤ 60 + i2 ∧ 60 + i2 ≤ 2147483647 then (if 0 ≤ (60 + i2) ∧ (60 + i2) < 1570 then (if (I 107 (60 + i2)) ≤ 0 then (if (-2147483648 ≤ i1 + 0 ∧ i1 + 0 ≤ 2147483647) ∧ (-2147483648 ≤ i2 + 1 ∧ i2 + 1 ≤ 2147483647) then (kf_204 n dp e 1 I L (i1 + 0) (i2 + 1)) else none) else (if (-2147483648 ≤ i1 + 1 ∧ i1 + 1 ≤ 2147483647) ∧ (-2147483648 ≤ i2 + 1 ∧ i2 + 1 ≤ 2147483647) then (kf_204 n dp e 1 I L (i1 + 1) (i2 + 1)) else none)) else none) else none)) := by rw [kf_204.eq_2, if_neg (show ¬ ((1 : Nat) = 0) by decide), if_pos (show (1 : Nat) = 1 from rfl)]
set_option maxHeartbeats 8000000 in
set_option maxRecDepth 100000 in
theorem ks_204 : ∀ (n : Nat) (dp : Nat) (e : EN) (lab : Nat) (I : Nat → Nat → Int32) (I' : JI) (L : Nat → Nat → Int64) (L' : JI) (i1 : Int32) (i1' : Int) (i2 : Int32) (i2' : Int), Rli I I' → Rll L L' → Ui i1 i1' → Ui i2 i2' → Sim R3 (g_204 n dp e lab I L i1 i2) (kf_204 n dp e lab I' L' i1' i2') := by
  intro n
  induction n with
  | zero => intros; rw [kf_204.eq_1]; exact Sn
  | succ n ih =>
    intro dp e lab I I' L L' i1 i1' i2 i2' u_I u_L u_i1 u_i2
    rw [g_204.eq_2, kf_204.eq_2]
    refine Sc Iff.rfl (fun _ => ?_) (fun _ => ?_)
    · exact (ih dp e 1 _ _ _ _ _ _ _ _ u_I u_L (rfl : Ui (0) (0)) (rfl : Ui (0) (0)))
    refine Sc Iff.rfl (fun _ => ?_) (fun _ => ?_)
    · refine Sc (le_up (rfl : Ui (10) (10)) u_i2) (fun c1 => ?_) (fun c1 => ?_)
      · exact Sr ⟨u_i1, u_I, u_L⟩
      · refine Sg (fun g2 => ?_)
        refine Sc (ix_up (ui_add (rfl : Ui (60) (60)) u_i2 g2)) (fun c3 => ?_) (fun _ => Sn)
        refine Sc (le_up (ui_rd (a := 107) u_I (ui_add (rfl : Ui (60) (60)) u_i2 g2) c3.1) (rfl : Ui 0 0)) (fun c4 => ?_) (fun c4 => ?_)
        · refine Sg (fun g5 => ?_)
          exact (ih dp e 1 _ _ _ _ _ _ _ _ u_I u_L (ui_add u_i1 (rfl : Ui (0) (0)) g5.1) (ui_add u_i2 (rfl : Ui (Int32.ofInt (1)) (1)) g5.2))
        · refine Sg (fun g6 => ?_)
          exact (ih dp e 1 _ _ _ _ _ _ _ _ u_I u_L (ui_add u_i1 (rfl : Ui (1) (1)) g6.1) (ui_add u_i2 (rfl : Ui (Int32.ofInt (1)) (1)) g6.2))
    exact Sn
set_option maxHeartbeats 4000000 in
set_option maxRecDepth 100000 in
def kf_203 : Nat → Nat → EN → Nat → JI → JI → Int → Int → Int → Option (Int × JI × JI)
  | 0, _, _, _, _, _, _, _, _ => none
  | n + 1, dp, e, lab, I, L, i1, i2, i3 =>
    if lab = 0 then (stI (w2 I 105 0 0) (fun I_2 => (if 1 ≤ dp then ((kf_202 n (dp - 1) e 0 I_2 L i1).bind (fun ⟨x0_6, I0_6, L0_6⟩ => (if x0_6 = 0 then (if 1 ≤ dp then ((kf_194 n (dp - 1) e 0 I0_6 L0_6 (-1)).bind (fun ⟨x1_49, I1_49, L1_49⟩ => (some ((x1_49 : Int), I1_49, L1_49)))) else none) else (if 1 ≤ dp then ((kf_193 n (dp - 1) e 0 I0_6 L0_6 i2 0 2).bind (fun ⟨x1_18, I1_18, L1_18⟩ => (if x1_18 = 0 then (if 1 ≤ dp then ((kf_194 n (dp - 1) e 0 I1_18 L1_18 (-1)).bind (fun ⟨x2_49, I2_49, L2_49⟩ => (some ((x2_49 : Int), I2_49, L2_49)))) else none) else (if i2 = 2 then (if 1 ≤ dp then ((kf_193 n (dp - 1) e 0 I1_18 L1_18 i3 0 8).bind (fun ⟨x2_41, I2_41, L2_41⟩ => (if x2_41 = 0 then (if 1 ≤ dp then ((kf_194 n (dp - 1) e 0 I2_41 L2_41 (-1)).bind (fun ⟨x3_49, I3_49, L3_49⟩ => (some ((x3_49 : Int), I3_49, L3_49)))) else none) else (if i2 = 2 then (if i3 ≤ 0 then (kf_203 n dp e 1 I2_41 L2_41 i1 i2 i3) else (if -2147483648 ≤ 60 + i1 ∧ 60 + i1 ≤ 2147483647 then (if 0 ≤ (60 + i1) ∧ (60 + i1) < 1570 then (if (I2_41 107 (60 + i1)) = 0 then (if 1 ≤ dp then ((kf_204 n (dp - 1) e 0 I2_41 L2_41 0 0).bind (fun ⟨x3_75, I3_75, L3_75⟩ => (if x3_75 = 5 then (if 1 ≤ dp then ((kf_194 n (dp - 1) e 0 I3_75 L3_75 (-3)).bind (fun ⟨x4_85, I4_85, L4_85⟩ => (some ((x4_85 : Int), I4_85, L4_85)))) else none) else (kf_203 n dp e 1 I3_75 L3_75 i1 i2 i3)))) else none) else (kf_203 n dp e 1 I2_41 L2_41 i1 i2 i3)) else none) else none)) else (kf_203 n dp e 1 I2_41 L2_41 i1 i2 i3))))) else none) else (if 1 ≤ dp then ((kf_193 n (dp - 1) e 0 I1_18 L1_18 i3 0 999).bind (fun ⟨x2_41, I2_41, L2_41⟩ => (if x2_41 = 0 then (if 1 ≤ dp then ((kf_194 n (dp - 1) e 0 I2_41 L2_41 (-1)).bind (fun ⟨x3_49, I3_49, L3_49⟩ => (some ((x3_49 : Int), I3_49, L3_49)))) else none) else (if i2 = 2 then (if i3 ≤ 0 then (kf_203 n dp e 1 I2_41 L2_41 i1 i2 i3) else (if -2147483648 ≤ 60 + i1 ∧ 60 + i1 ≤ 2147483647 then (if 0 ≤ (60 + i1) ∧ (60 + i1) < 1570 then (if (I2_41 107 (60 + i1)) = 0 then (if 1 ≤ dp then ((kf_204 n (dp - 1) e 0 I2_41 L2_41 0 0).bind (fun ⟨x3_75, I3_75, L3_75⟩ => (if x3_75 = 5 then (if 1 ≤ dp then ((kf_194 n (dp - 1) e 0 I3_75 L3_75 (-3)).bind (fun ⟨x4_85, I4_85, L4_85⟩ => (some ((x4_85 : Int), I4_85, L4_85)))) else none) else (kf_203 n dp e 1 I3_75 L3_75 i1 i2 i3)))) else none) else (kf_203 n dp e 1 I2_41 L2_41 i1 i2 i3)) else none) else none)) else (kf_203 n dp e 1 I2_41 L2_41 i1 i2 i3))))) else none))))) else none)))) else none)))
    else if lab = 1 then (if 1 ≤ dp then (if (-2147483648 ≤ 10 * i2 ∧ 10 * i2 ≤ 2147483647) ∧ (-2147483648 ≤ 40 + (10 * i2) ∧ 40 + (10 * i2) ≤ 2147483647) ∧ (-2147483648 ≤ (40 + (10 * i2)) + i1 ∧ (40 + (10 * i2)) + i1 ≤ 2147483647) then ((kf_199 n (dp - 1) e 0 I L ((40 + (10 * i2)) + i1) i3).bind (fun ⟨x0_100, I0_100, L0_100⟩ => (some ((x0_100 : Int), I0_100, L0_100)))) else none) else none)
    else none
set_option maxRecDepth 100000 in
theorem ke_203_0 (n : Nat) (dp : Nat) (e : EN) (I : JI) (L : JI) (i1 : Int) (i2 : Int) (i3 : Int) : kf_203 (n + 1) dp e 0 I L i1 i2 i3 = (stI (w2 I 105 0 0) (fun I_2 => (if 1 ≤ dp then ((kf_202 n (dp - 1) e 0 I_2 L i1).bind (fun ⟨x0_6, I0_6, L0_6⟩ => (if x0_6 = 0 then (if 1 ≤ dp then ((kf_194 n (dp - 1) e 0 I0_6 L0_6 (-1)).bind (fun ⟨x1_49, I1_49, L1_49⟩ => (some ((x1_49 : Int), I1_49, L1_49)))) else none) else (if 1 ≤ dp then ((kf_193 n (dp - 1) e 0 I0_6 L0_6 i2 0 2).bind (fun ⟨x1_18, I1_18, L1_18⟩ => (if x1_18 = 0 then (if 1 ≤ dp then ((kf_194 n (dp - 1) e 0 I1_18 L1_18 (-1)).bind (fun ⟨x2_49, I2_49, L2_49⟩ => (some ((x2_49 : Int), I2_49, L2_49)))) else none) else (if i2 = 2 then (if 1 ≤ dp then ((kf_193 n (dp - 1) e 0 I1_18 L1_18 i3 0 8).bind (fun ⟨x2_41, I2_41, L2_41⟩ => (if x2_41 = 0 then (if 1 ≤ dp then ((kf_194 n (dp - 1) e 0 I2_41 L2_41 (-1)).bind (fun ⟨x3_49, I3_49, L3_49⟩ => (some ((x3_49 : Int), I3_49, L3_49)))) else none) else (if i2 = 2 then (if i3 ≤ 0 then (kf_203 n dp e 1 I2_41 L2_41 i1 i2 i3) else (if -2147483648 ≤ 60 + i1 ∧ 60 + i1 ≤ 2147483647 then (if 0 ≤ (60 + i1) ∧ (60 + i1) < 1570 then (if (I2_41 107 (60 + i1)) = 0 then (if 1 ≤ dp then ((kf_204 n (dp - 1) e 0 I2_41 L2_41 0 0).bind (fun ⟨x3_75, I3_75, L3_75⟩ => (if x3_75 = 5 then (if 1 ≤ dp then ((kf_194 n (dp - 1) e 0 I3_75 L3_75 (-3)).bind (fun ⟨x4_85, I4_85, L4_85⟩ => (some ((x4_85 : Int), I4_85, L4_85)))) else none) else (kf_203 n dp e 1 I3_75 L3_75 i1 i2 i3)))) else none) else (kf_203 n dp e 1 I2_41 L2_41 i1 i2 i3)) else none) else none)) else (kf_203 n dp e 1 I2_41 L2_41 i1 i2 i3))))) else none) else (if 1 ≤ dp then ((kf_193 n (dp - 1) e 0 I1_18 L1_18 i3 0 999).bind (fun ⟨x2_41, I2_41, L2_41⟩ => (if x2_41 = 0 then (if 1 ≤ dp then ((kf_194 n (dp - 1) e 0 I2_41 L2_41 (-1)).bind (fun ⟨x3_49, I3_49, L3_49⟩ => (some ((x3_49 : Int), I3_49, L3_49)))) else none) else (if i2 = 2 then (if i3 ≤ 0 then (kf_203 n dp e 1 I2_41 L2_41 i1 i2 i3) else (if -2147483648 ≤ 60 + i1 ∧ 60 + i1 ≤ 2147483647 then (if 0 ≤ (60 + i1) ∧ (60 + i1) < 1570 then (if (I2_41 107 (60 + i1)) = 0 then (if 1 ≤ dp then ((kf_204 n (dp - 1) e 0 I2_41 L2_41 0 0).bind (fun ⟨x3_75, I3_75, L3_75⟩ => (if x3_75 = 5 then (if 1 ≤ dp then ((kf_194 n (dp - 1) e 0 I3_75 L3_75 (-3)).bind (fun ⟨x4_85, I4_85, L4_85⟩ => (some ((x4_85 : Int), I4_85, L4_85)))) else none) else (kf_203 n dp e 1 I3_75 L3_75 i1 i2 i3)))) else none) else (kf_203 n dp e 1 I2_41 L2_41 i1 i2 i3)) else none) else none)) else (kf_203 n dp e 1 I2_41 L2_41 i1 i2 i3))))) else none))))) else none)))) else none))) := by rw [kf_203.eq_2, if_pos (show (0 : Nat) = 0 from rfl)]
set_option maxRecDepth 100000 in
theorem ke_203_1 (n : Nat) (dp : Nat) (e : EN) (I : JI) (L : JI) (i1 : Int) (i2 : Int) (i3 : Int) : kf_203 (n + 1) dp e 1 I L i1 i2 i3 = (if 1 ≤ dp then (if (-2147483648 ≤ 10 * i2 ∧ 10 * i2 ≤ 2147483647) ∧ (-2147483648 ≤ 40 + (10 * i2) ∧ 40 + (10 * i2) ≤ 2147483647) ∧ (-2147483648 ≤ (40 + (10 * i2)) + i1 ∧ (40 + (10 * i2)) + i1 ≤ 2147483647) then ((kf_199 n (dp - 1) e 0 I L ((40 + (10 * i2)) + i1) i3).bind (fun ⟨x0_100, I0_100, L0_100⟩ => (some ((x0_100 : Int), I0_100, L0_100)))) else none) else none) := by rw [kf_203.eq_2, if_neg (show ¬ ((1 : Nat) = 0) by decide), if_pos (show (1 : Nat) = 1 from rfl)]
set_option maxHeartbeats 8000000 in
set_option maxRecDepth 100000 in
theorem ks_203 : ∀ (n : Nat) (dp : Nat) (e : EN) (lab : Nat) (I : Nat → Nat → Int32) (I' : JI) (L : Nat → Nat → Int64) (L' : JI) (i1 : Int32) (i1' : Int) (i2 : Int32) (i2' : Int) (i3 : Int32) (i3' : Int), Rli I I' → Rll L L' → Ui i1 i1' → Ui i2 i2' → Ui i3 i3' → Sim R3 (g_203 n dp e lab I L i1 i2 i3) (kf_203 n dp e lab I' L' i1' i2' i3') := by
  intro n
  induction n with
  | zero => intros; rw [kf_203.eq_1]; exact Sn
  | succ n ih =>
    intro dp e lab I I' L L' i1 i1' i2 i2' i3 i3' u_I u_L u_i1 u_i2 u_i3
    rw [g_203.eq_2, kf_203.eq_2]
    refine Sc Iff.rfl (fun _ => ?_) (fun _ => ?_)
    · refine SsJ (ri_up u_I (rfl : ((0 : Nat) : Int) = 0) (rfl : Ui (0) (0))) (fun I_2 I_2' u_I_2 => ?_)
      refine Sc Iff.rfl (fun c1 => ?_) (fun _ => Sn)
      refine Sb3 (ks_202 n (dp - 1) e 0 _ _ _ _ _ _ u_I_2 u_L u_i1) (fun x0_6 x0_6' I0_6 I0_6' L0_6 L0_6' u_x0_6 u_I0_6 u_L0_6 => ?_)
      refine Sc (eq_up u_x0_6 (rfl : Ui 0 0)) (fun c2 => ?_) (fun c2 => ?_)
      · refine Sc Iff.rfl (fun c3 => ?_) (fun _ => Sn)
        refine Sb3 (ks_194 n (dp - 1) e 0 _ _ _ _ _ _ u_I0_6 u_L0_6 (rfl : Ui (-1) (-1))) (fun x1_49 x1_49' I1_49 I1_49' L1_49 L1_49' u_x1_49 u_I1_49 u_L1_49 => ?_)
        exact Sr ⟨u_x1_49, u_I1_49, u_L1_49⟩
      · refine Sc Iff.rfl (fun c4 => ?_) (fun _ => Sn)
        refine Sb3 (ks_193 n (dp - 1) e 0 _ _ _ _ _ _ _ _ _ _ u_I0_6 u_L0_6 (ul_i2l u_i2) (rfl : Ul (0) (0)) (rfl : Ul (2) (2))) (fun x1_18 x1_18' I1_18 I1_18' L1_18 L1_18' u_x1_18 u_I1_18 u_L1_18 => ?_)
        refine Sc (eq_up u_x1_18 (rfl : Ui 0 0)) (fun c5 => ?_) (fun c5 => ?_)
        · refine Sc Iff.rfl (fun c6 => ?_) (fun _ => Sn)
          refine Sb3 (ks_194 n (dp - 1) e 0 _ _ _ _ _ _ u_I1_18 u_L1_18 (rfl : Ui (-1) (-1))) (fun x2_49 x2_49' I2_49 I2_49' L2_49 L2_49' u_x2_49 u_I2_49 u_L2_49 => ?_)
          exact Sr ⟨u_x2_49, u_I2_49, u_L2_49⟩
        · refine Sc (eq_up u_i2 (rfl : Ui (2) (2))) (fun c7 => ?_) (fun c7 => ?_)
          · refine Sc Iff.rfl (fun c8 => ?_) (fun _ => Sn)
            refine Sb3 (ks_193 n (dp - 1) e 0 _ _ _ _ _ _ _ _ _ _ u_I1_18 u_L1_18 (ul_i2l u_i3) (rfl : Ul (0) (0)) (rfl : Ul (8) (8))) (fun x2_41 x2_41' I2_41 I2_41' L2_41 L2_41' u_x2_41 u_I2_41 u_L2_41 => ?_)
            refine Sc (eq_up u_x2_41 (rfl : Ui 0 0)) (fun c9 => ?_) (fun c9 => ?_)
            · refine Sc Iff.rfl (fun c10 => ?_) (fun _ => Sn)
              refine Sb3 (ks_194 n (dp - 1) e 0 _ _ _ _ _ _ u_I2_41 u_L2_41 (rfl : Ui (-1) (-1))) (fun x3_49 x3_49' I3_49 I3_49' L3_49 L3_49' u_x3_49 u_I3_49 u_L3_49 => ?_)
              exact Sr ⟨u_x3_49, u_I3_49, u_L3_49⟩
            · refine Sc (eq_up u_i2 (rfl : Ui (2) (2))) (fun c11 => ?_) (fun c11 => ?_)
              · refine Sc (le_up u_i3 (rfl : Ui 0 0)) (fun c12 => ?_) (fun c12 => ?_)
                · exact (ih dp e 1 _ _ _ _ _ _ _ _ _ _ u_I2_41 u_L2_41 u_i1 u_i2 u_i3)
                · refine Sg (fun g13 => ?_)
                  refine Sc (ix_up (ui_add (rfl : Ui (60) (60)) u_i1 g13)) (fun c14 => ?_) (fun _ => Sn)
                  refine Sc (eq_up (ui_rd (a := 107) u_I2_41 (ui_add (rfl : Ui (60) (60)) u_i1 g13) c14.1) (rfl : Ui 0 0)) (fun c15 => ?_) (fun c15 => ?_)
                  · refine Sc Iff.rfl (fun c16 => ?_) (fun _ => Sn)
                    refine Sb3 (ks_204 n (dp - 1) e 0 _ _ _ _ _ _ _ _ u_I2_41 u_L2_41 (rfl : Ui 0 0) (rfl : Ui 0 0)) (fun x3_75 x3_75' I3_75 I3_75' L3_75 L3_75' u_x3_75 u_I3_75 u_L3_75 => ?_)
                    refine Sc (eq_up u_x3_75 (rfl : Ui (5) (5))) (fun c17 => ?_) (fun c17 => ?_)
                    · refine Sc Iff.rfl (fun c18 => ?_) (fun _ => Sn)
                      refine Sb3 (ks_194 n (dp - 1) e 0 _ _ _ _ _ _ u_I3_75 u_L3_75 (rfl : Ui (-3) (-3))) (fun x4_85 x4_85' I4_85 I4_85' L4_85 L4_85' u_x4_85 u_I4_85 u_L4_85 => ?_)
                      exact Sr ⟨u_x4_85, u_I4_85, u_L4_85⟩
                    · exact (ih dp e 1 _ _ _ _ _ _ _ _ _ _ u_I3_75 u_L3_75 u_i1 u_i2 u_i3)
                  · exact (ih dp e 1 _ _ _ _ _ _ _ _ _ _ u_I2_41 u_L2_41 u_i1 u_i2 u_i3)
              · exact (ih dp e 1 _ _ _ _ _ _ _ _ _ _ u_I2_41 u_L2_41 u_i1 u_i2 u_i3)
          · refine Sc Iff.rfl (fun c19 => ?_) (fun _ => Sn)
            refine Sb3 (ks_193 n (dp - 1) e 0 _ _ _ _ _ _ _ _ _ _ u_I1_18 u_L1_18 (ul_i2l u_i3) (rfl : Ul (0) (0)) (rfl : Ul (999) (999))) (fun x2_41 x2_41' I2_41 I2_41' L2_41 L2_41' u_x2_41 u_I2_41 u_L2_41 => ?_)
            refine Sc (eq_up u_x2_41 (rfl : Ui 0 0)) (fun c20 => ?_) (fun c20 => ?_)
            · refine Sc Iff.rfl (fun c21 => ?_) (fun _ => Sn)
              refine Sb3 (ks_194 n (dp - 1) e 0 _ _ _ _ _ _ u_I2_41 u_L2_41 (rfl : Ui (-1) (-1))) (fun x3_49 x3_49' I3_49 I3_49' L3_49 L3_49' u_x3_49 u_I3_49 u_L3_49 => ?_)
              exact Sr ⟨u_x3_49, u_I3_49, u_L3_49⟩
            · refine Sc (eq_up u_i2 (rfl : Ui (2) (2))) (fun c22 => ?_) (fun c22 => ?_)
              · refine Sc (le_up u_i3 (rfl : Ui 0 0)) (fun c23 => ?_) (fun c23 => ?_)
                · exact (ih dp e 1 _ _ _ _ _ _ _ _ _ _ u_I2_41 u_L2_41 u_i1 u_i2 u_i3)
                · refine Sg (fun g24 => ?_)
                  refine Sc (ix_up (ui_add (rfl : Ui (60) (60)) u_i1 g24)) (fun c25 => ?_) (fun _ => Sn)
                  refine Sc (eq_up (ui_rd (a := 107) u_I2_41 (ui_add (rfl : Ui (60) (60)) u_i1 g24) c25.1) (rfl : Ui 0 0)) (fun c26 => ?_) (fun c26 => ?_)
                  · refine Sc Iff.rfl (fun c27 => ?_) (fun _ => Sn)
                    refine Sb3 (ks_204 n (dp - 1) e 0 _ _ _ _ _ _ _ _ u_I2_41 u_L2_41 (rfl : Ui 0 0) (rfl : Ui 0 0)) (fun x3_75 x3_75' I3_75 I3_75' L3_75 L3_75' u_x3_75 u_I3_75 u_L3_75 => ?_)
                    refine Sc (eq_up u_x3_75 (rfl : Ui (5) (5))) (fun c28 => ?_) (fun c28 => ?_)
                    · refine Sc Iff.rfl (fun c29 => ?_) (fun _ => Sn)
                      refine Sb3 (ks_194 n (dp - 1) e 0 _ _ _ _ _ _ u_I3_75 u_L3_75 (rfl : Ui (-3) (-3))) (fun x4_85 x4_85' I4_85 I4_85' L4_85 L4_85' u_x4_85 u_I4_85 u_L4_85 => ?_)
                      exact Sr ⟨u_x4_85, u_I4_85, u_L4_85⟩
                    · exact (ih dp e 1 _ _ _ _ _ _ _ _ _ _ u_I3_75 u_L3_75 u_i1 u_i2 u_i3)
                  · exact (ih dp e 1 _ _ _ _ _ _ _ _ _ _ u_I2_41 u_L2_41 u_i1 u_i2 u_i3)
              · exact (ih dp e 1 _ _ _ _ _ _ _ _ _ _ u_I2_41 u_L2_41 u_i1 u_i2 u_i3)
    refine Sc Iff.rfl (fun _ => ?_) (fun _ => ?_)
    · refine Sc Iff.rfl (fun c1 => ?_) (fun _ => Sn)
      refine Sg (fun g2 => ?_)
      refine Sb3 (ks_199 n (dp - 1) e 0 _ _ _ _ _ _ _ _ u_I u_L (ui_add (ui_add (rfl : Ui (40) (40)) (ui_mul (rfl : Ui (10) (10)) u_i2 g2.1) g2.2.1) u_i1 g2.2.2) u_i3) (fun x0_100 x0_100' I0_100 I0_100' L0_100 L0_100' u_x0_100 u_I0_100 u_L0_100 => ?_)
      exact Sr ⟨u_x0_100, u_I0_100, u_L0_100⟩
    exact Sn
set_option maxHeartbeats 4000000 in
set_option maxRecDepth 100000 in
def kf_205 : Nat → Nat → EN → Nat → JI → JI → Int → Option (Int × JI × JI)
  | 0, _, _, _, _, _, _ => none
  | n + 1, dp, e, lab, I, L, i1 =>
    if lab = 0 then (stI (w2 I 105 0 0) (fun I_2 => (if 1 ≤ dp then ((kf_193 n (dp - 1) e 0 I_2 L i1 0 15).bind (fun ⟨x0_11, I0_11, L0_11⟩ => (if x0_11 = 0 then (if 1 ≤ dp then ((kf_194 n (dp - 1) e 0 I0_11 L0_11 (-1)).bind (fun ⟨x1_19, I1_19, L1_19⟩ => (some ((x1_19 : Int), I1_19, L1_19)))) else none) else (if (I0_11 107 3) = 4 then (if 1 ≤ dp then ((kf_194 n (dp - 1) e 0 I0_11 L0_11 (-5)).bind (fun ⟨x1_36, I1_36, L1_36⟩ => (some ((x1_36 : Int), I1_36, L1_36)))) else none) else (if -2147483648 ≤ 70 + (I0_11 107 3) ∧ 70 + (I0_11 107 3) ≤ 2147483647 then (if 0 ≤ (70 + (I0_11 107 3)) ∧ (70 + (I0_11 107 3)) < 1570 then (stI (w2 I0_11 107 (70 + (I0_11 107 3)) i1) (fun I_54 => (if -2147483648 ≤ (I_54 107 3) + 1 ∧ (I_54 107 3) + 1 ≤ 2147483647 then (stI (w2 I_54 107 3 ((I_54 107 3) + 1)) (fun I_64 => (if 1 ≤ dp then (if -2147483648 ≤ (I_64 107 3) - 1 ∧ (I_64 107 3) - 1 ≤ 2147483647 then ((kf_194 n (dp - 1) e 0 I_64 L0_11 ((I_64 107 3) - 1)).bind (fun ⟨x1_74, I1_74, L1_74⟩ => (some ((x1_74 : Int), I1_74, L1_74)))) else none) else none))) else none))) else none) else none))))) else none)))
    else none
set_option maxRecDepth 100000 in
theorem ke_205_0 (n : Nat) (dp : Nat) (e : EN) (I : JI) (L : JI) (i1 : Int) : kf_205 (n + 1) dp e 0 I L i1 = (stI (w2 I 105 0 0) (fun I_2 => (if 1 ≤ dp then ((kf_193 n (dp - 1) e 0 I_2 L i1 0 15).bind (fun ⟨x0_11, I0_11, L0_11⟩ => (if x0_11 = 0 then (if 1 ≤ dp then ((kf_194 n (dp - 1) e 0 I0_11 L0_11 (-1)).bind (fun ⟨x1_19, I1_19, L1_19⟩ => (some ((x1_19 : Int), I1_19, L1_19)))) else none) else (if (I0_11 107 3) = 4 then (if 1 ≤ dp then ((kf_194 n (dp - 1) e 0 I0_11 L0_11 (-5)).bind (fun ⟨x1_36, I1_36, L1_36⟩ => (some ((x1_36 : Int), I1_36, L1_36)))) else none) else (if -2147483648 ≤ 70 + (I0_11 107 3) ∧ 70 + (I0_11 107 3) ≤ 2147483647 then (if 0 ≤ (70 + (I0_11 107 3)) ∧ (70 + (I0_11 107 3)) < 1570 then (stI (w2 I0_11 107 (70 + (I0_11 107 3)) i1) (fun I_54 => (if -2147483648 ≤ (I_54 107 3) + 1 ∧ (I_54 107 3) + 1 ≤ 2147483647 then (stI (w2 I_54 107 3 ((I_54 107 3) + 1)) (fun I_64 => (if 1 ≤ dp then (if -2147483648 ≤ (I_64 107 3) - 1 ∧ (I_64 107 3) - 1 ≤ 2147483647 then ((kf_194 n (dp - 1) e 0 I_64 L0_11 ((I_64 107 3) - 1)).bind (fun ⟨x1_74, I1_74, L1_74⟩ => (some ((x1_74 : Int), I1_74, L1_74)))) else none) else none))) else none))) else none) else none))))) else none))) := by rw [kf_205.eq_2, if_pos (show (0 : Nat) = 0 from rfl)]
set_option maxHeartbeats 8000000 in
set_option maxRecDepth 100000 in
theorem ks_205 : ∀ (n : Nat) (dp : Nat) (e : EN) (lab : Nat) (I : Nat → Nat → Int32) (I' : JI) (L : Nat → Nat → Int64) (L' : JI) (i1 : Int32) (i1' : Int), Rli I I' → Rll L L' → Ui i1 i1' → Sim R3 (g_205 n dp e lab I L i1) (kf_205 n dp e lab I' L' i1') := by
  intro n
  induction n with
  | zero => intros; rw [kf_205.eq_1]; exact Sn
  | succ n ih =>
    intro dp e lab I I' L L' i1 i1' u_I u_L u_i1
    rw [g_205.eq_2, kf_205.eq_2]
    refine Sc Iff.rfl (fun _ => ?_) (fun _ => ?_)
    · refine SsJ (ri_up u_I (rfl : ((0 : Nat) : Int) = 0) (rfl : Ui (0) (0))) (fun I_2 I_2' u_I_2 => ?_)
      refine Sc Iff.rfl (fun c1 => ?_) (fun _ => Sn)
      refine Sb3 (ks_193 n (dp - 1) e 0 _ _ _ _ _ _ _ _ _ _ u_I_2 u_L (ul_i2l u_i1) (rfl : Ul (0) (0)) (rfl : Ul (15) (15))) (fun x0_11 x0_11' I0_11 I0_11' L0_11 L0_11' u_x0_11 u_I0_11 u_L0_11 => ?_)
      refine Sc (eq_up u_x0_11 (rfl : Ui 0 0)) (fun c2 => ?_) (fun c2 => ?_)
      · refine Sc Iff.rfl (fun c3 => ?_) (fun _ => Sn)
        refine Sb3 (ks_194 n (dp - 1) e 0 _ _ _ _ _ _ u_I0_11 u_L0_11 (rfl : Ui (-1) (-1))) (fun x1_19 x1_19' I1_19 I1_19' L1_19 L1_19' u_x1_19 u_I1_19 u_L1_19 => ?_)
        exact Sr ⟨u_x1_19, u_I1_19, u_L1_19⟩
      · refine Sc (eq_up (u_I0_11 107 3) (rfl : Ui (4) (4))) (fun c4 => ?_) (fun c4 => ?_)
        · refine Sc Iff.rfl (fun c5 => ?_) (fun _ => Sn)
          refine Sb3 (ks_194 n (dp - 1) e 0 _ _ _ _ _ _ u_I0_11 u_L0_11 (rfl : Ui (-5) (-5))) (fun x1_36 x1_36' I1_36 I1_36' L1_36 L1_36' u_x1_36 u_I1_36 u_L1_36 => ?_)
          exact Sr ⟨u_x1_36, u_I1_36, u_L1_36⟩
        · refine Sg (fun g6 => ?_)
          refine Sc (ix_up (ui_add (rfl : Ui (70) (70)) (u_I0_11 107 3) g6)) (fun c7 => ?_) (fun _ => Sn)
          refine SsJ (ri_up u_I0_11 (kc_up (ui_add (rfl : Ui (70) (70)) (u_I0_11 107 3) g6) c7.1) u_i1) (fun I_54 I_54' u_I_54 => ?_)
          refine Sg (fun g8 => ?_)
          refine SsJ (ri_up u_I_54 (rfl : ((3 : Nat) : Int) = 3) (ui_add (u_I_54 107 3) (rfl : Ui (1) (1)) g8)) (fun I_64 I_64' u_I_64 => ?_)
          refine Sc Iff.rfl (fun c9 => ?_) (fun _ => Sn)
          refine Sg (fun g10 => ?_)
          refine Sb3 (ks_194 n (dp - 1) e 0 _ _ _ _ _ _ u_I_64 u_L0_11 (ui_sub (u_I_64 107 3) (rfl : Ui (1) (1)) g10)) (fun x1_74 x1_74' I1_74 I1_74' L1_74 L1_74' u_x1_74 u_I1_74 u_L1_74 => ?_)
          exact Sr ⟨u_x1_74, u_I1_74, u_L1_74⟩
    exact Sn
set_option maxHeartbeats 4000000 in
set_option maxRecDepth 100000 in
def kf_206 : Nat → Nat → EN → Nat → JI → JI → Int → Int → Option (Int × JI × JI)
  | 0, _, _, _, _, _, _, _ => none
  | n + 1, dp, e, lab, I, L, i1, i2 =>
    if lab = 0 then (stI (w2 I 105 0 0) (fun I_2 => (if 1 ≤ dp then ((kf_193 n (dp - 1) e 0 I_2 L i2 0 15).bind (fun ⟨x0_11, I0_11, L0_11⟩ => (if x0_11 = 0 then (if 1 ≤ dp then ((kf_194 n (dp - 1) e 0 I0_11 L0_11 (-1)).bind (fun ⟨x1_19, I1_19, L1_19⟩ => (some ((x1_19 : Int), I1_19, L1_19)))) else none) else (if 1 ≤ dp then (if -9223372036854775808 ≤ (I0_11 107 3) - 1 ∧ (I0_11 107 3) - 1 ≤ 9223372036854775807 then ((kf_193 n (dp - 1) e 0 I0_11 L0_11 i1 0 ((I0_11 107 3) - 1)).bind (fun ⟨x1_35, I1_35, L1_35⟩ => (if x1_35 = 0 then (if 1 ≤ dp then ((kf_194 n (dp - 1) e 0 I1_35 L1_35 (-2)).bind (fun ⟨x2_56, I2_56, L2_56⟩ => (some ((x2_56 : Int), I2_56, L2_56)))) else none) else (if 1 ≤ dp then (if -2147483648 ≤ 70 + i1 ∧ 70 + i1 ≤ 2147483647 then ((kf_199 n (dp - 1) e 0 I1_35 L1_35 (70 + i1) i2).bind (fun ⟨x2_47, I2_47, L2_47⟩ => (some ((x2_47 : Int), I2_47, L2_47)))) else none) else none)))) else none) else none)))) else none)))
    else none
set_option maxRecDepth 100000 in
theorem ke_206_0 (n : Nat) (dp : Nat) (e : EN) (I : JI) (L : JI) (i1 : Int) (i2 : Int) : kf_206 (n + 1) dp e 0 I L i1 i2 = (stI (w2 I 105 0 0) (fun I_2 => (if 1 ≤ dp then ((kf_193 n (dp - 1) e 0 I_2 L i2 0 15).bind (fun ⟨x0_11, I0_11, L0_11⟩ => (if x0_11 = 0 then (if 1 ≤ dp then ((kf_194 n (dp - 1) e 0 I0_11 L0_11 (-1)).bind (fun ⟨x1_19, I1_19, L1_19⟩ => (some ((x1_19 : Int), I1_19, L1_19)))) else none) else (if 1 ≤ dp then (if -9223372036854775808 ≤ (I0_11 107 3) - 1 ∧ (I0_11 107 3) - 1 ≤ 9223372036854775807 then ((kf_193 n (dp - 1) e 0 I0_11 L0_11 i1 0 ((I0_11 107 3) - 1)).bind (fun ⟨x1_35, I1_35, L1_35⟩ => (if x1_35 = 0 then (if 1 ≤ dp then ((kf_194 n (dp - 1) e 0 I1_35 L1_35 (-2)).bind (fun ⟨x2_56, I2_56, L2_56⟩ => (some ((x2_56 : Int), I2_56, L2_56)))) else none) else (if 1 ≤ dp then (if -2147483648 ≤ 70 + i1 ∧ 70 + i1 ≤ 2147483647 then ((kf_199 n (dp - 1) e 0 I1_35 L1_35 (70 + i1) i2).bind (fun ⟨x2_47, I2_47, L2_47⟩ => (some ((x2_47 : Int), I2_47, L2_47)))) else none) else none)))) else none) else none)))) else none))) := by rw [kf_206.eq_2, if_pos (show (0 : Nat) = 0 from rfl)]
set_option maxHeartbeats 8000000 in
set_option maxRecDepth 100000 in
theorem ks_206 : ∀ (n : Nat) (dp : Nat) (e : EN) (lab : Nat) (I : Nat → Nat → Int32) (I' : JI) (L : Nat → Nat → Int64) (L' : JI) (i1 : Int32) (i1' : Int) (i2 : Int32) (i2' : Int), Rli I I' → Rll L L' → Ui i1 i1' → Ui i2 i2' → Sim R3 (g_206 n dp e lab I L i1 i2) (kf_206 n dp e lab I' L' i1' i2') := by
  intro n
  induction n with
  | zero => intros; rw [kf_206.eq_1]; exact Sn
  | succ n ih =>
    intro dp e lab I I' L L' i1 i1' i2 i2' u_I u_L u_i1 u_i2
    rw [g_206.eq_2, kf_206.eq_2]
    refine Sc Iff.rfl (fun _ => ?_) (fun _ => ?_)
    · refine SsJ (ri_up u_I (rfl : ((0 : Nat) : Int) = 0) (rfl : Ui (0) (0))) (fun I_2 I_2' u_I_2 => ?_)
      refine Sc Iff.rfl (fun c1 => ?_) (fun _ => Sn)
      refine Sb3 (ks_193 n (dp - 1) e 0 _ _ _ _ _ _ _ _ _ _ u_I_2 u_L (ul_i2l u_i2) (rfl : Ul (0) (0)) (rfl : Ul (15) (15))) (fun x0_11 x0_11' I0_11 I0_11' L0_11 L0_11' u_x0_11 u_I0_11 u_L0_11 => ?_)
      refine Sc (eq_up u_x0_11 (rfl : Ui 0 0)) (fun c2 => ?_) (fun c2 => ?_)
      · refine Sc Iff.rfl (fun c3 => ?_) (fun _ => Sn)
        refine Sb3 (ks_194 n (dp - 1) e 0 _ _ _ _ _ _ u_I0_11 u_L0_11 (rfl : Ui (-1) (-1))) (fun x1_19 x1_19' I1_19 I1_19' L1_19 L1_19' u_x1_19 u_I1_19 u_L1_19 => ?_)
        exact Sr ⟨u_x1_19, u_I1_19, u_L1_19⟩
      · refine Sc Iff.rfl (fun c4 => ?_) (fun _ => Sn)
        refine Sg (fun g5 => ?_)
        refine Sb3 (ks_193 n (dp - 1) e 0 _ _ _ _ _ _ _ _ _ _ u_I0_11 u_L0_11 (ul_i2l u_i1) (rfl : Ul (0) (0)) (ul_sub (ul_i2l (u_I0_11 107 3)) (rfl : Ul (1) (1)) g5)) (fun x1_35 x1_35' I1_35 I1_35' L1_35 L1_35' u_x1_35 u_I1_35 u_L1_35 => ?_)
        refine Sc (eq_up u_x1_35 (rfl : Ui 0 0)) (fun c6 => ?_) (fun c6 => ?_)
        · refine Sc Iff.rfl (fun c7 => ?_) (fun _ => Sn)
          refine Sb3 (ks_194 n (dp - 1) e 0 _ _ _ _ _ _ u_I1_35 u_L1_35 (rfl : Ui (-2) (-2))) (fun x2_56 x2_56' I2_56 I2_56' L2_56 L2_56' u_x2_56 u_I2_56 u_L2_56 => ?_)
          exact Sr ⟨u_x2_56, u_I2_56, u_L2_56⟩
        · refine Sc Iff.rfl (fun c8 => ?_) (fun _ => Sn)
          refine Sg (fun g9 => ?_)
          refine Sb3 (ks_199 n (dp - 1) e 0 _ _ _ _ _ _ _ _ u_I1_35 u_L1_35 (ui_add (rfl : Ui (70) (70)) u_i1 g9) u_i2) (fun x2_47 x2_47' I2_47 I2_47' L2_47 L2_47' u_x2_47 u_I2_47 u_L2_47 => ?_)
          exact Sr ⟨u_x2_47, u_I2_47, u_L2_47⟩
    exact Sn
set_option maxHeartbeats 4000000 in
set_option maxRecDepth 100000 in
def kf_207 : Nat → Nat → EN → Nat → JI → JI → Int → Int → Option (Int × JI × JI)
  | 0, _, _, _, _, _, _, _ => none
  | n + 1, dp, e, lab, I, L, i1, i2 =>
    if lab = 0 then (stI (w2 I 105 0 0) (fun I_2 => (if 1 ≤ dp then ((kf_193 n (dp - 1) e 0 I_2 L i1 0 1).bind (fun ⟨x0_9, I0_9, L0_9⟩ => (if x0_9 = 0 then (if 1 ≤ dp then ((kf_194 n (dp - 1) e 0 I0_9 L0_9 (-1)).bind (fun ⟨x1_50, I1_50, L1_50⟩ => (some ((x1_50 : Int), I1_50, L1_50)))) else none) else (if i1 = 0 then (if 1 ≤ dp then ((kf_193 n (dp - 1) e 0 I0_9 L0_9 i2 0 99).bind (fun ⟨x1_31, I1_31, L1_31⟩ => (if x1_31 = 0 then (if 1 ≤ dp then ((kf_194 n (dp - 1) e 0 I1_31 L1_31 (-1)).bind (fun ⟨x2_50, I2_50, L2_50⟩ => (some ((x2_50 : Int), I2_50, L2_50)))) else none) else (if 1 ≤ dp then (if -2147483648 ≤ 4 + i1 ∧ 4 + i1 ≤ 2147483647 then ((kf_199 n (dp - 1) e 0 I1_31 L1_31 (4 + i1) i2).bind (fun ⟨x2_42, I2_42, L2_42⟩ => (some ((x2_42 : Int), I2_42, L2_42)))) else none) else none)))) else none) else (if 1 ≤ dp then ((kf_193 n (dp - 1) e 0 I0_9 L0_9 i2 0 100).bind (fun ⟨x1_31, I1_31, L1_31⟩ => (if x1_31 = 0 then (if 1 ≤ dp then ((kf_194 n (dp - 1) e 0 I1_31 L1_31 (-1)).bind (fun ⟨x2_50, I2_50, L2_50⟩ => (some ((x2_50 : Int), I2_50, L2_50)))) else none) else (if 1 ≤ dp then (if -2147483648 ≤ 4 + i1 ∧ 4 + i1 ≤ 2147483647 then ((kf_199 n (dp - 1) e 0 I1_31 L1_31 (4 + i1) i2).bind (fun ⟨x2_42, I2_42, L2_42⟩ => (some ((x2_42 : Int), I2_42, L2_42)))) else none) else none)))) else none))))) else none)))
    else none
set_option maxRecDepth 100000 in
theorem ke_207_0 (n : Nat) (dp : Nat) (e : EN) (I : JI) (L : JI) (i1 : Int) (i2 : Int) : kf_207 (n + 1) dp e 0 I L i1 i2 = (stI (w2 I 105 0 0) (fun I_2 => (if 1 ≤ dp then ((kf_193 n (dp - 1) e 0 I_2 L i1 0 1).bind (fun ⟨x0_9, I0_9, L0_9⟩ => (if x0_9 = 0 then (if 1 ≤ dp then ((kf_194 n (dp - 1) e 0 I0_9 L0_9 (-1)).bind (fun ⟨x1_50, I1_50, L1_50⟩ => (some ((x1_50 : Int), I1_50, L1_50)))) else none) else (if i1 = 0 then (if 1 ≤ dp then ((kf_193 n (dp - 1) e 0 I0_9 L0_9 i2 0 99).bind (fun ⟨x1_31, I1_31, L1_31⟩ => (if x1_31 = 0 then (if 1 ≤ dp then ((kf_194 n (dp - 1) e 0 I1_31 L1_31 (-1)).bind (fun ⟨x2_50, I2_50, L2_50⟩ => (some ((x2_50 : Int), I2_50, L2_50)))) else none) else (if 1 ≤ dp then (if -2147483648 ≤ 4 + i1 ∧ 4 + i1 ≤ 2147483647 then ((kf_199 n (dp - 1) e 0 I1_31 L1_31 (4 + i1) i2).bind (fun ⟨x2_42, I2_42, L2_42⟩ => (some ((x2_42 : Int), I2_42, L2_42)))) else none) else none)))) else none) else (if 1 ≤ dp then ((kf_193 n (dp - 1) e 0 I0_9 L0_9 i2 0 100).bind (fun ⟨x1_31, I1_31, L1_31⟩ => (if x1_31 = 0 then (if 1 ≤ dp then ((kf_194 n (dp - 1) e 0 I1_31 L1_31 (-1)).bind (fun ⟨x2_50, I2_50, L2_50⟩ => (some ((x2_50 : Int), I2_50, L2_50)))) else none) else (if 1 ≤ dp then (if -2147483648 ≤ 4 + i1 ∧ 4 + i1 ≤ 2147483647 then ((kf_199 n (dp - 1) e 0 I1_31 L1_31 (4 + i1) i2).bind (fun ⟨x2_42, I2_42, L2_42⟩ => (some ((x2_42 : Int), I2_42, L2_42)))) else none) else none)))) else none))))) else none))) := by rw [kf_207.eq_2, if_pos (show (0 : Nat) = 0 from rfl)]
set_option maxHeartbeats 8000000 in
set_option maxRecDepth 100000 in
theorem ks_207 : ∀ (n : Nat) (dp : Nat) (e : EN) (lab : Nat) (I : Nat → Nat → Int32) (I' : JI) (L : Nat → Nat → Int64) (L' : JI) (i1 : Int32) (i1' : Int) (i2 : Int32) (i2' : Int), Rli I I' → Rll L L' → Ui i1 i1' → Ui i2 i2' → Sim R3 (g_207 n dp e lab I L i1 i2) (kf_207 n dp e lab I' L' i1' i2') := by
  intro n
  induction n with
  | zero => intros; rw [kf_207.eq_1]; exact Sn
  | succ n ih =>
    intro dp e lab I I' L L' i1 i1' i2 i2' u_I u_L u_i1 u_i2
    rw [g_207.eq_2, kf_207.eq_2]
    refine Sc Iff.rfl (fun _ => ?_) (fun _ => ?_)
    · refine SsJ (ri_up u_I (rfl : ((0 : Nat) : Int) = 0) (rfl : Ui (0) (0))) (fun I_2 I_2' u_I_2 => ?_)
      refine Sc Iff.rfl (fun c1 => ?_) (fun _ => Sn)
      refine Sb3 (ks_193 n (dp - 1) e 0 _ _ _ _ _ _ _ _ _ _ u_I_2 u_L (ul_i2l u_i1) (rfl : Ul (0) (0)) (rfl : Ul (1) (1))) (fun x0_9 x0_9' I0_9 I0_9' L0_9 L0_9' u_x0_9 u_I0_9 u_L0_9 => ?_)
      refine Sc (eq_up u_x0_9 (rfl : Ui 0 0)) (fun c2 => ?_) (fun c2 => ?_)
      · refine Sc Iff.rfl (fun c3 => ?_) (fun _ => Sn)
        refine Sb3 (ks_194 n (dp - 1) e 0 _ _ _ _ _ _ u_I0_9 u_L0_9 (rfl : Ui (-1) (-1))) (fun x1_50 x1_50' I1_50 I1_50' L1_50 L1_50' u_x1_50 u_I1_50 u_L1_50 => ?_)
        exact Sr ⟨u_x1_50, u_I1_50, u_L1_50⟩
      · refine Sc (eq_up u_i1 (rfl : Ui 0 0)) (fun c4 => ?_) (fun c4 => ?_)
        · refine Sc Iff.rfl (fun c5 => ?_) (fun _ => Sn)
          refine Sb3 (ks_193 n (dp - 1) e 0 _ _ _ _ _ _ _ _ _ _ u_I0_9 u_L0_9 (ul_i2l u_i2) (rfl : Ul (0) (0)) (rfl : Ul (99) (99))) (fun x1_31 x1_31' I1_31 I1_31' L1_31 L1_31' u_x1_31 u_I1_31 u_L1_31 => ?_)
          refine Sc (eq_up u_x1_31 (rfl : Ui 0 0)) (fun c6 => ?_) (fun c6 => ?_)
          · refine Sc Iff.rfl (fun c7 => ?_) (fun _ => Sn)
            refine Sb3 (ks_194 n (dp - 1) e 0 _ _ _ _ _ _ u_I1_31 u_L1_31 (rfl : Ui (-1) (-1))) (fun x2_50 x2_50' I2_50 I2_50' L2_50 L2_50' u_x2_50 u_I2_50 u_L2_50 => ?_)
            exact Sr ⟨u_x2_50, u_I2_50, u_L2_50⟩
          · refine Sc Iff.rfl (fun c8 => ?_) (fun _ => Sn)
            refine Sg (fun g9 => ?_)
            refine Sb3 (ks_199 n (dp - 1) e 0 _ _ _ _ _ _ _ _ u_I1_31 u_L1_31 (ui_add (rfl : Ui (4) (4)) u_i1 g9) u_i2) (fun x2_42 x2_42' I2_42 I2_42' L2_42 L2_42' u_x2_42 u_I2_42 u_L2_42 => ?_)
            exact Sr ⟨u_x2_42, u_I2_42, u_L2_42⟩
        · refine Sc Iff.rfl (fun c10 => ?_) (fun _ => Sn)
          refine Sb3 (ks_193 n (dp - 1) e 0 _ _ _ _ _ _ _ _ _ _ u_I0_9 u_L0_9 (ul_i2l u_i2) (rfl : Ul (0) (0)) (rfl : Ul (100) (100))) (fun x1_31 x1_31' I1_31 I1_31' L1_31 L1_31' u_x1_31 u_I1_31 u_L1_31 => ?_)
          refine Sc (eq_up u_x1_31 (rfl : Ui 0 0)) (fun c11 => ?_) (fun c11 => ?_)
          · refine Sc Iff.rfl (fun c12 => ?_) (fun _ => Sn)
            refine Sb3 (ks_194 n (dp - 1) e 0 _ _ _ _ _ _ u_I1_31 u_L1_31 (rfl : Ui (-1) (-1))) (fun x2_50 x2_50' I2_50 I2_50' L2_50 L2_50' u_x2_50 u_I2_50 u_L2_50 => ?_)
            exact Sr ⟨u_x2_50, u_I2_50, u_L2_50⟩
          · refine Sc Iff.rfl (fun c13 => ?_) (fun _ => Sn)
            refine Sg (fun g14 => ?_)
            refine Sb3 (ks_199 n (dp - 1) e 0 _ _ _ _ _ _ _ _ u_I1_31 u_L1_31 (ui_add (rfl : Ui (4) (4)) u_i1 g14) u_i2) (fun x2_42 x2_42' I2_42 I2_42' L2_42 L2_42' u_x2_42 u_I2_42 u_L2_42 => ?_)
            exact Sr ⟨u_x2_42, u_I2_42, u_L2_42⟩
    exact Sn
set_option maxHeartbeats 4000000 in
set_option maxRecDepth 100000 in
def kf_209 : Nat → Nat → EN → Nat → JI → JI → Int → Int → Option (JI × JI)
  | 0, _, _, _, _, _, _, _ => none
  | n + 1, dp, e, lab, I, L, i1, i2 =>
    if lab = 0 then (kf_209 n dp e 1 I L i1 24)
    else if lab = 1 then (if i2 < 0 then (some (I, L)) else (if 0 ≤ (I 105 7) ∧ (I 105 7) < 400 then (stI (w2 I 110 (I 105 7) (bA (bR i1 i2) 255)) (fun I_22 => (if -2147483648 ≤ (I_22 105 7) + 1 ∧ (I_22 105 7) + 1 ≤ 2147483647 then (stI (w2 I_22 105 7 ((I_22 105 7) + 1)) (fun I_30 => (if -2147483648 ≤ i2 + (-8) ∧ i2 + (-8) ≤ 2147483647 then (kf_209 n dp e 1 I_30 L i1 (i2 + (-8))) else none))) else none))) else none))
    else none
set_option maxRecDepth 100000 in
theorem ke_209_0 (n : Nat) (dp : Nat) (e : EN) (I : JI) (L : JI) (i1 : Int) (i2 : Int) : kf_209 (n + 1) dp e 0 I L i1 i2 = (kf_209 n dp e 1 I L i1 24) := by rw [kf_209.eq_2, if_pos (show (0 : Nat) = 0 from rfl)]
set_option maxRecDepth 100000 in
theorem ke_209_1 (n : Nat) (dp : Nat) (e : EN) (I : JI) (L : JI) (i1 : Int) (i2 : Int) : kf_209 (n + 1) dp e 1 I L i1 i2 = (if i2 < 0 then (some (I, L)) else (if 0 ≤ (I 105 7) ∧ (I 105 7) < 400 then (stI (w2 I 110 (I 105 7) (bA (bR i1 i2) 255)) (fun I_22 => (if -2147483648 ≤ (I_22 105 7) + 1 ∧ (I_22 105 7) + 1 ≤ 2147483647 then (stI (w2 I_22 105 7 ((I_22 105 7) + 1)) (fun I_30 => (if -2147483648 ≤ i2 + (-8) ∧ i2 + (-8) ≤ 2147483647 then (kf_209 n dp e 1 I_30 L i1 (i2 + (-8))) else none))) else none))) else none)) := by rw [kf_209.eq_2, if_neg (show ¬ ((1 : Nat) = 0) by decide), if_pos (show (1 : Nat) = 1 from rfl)]
set_option maxHeartbeats 8000000 in
set_option maxRecDepth 100000 in
theorem ks_209 : ∀ (n : Nat) (dp : Nat) (e : EN) (lab : Nat) (I : Nat → Nat → Int32) (I' : JI) (L : Nat → Nat → Int64) (L' : JI) (i1 : Int32) (i1' : Int) (i2 : Int32) (i2' : Int), Rli I I' → Rll L L' → Ui i1 i1' → Ui i2 i2' → Sim R2 (g_209 n dp e lab I L i1 i2) (kf_209 n dp e lab I' L' i1' i2') := by
  intro n
  induction n with
  | zero => intros; rw [kf_209.eq_1]; exact Sn
  | succ n ih =>
    intro dp e lab I I' L L' i1 i1' i2 i2' u_I u_L u_i1 u_i2
    rw [g_209.eq_2, kf_209.eq_2]
    refine Sc Iff.rfl (fun _ => ?_) (fun _ => ?_)
    · exact (ih dp e 1 _ _ _ _ _ _ _ _ u_I u_L u_i1 (rfl : Ui (24) (24)))
    refine Sc Iff.rfl (fun _ => ?_) (fun _ => ?_)
    · refine Sc (lt_up u_i2 (rfl : Ui 0 0)) (fun c1 => ?_) (fun c1 => ?_)
      · exact Sr ⟨u_I, u_L⟩
      · refine Sc (ix_up (u_I 105 7)) (fun c2 => ?_) (fun _ => Sn)
        refine SsJ (ri_up u_I (kc_up (u_I 105 7) c2.1) (ui_and (ui_shr u_i1 u_i2) (rfl : Ui (255) (255)))) (fun I_22 I_22' u_I_22 => ?_)
        refine Sg (fun g3 => ?_)
        refine SsJ (ri_up u_I_22 (rfl : ((7 : Nat) : Int) = 7) (ui_add (u_I_22 105 7) (rfl : Ui (1) (1)) g3)) (fun I_30 I_30' u_I_30 => ?_)
        refine Sg (fun g4 => ?_)
        exact (ih dp e 1 _ _ _ _ _ _ _ _ u_I_30 u_L u_i1 (ui_add u_i2 (rfl : Ui (Int32.ofInt (-8)) (-8)) g4))
    exact Sn
set_option maxHeartbeats 4000000 in
set_option maxRecDepth 100000 in
def kf_208 : Nat → Nat → EN → Nat → JI → JI → Int → Int → Int → Int → Int → Option (Int × JI × JI)
  | 0, _, _, _, _, _, _, _, _, _, _ => none
  | n + 1, dp, e, lab, I, L, i1, i2, i3, i4, i5 =>
    if lab = 0 then (stI (w2 I 105 0 0) (fun I_2 => (if -2147483648 ≤ (I_2 105 7) + 20 ∧ (I_2 105 7) + 20 ≤ 2147483647 then (if ((I_2 105 7) + 20) ≤ 400 then (if 1 ≤ dp then ((kf_209 n (dp - 1) e 0 I_2 L i1 0).bind (fun ⟨I0_22, L0_22⟩ => (if 1 ≤ dp then ((kf_209 n (dp - 1) e 0 I0_22 L0_22 i2 0).bind (fun ⟨I1_27, L1_27⟩ => (if 1 ≤ dp then ((kf_209 n (dp - 1) e 0 I1_27 L1_27 i3 0).bind (fun ⟨I2_32, L2_32⟩ => (if 1 ≤ dp then ((kf_209 n (dp - 1) e 0 I2_32 L2_32 i4 0).bind (fun ⟨I3_38, L3_38⟩ => (if 1 ≤ dp then ((kf_209 n (dp - 1) e 0 I3_38 L3_38 i5 0).bind (fun ⟨I4_44, L4_44⟩ => (some (((I4_44 105 7) : Int), I4_44, L4_44)))) else none))) else none))) else none))) else none))) else none) else (some (((-1) : Int), I_2, L))) else none)))
    else none
set_option maxRecDepth 100000 in
theorem ke_208_0 (n : Nat) (dp : Nat) (e : EN) (I : JI) (L : JI) (i1 : Int) (i2 : Int) (i3 : Int) (i4 : Int) (i5 : Int) : kf_208 (n + 1) dp e 0 I L i1 i2 i3 i4 i5 = (stI (w2 I 105 0 0) (fun I_2 => (if -2147483648 ≤ (I_2 105 7) + 20 ∧ (I_2 105 7) + 20 ≤ 2147483647 then (if ((I_2 105 7) + 20) ≤ 400 then (if 1 ≤ dp then ((kf_209 n (dp - 1) e 0 I_2 L i1 0).bind (fun ⟨I0_22, L0_22⟩ => (if 1 ≤ dp then ((kf_209 n (dp - 1) e 0 I0_22 L0_22 i2 0).bind (fun ⟨I1_27, L1_27⟩ => (if 1 ≤ dp then ((kf_209 n (dp - 1) e 0 I1_27 L1_27 i3 0).bind (fun ⟨I2_32, L2_32⟩ => (if 1 ≤ dp then ((kf_209 n (dp - 1) e 0 I2_32 L2_32 i4 0).bind (fun ⟨I3_38, L3_38⟩ => (if 1 ≤ dp then ((kf_209 n (dp - 1) e 0 I3_38 L3_38 i5 0).bind (fun ⟨I4_44, L4_44⟩ => (some (((I4_44 105 7) : Int), I4_44, L4_44)))) else none))) else none))) else none))) else none))) else none) else (some (((-1) : Int), I_2, L))) else none))) := by rw [kf_208.eq_2, if_pos (show (0 : Nat) = 0 from rfl)]
set_option maxHeartbeats 8000000 in
set_option maxRecDepth 100000 in
theorem ks_208 : ∀ (n : Nat) (dp : Nat) (e : EN) (lab : Nat) (I : Nat → Nat → Int32) (I' : JI) (L : Nat → Nat → Int64) (L' : JI) (i1 : Int32) (i1' : Int) (i2 : Int32) (i2' : Int) (i3 : Int32) (i3' : Int) (i4 : Int32) (i4' : Int) (i5 : Int32) (i5' : Int), Rli I I' → Rll L L' → Ui i1 i1' → Ui i2 i2' → Ui i3 i3' → Ui i4 i4' → Ui i5 i5' → Sim R3 (g_208 n dp e lab I L i1 i2 i3 i4 i5) (kf_208 n dp e lab I' L' i1' i2' i3' i4' i5') := by
  intro n
  induction n with
  | zero => intros; rw [kf_208.eq_1]; exact Sn
  | succ n ih =>
    intro dp e lab I I' L L' i1 i1' i2 i2' i3 i3' i4 i4' i5 i5' u_I u_L u_i1 u_i2 u_i3 u_i4 u_i5
    rw [g_208.eq_2, kf_208.eq_2]
    refine Sc Iff.rfl (fun _ => ?_) (fun _ => ?_)
    · refine SsJ (ri_up u_I (rfl : ((0 : Nat) : Int) = 0) (rfl : Ui (0) (0))) (fun I_2 I_2' u_I_2 => ?_)
      refine Sg (fun g1 => ?_)
      refine Sc (le_up (ui_add (u_I_2 105 7) (rfl : Ui (20) (20)) g1) (rfl : Ui (400) (400))) (fun c2 => ?_) (fun c2 => ?_)
      · refine Sc Iff.rfl (fun c3 => ?_) (fun _ => Sn)
        refine Sb2 (ks_209 n (dp - 1) e 0 _ _ _ _ _ _ _ _ u_I_2 u_L u_i1 (rfl : Ui 0 0)) (fun I0_22 I0_22' L0_22 L0_22' u_I0_22 u_L0_22 => ?_)
        refine Sc Iff.rfl (fun c4 => ?_) (fun _ => Sn)
        refine Sb2 (ks_209 n (dp - 1) e 0 _ _ _ _ _ _ _ _ u_I0_22 u_L0_22 u_i2 (rfl : Ui 0 0)) (fun I1_27 I1_27' L1_27 L1_27' u_I1_27 u_L1_27 => ?_)
        refine Sc Iff.rfl (fun c5 => ?_) (fun _ => Sn)
        refine Sb2 (ks_209 n (dp - 1) e 0 _ _ _ _ _ _ _ _ u_I1_27 u_L1_27 u_i3 (rfl : Ui 0 0)) (fun I2_32 I2_32' L2_32 L2_32' u_I2_32 u_L2_32 => ?_)
        refine Sc Iff.rfl (fun c6 => ?_) (fun _ => Sn)
        refine Sb2 (ks_209 n (dp - 1) e 0 _ _ _ _ _ _ _ _ u_I2_32 u_L2_32 u_i4 (rfl : Ui 0 0)) (fun I3_38 I3_38' L3_38 L3_38' u_I3_38 u_L3_38 => ?_)
        refine Sc Iff.rfl (fun c7 => ?_) (fun _ => Sn)
        refine Sb2 (ks_209 n (dp - 1) e 0 _ _ _ _ _ _ _ _ u_I3_38 u_L3_38 u_i5 (rfl : Ui 0 0)) (fun I4_44 I4_44' L4_44 L4_44' u_I4_44 u_L4_44 => ?_)
        exact Sr ⟨(u_I4_44 105 7), u_I4_44, u_L4_44⟩
      · exact Sr ⟨(rfl : Ui (-1) (-1)), u_I_2, u_L⟩
    exact Sn
set_option maxHeartbeats 4000000 in
set_option maxRecDepth 100000 in
def kf_210 : Nat → Nat → EN → Nat → JI → JI → Int → Option (Int × JI × JI)
  | 0, _, _, _, _, _, _ => none
  | n + 1, dp, e, lab, I, L, i1 =>
    if lab = 0 then (stI (w2 I 105 0 0) (fun I_2 => (if i1 < 0 then (some (((-1) : Int), I_2, L)) else (if i1 ≤ (I_2 105 7) then (stI (w2 I_2 105 7 i1) (fun I_21 => (some ((i1 : Int), I_21, L)))) else (some (((-1) : Int), I_2, L))))))
    else none
set_option maxRecDepth 100000 in
theorem ke_210_0 (n : Nat) (dp : Nat) (e : EN) (I : JI) (L : JI) (i1 : Int) : kf_210 (n + 1) dp e 0 I L i1 = (stI (w2 I 105 0 0) (fun I_2 => (if i1 < 0 then (some (((-1) : Int), I_2, L)) else (if i1 ≤ (I_2 105 7) then (stI (w2 I_2 105 7 i1) (fun I_21 => (some ((i1 : Int), I_21, L)))) else (some (((-1) : Int), I_2, L)))))) := by rw [kf_210.eq_2, if_pos (show (0 : Nat) = 0 from rfl)]
set_option maxHeartbeats 8000000 in
set_option maxRecDepth 100000 in
theorem ks_210 : ∀ (n : Nat) (dp : Nat) (e : EN) (lab : Nat) (I : Nat → Nat → Int32) (I' : JI) (L : Nat → Nat → Int64) (L' : JI) (i1 : Int32) (i1' : Int), Rli I I' → Rll L L' → Ui i1 i1' → Sim R3 (g_210 n dp e lab I L i1) (kf_210 n dp e lab I' L' i1') := by
  intro n
  induction n with
  | zero => intros; rw [kf_210.eq_1]; exact Sn
  | succ n ih =>
    intro dp e lab I I' L L' i1 i1' u_I u_L u_i1
    rw [g_210.eq_2, kf_210.eq_2]
    refine Sc Iff.rfl (fun _ => ?_) (fun _ => ?_)
    · refine SsJ (ri_up u_I (rfl : ((0 : Nat) : Int) = 0) (rfl : Ui (0) (0))) (fun I_2 I_2' u_I_2 => ?_)
      refine Sc (lt_up u_i1 (rfl : Ui 0 0)) (fun c1 => ?_) (fun c1 => ?_)
      · exact Sr ⟨(rfl : Ui (-1) (-1)), u_I_2, u_L⟩
      · refine Sc (le_up u_i1 (u_I_2 105 7)) (fun c2 => ?_) (fun c2 => ?_)
        · refine SsJ (ri_up u_I_2 (rfl : ((7 : Nat) : Int) = 7) u_i1) (fun I_21 I_21' u_I_21 => ?_)
          exact Sr ⟨u_i1, u_I_21, u_L⟩
        · exact Sr ⟨(rfl : Ui (-1) (-1)), u_I_2, u_L⟩
    exact Sn
set_option maxHeartbeats 4000000 in
set_option maxRecDepth 100000 in
def kf_211 : Nat → Nat → EN → Nat → JI → JI → Option (Int × JI × JI)
  | 0, _, _, _, _, _ => none
  | n + 1, dp, e, lab, I, L =>
    if lab = 0 then (stI (w2 I 105 0 0) (fun I_2 => (some (((I_2 105 12) : Int), I_2, L))))
    else none
set_option maxRecDepth 100000 in
theorem ke_211_0 (n : Nat) (dp : Nat) (e : EN) (I : JI) (L : JI) : kf_211 (n + 1) dp e 0 I L = (stI (w2 I 105 0 0) (fun I_2 => (some (((I_2 105 12) : Int), I_2, L)))) := by rw [kf_211.eq_2, if_pos (show (0 : Nat) = 0 from rfl)]
set_option maxHeartbeats 8000000 in
set_option maxRecDepth 100000 in
theorem ks_211 : ∀ (n : Nat) (dp : Nat) (e : EN) (lab : Nat) (I : Nat → Nat → Int32) (I' : JI) (L : Nat → Nat → Int64) (L' : JI), Rli I I' → Rll L L' → Sim R3 (g_211 n dp e lab I L) (kf_211 n dp e lab I' L') := by
  intro n
  induction n with
  | zero => intros; rw [kf_211.eq_1]; exact Sn
  | succ n ih =>
    intro dp e lab I I' L L' u_I u_L
    rw [g_211.eq_2, kf_211.eq_2]
    refine Sc Iff.rfl (fun _ => ?_) (fun _ => ?_)
    · refine SsJ (ri_up u_I (rfl : ((0 : Nat) : Int) = 0) (rfl : Ui (0) (0))) (fun I_2 I_2' u_I_2 => ?_)
      exact Sr ⟨(u_I_2 105 12), u_I_2, u_L⟩
    exact Sn
set_option maxHeartbeats 4000000 in
set_option maxRecDepth 100000 in
def kf_215 : Nat → Nat → EN → Nat → JI → JI → Int → Option (Int × JI × JI)
  | 0, _, _, _, _, _, _ => none
  | n + 1, dp, e, lab, I, L, i0 =>
    if lab = 0 then (if i0 < 97 then (some ((0 : Int), I, L)) else (if 122 < i0 then (some ((0 : Int), I, L)) else (some ((1 : Int), I, L))))
    else none
set_option maxRecDepth 100000 in
theorem ke_215_0 (n : Nat) (dp : Nat) (e : EN) (I : JI) (L : JI) (i0 : Int) : kf_215 (n + 1) dp e 0 I L i0 = (if i0 < 97 then (some ((0 : Int), I, L)) else (if 122 < i0 then (some ((0 : Int), I, L)) else (some ((1 : Int), I, L)))) := by rw [kf_215.eq_2, if_pos (show (0 : Nat) = 0 from rfl)]
set_option maxHeartbeats 8000000 in
set_option maxRecDepth 100000 in
theorem ks_215 : ∀ (n : Nat) (dp : Nat) (e : EN) (lab : Nat) (I : Nat → Nat → Int32) (I' : JI) (L : Nat → Nat → Int64) (L' : JI) (i0 : Int32) (i0' : Int), Rli I I' → Rll L L' → Ui i0 i0' → Sim R3 (g_215 n dp e lab I L i0) (kf_215 n dp e lab I' L' i0') := by
  intro n
  induction n with
  | zero => intros; rw [kf_215.eq_1]; exact Sn
  | succ n ih =>
    intro dp e lab I I' L L' i0 i0' u_I u_L u_i0
    rw [g_215.eq_2, kf_215.eq_2]
    refine Sc Iff.rfl (fun _ => ?_) (fun _ => ?_)
    · refine Sc (lt_up u_i0 (rfl : Ui (97) (97))) (fun c1 => ?_) (fun c1 => ?_)
      · exact Sr ⟨(rfl : Ui (0) (0)), u_I, u_L⟩
      · refine Sc (lt_up (rfl : Ui (122) (122)) u_i0) (fun c2 => ?_) (fun c2 => ?_)
        · exact Sr ⟨(rfl : Ui (0) (0)), u_I, u_L⟩
        · exact Sr ⟨(rfl : Ui (1) (1)), u_I, u_L⟩
    exact Sn
set_option maxHeartbeats 4000000 in
set_option maxRecDepth 100000 in
def kf_216 : Nat → Nat → EN → Nat → JI → JI → Int → Option (Int × JI × JI)
  | 0, _, _, _, _, _, _ => none
  | n + 1, dp, e, lab, I, L, i0 =>
    if lab = 0 then (if i0 < 48 then (some ((0 : Int), I, L)) else (if 57 < i0 then (some ((0 : Int), I, L)) else (some ((1 : Int), I, L))))
    else none
set_option maxRecDepth 100000 in
theorem ke_216_0 (n : Nat) (dp : Nat) (e : EN) (I : JI) (L : JI) (i0 : Int) : kf_216 (n + 1) dp e 0 I L i0 = (if i0 < 48 then (some ((0 : Int), I, L)) else (if 57 < i0 then (some ((0 : Int), I, L)) else (some ((1 : Int), I, L)))) := by rw [kf_216.eq_2, if_pos (show (0 : Nat) = 0 from rfl)]
set_option maxHeartbeats 8000000 in
set_option maxRecDepth 100000 in
theorem ks_216 : ∀ (n : Nat) (dp : Nat) (e : EN) (lab : Nat) (I : Nat → Nat → Int32) (I' : JI) (L : Nat → Nat → Int64) (L' : JI) (i0 : Int32) (i0' : Int), Rli I I' → Rll L L' → Ui i0 i0' → Sim R3 (g_216 n dp e lab I L i0) (kf_216 n dp e lab I' L' i0') := by
  intro n
  induction n with
  | zero => intros; rw [kf_216.eq_1]; exact Sn
  | succ n ih =>
    intro dp e lab I I' L L' i0 i0' u_I u_L u_i0
    rw [g_216.eq_2, kf_216.eq_2]
    refine Sc Iff.rfl (fun _ => ?_) (fun _ => ?_)
    · refine Sc (lt_up u_i0 (rfl : Ui (48) (48))) (fun c1 => ?_) (fun c1 => ?_)
      · exact Sr ⟨(rfl : Ui (0) (0)), u_I, u_L⟩
      · refine Sc (lt_up (rfl : Ui (57) (57)) u_i0) (fun c2 => ?_) (fun c2 => ?_)
        · exact Sr ⟨(rfl : Ui (0) (0)), u_I, u_L⟩
        · exact Sr ⟨(rfl : Ui (1) (1)), u_I, u_L⟩
    exact Sn
set_option maxHeartbeats 4000000 in
set_option maxRecDepth 100000 in
def kf_214 : Nat → Nat → EN → Nat → JI → JI → Option (JI × JI)
  | 0, _, _, _, _, _ => none
  | n + 1, dp, e, lab, I, L =>
    if lab = 0 then (stI (w2 I 105 8 (I 105 9)) (fun I_5 => (kf_214 n dp e 1 I_5 L)))
    else if lab = 1 then (if (I 105 7) ≤ (I 105 8) then (kf_214 n dp e 2 I L) else (if 0 ≤ (I 105 8) ∧ (I 105 8) < 400 then (if (I 110 (I 105 8)) = 32 then (if -2147483648 ≤ (I 105 8) + 1 ∧ (I 105 8) + 1 ≤ 2147483647 then (stI (w2 I 105 8 ((I 105 8) + 1)) (fun I_40 => (kf_214 n dp e 1 I_40 L))) else none) else (kf_214 n dp e 2 I L)) else none))
    else if lab = 2 then (stI (w2 I 105 9 (I 105 8)) (fun I_51 => (stI (w2 L 105 11 0) (fun L_56 => (if (I_51 105 8) = (I_51 105 7) then (stI (w2 I_51 105 10 0) (fun I_114 => (if (I_114 105 10) = 3 then (if 0 ≤ (I_114 105 8) ∧ (I_114 105 8) < 400 then (stI (w2 L_56 105 11 (I_114 110 (I_114 105 8))) (fun L_136 => (if -2147483648 ≤ (I_114 105 9) + 1 ∧ (I_114 105 9) + 1 ≤ 2147483647 then (stI (w2 I_114 105 9 ((I_114 105 9) + 1)) (fun I_146 => (kf_214 n dp e 3 I_146 L_136))) else none))) else none) else (kf_214 n dp e 3 I_114 L_56)))) else (if 0 ≤ (I_51 105 8) ∧ (I_51 105 8) < 400 then (if 1 ≤ dp then ((kf_215 n (dp - 1) e 0 I_51 L_56 (I_51 110 (I_51 105 8))).bind (fun ⟨x0_84, I0_84, L0_84⟩ => (if x0_84 = 0 then (if 0 ≤ (I0_84 105 8) ∧ (I0_84 105 8) < 400 then (if 1 ≤ dp then ((kf_216 n (dp - 1) e 0 I0_84 L0_84 (I0_84 110 (I0_84 105 8))).bind (fun ⟨x1_103, I1_103, L1_103⟩ => (if x1_103 = 0 then (stI (w2 I1_103 105 10 3) (fun I_114 => (if (I_114 105 10) = 3 then (if 0 ≤ (I_114 105 8) ∧ (I_114 105 8) < 400 then (stI (w2 L1_103 105 11 (I_114 110 (I_114 105 8))) (fun L_136 => (if -2147483648 ≤ (I_114 105 9) + 1 ∧ (I_114 105 9) + 1 ≤ 2147483647 then (stI (w2 I_114 105 9 ((I_114 105 9) + 1)) (fun I_146 => (kf_214 n dp e 3 I_146 L_136))) else none))) else none) else (kf_214 n dp e 3 I_114 L1_103)))) else (stI (w2 I1_103 105 10 2) (fun I_114 => (if (I_114 105 10) = 3 then (if 0 ≤ (I_114 105 8) ∧ (I_114 105 8) < 400 then (stI (w2 L1_103 105 11 (I_114 110 (I_114 105 8))) (fun L_136 => (if -2147483648 ≤ (I_114 105 9) + 1 ∧ (I_114 105 9) + 1 ≤ 2147483647 then (stI (w2 I_114 105 9 ((I_114 105 9) + 1)) (fun I_146 => (kf_214 n dp e 3 I_146 L_136))) else none))) else none) else (kf_214 n dp e 3 I_114 L1_103))))))) else none) else none) else (stI (w2 I0_84 105 10 1) (fun I_114 => (if (I_114 105 10) = 3 then (if 0 ≤ (I_114 105 8) ∧ (I_114 105 8) < 400 then (stI (w2 L0_84 105 11 (I_114 110 (I_114 105 8))) (fun L_136 => (if -2147483648 ≤ (I_114 105 9) + 1 ∧ (I_114 105 9) + 1 ≤ 2147483647 then (stI (w2 I_114 105 9 ((I_114 105 9) + 1)) (fun I_146 => (kf_214 n dp e 3 I_146 L_136))) else none))) else none) else (kf_214 n dp e 3 I_114 L0_84))))))) else none) else none))))))
    else if lab = 3 then (if (I 105 10) = 1 then (if (I 105 7) ≤ (I 105 9) then (kf_214 n dp e 4 I L) else (if 0 ≤ (I 105 9) ∧ (I 105 9) < 400 then (if 1 ≤ dp then ((kf_215 n (dp - 1) e 0 I L (I 110 (I 105 9))).bind (fun ⟨x0_177, I0_177, L0_177⟩ => (if x0_177 = 0 then (kf_214 n dp e 4 I0_177 L0_177) else (if -2147483648 ≤ (I0_177 105 9) - (I0_177 105 8) ∧ (I0_177 105 9) - (I0_177 105 8) ≤ 2147483647 then (if 10 ≤ ((I0_177 105 9) - (I0_177 105 8)) then (stI (w2 L0_177 105 11 (-1)) (fun L_227 => (if -2147483648 ≤ (I0_177 105 9) + 1 ∧ (I0_177 105 9) + 1 ≤ 2147483647 then (stI (w2 I0_177 105 9 ((I0_177 105 9) + 1)) (fun I_237 => (kf_214 n dp e 3 I_237 L_227))) else none))) else (if 0 ≤ (I0_177 105 9) ∧ (I0_177 105 9) < 400 then (if (-9223372036854775808 ≤ (L0_177 105 11) * 32 ∧ (L0_177 105 11) * 32 ≤ 9223372036854775807) ∧ (-9223372036854775808 ≤ ((L0_177 105 11) * 32) + (I0_177 110 (I0_177 105 9)) ∧ ((L0_177 105 11) * 32) + (I0_177 110 (I0_177 105 9)) ≤ 9223372036854775807) ∧ (-9223372036854775808 ≤ (((L0_177 105 11) * 32) + (I0_177 110 (I0_177 105 9))) - 96 ∧ (((L0_177 105 11) * 32) + (I0_177 110 (I0_177 105 9))) - 96 ≤ 9223372036854775807) then (stI (w2 L0_177 105 11 ((((L0_177 105 11) * 32) + (I0_177 110 (I0_177 105 9))) - 96)) (fun L_227 => (if -2147483648 ≤ (I0_177 105 9) + 1 ∧ (I0_177 105 9) + 1 ≤ 2147483647 then (stI (w2 I0_177 105 9 ((I0_177 105 9) + 1)) (fun I_237 => (kf_214 n dp e 3 I_237 L_227))) else none))) else none) else none)) else none)))) else none) else none)) else (kf_214 n dp e 4 I L))
    else if lab = 4 then (if (I 105 10) = 2 then (if (I 105 7) ≤ (I 105 9) then (some (I, L)) else (if 0 ≤ (I 105 9) ∧ (I 105 9) < 400 then (if 1 ≤ dp then ((kf_216 n (dp - 1) e 0 I L (I 110 (I 105 9))).bind (fun ⟨x0_271, I0_271, L0_271⟩ => (if x0_271 = 0 then (some (I0_271, L0_271)) else (if (L0_271 105 11) ≤ 1000000 then (if 0 ≤ (I0_271 105 9) ∧ (I0_271 105 9) < 400 then (if (-9223372036854775808 ≤ (L0_271 105 11) * 10 ∧ (L0_271 105 11) * 10 ≤ 9223372036854775807) ∧ (-9223372036854775808 ≤ ((L0_271 105 11) * 10) + (I0_271 110 (I0_271 105 9)) ∧ ((L0_271 105 11) * 10) + (I0_271 110 (I0_271 105 9)) ≤ 9223372036854775807) ∧ (-9223372036854775808 ≤ (((L0_271 105 11) * 10) + (I0_271 110 (I0_271 105 9))) - 48 ∧ (((L0_271 105 11) * 10) + (I0_271 110 (I0_271 105 9))) - 48 ≤ 9223372036854775807) then (stI (w2 L0_271 105 11 ((((L0_271 105 11) * 10) + (I0_271 110 (I0_271 105 9))) - 48)) (fun L_319 => (if -2147483648 ≤ (I0_271 105 9) + 1 ∧ (I0_271 105 9) + 1 ≤ 2147483647 then (stI (w2 I0_271 105 9 ((I0_271 105 9) + 1)) (fun I_329 => (kf_214 n dp e 4 I_329 L_319))) else none))) else none) else none) else (stI (w2 L0_271 105 11 (L0_271 105 11)) (fun L_319 => (if -2147483648 ≤ (I0_271 105 9) + 1 ∧ (I0_271 105 9) + 1 ≤ 2147483647 then (stI (w2 I0_271 105 9 ((I0_271 105 9) + 1)) (fun I_329 => (kf_214 n dp e 4 I_329 L_319))) else none))))))) else none) else none)) else (some (I, L)))
    else none
set_option maxRecDepth 100000 in
theorem ke_214_0 (n : Nat) (dp : Nat) (e : EN) (I : JI) (L : JI) : kf_214 (n + 1) dp e 0 I L = (stI (w2 I 105 8 (I 105 9)) (fun I_5 => (kf_214 n dp e 1 I_5 L))) := by rw [kf_214.eq_2, if_pos (show (0 : Nat) = 0 from rfl)]
set_option maxRecDepth 100000 in
theorem ke_214_1 (n : Nat) (dp : Nat) (e : EN) (I : JI) (L : JI) : kf_214 (n + 1) dp e 1 I L = (if (I 105 7) ≤ (I 105 8) then (kf_214 n dp e 2 I L) else (if 0 ≤ (I 105 8) ∧ (I 105 8) < 400 then (if (I 110 (I 105 8)) = 32 then (if -2147483648 ≤ (I 105 8) + 1 ∧ (I 105 8) + 1 ≤ 2147483647 then (stI (w2 I 105 8 ((I 105 8) + 1)) (fun I_40 => (kf_214 n dp e 1 I_40 L))) else none) else (kf_214 n dp e 2 I L)) else none)) := by rw [kf_214.eq_2, if_neg (show ¬ ((1 : Nat) = 0) by decide), if_pos (show (1 : Nat) = 1 from rfl)]
set_option maxRecDepth 100000 in
theorem ke_214_2 (n : Nat) (dp : Nat) (e : EN) (I : JI) (L : JI) : kf_214 (n + 1) dp e 2 I L = (stI (w2 I 105 9 (I 105 8)) (fun I_51 => (stI (w2 L 105 11 0) (fun L_56 => (if (I_51 105 8) = (I_51 105 7) then (stI (w2 I_51 105 10 0) (fun I_114 => (if (I_114 105 10) = 3 then (if 0 ≤ (I_114 105 8) ∧ (I_114 105 8) < 400 then (stI (w2 L_56 105 11 (I_114 110 (I_114 105 8))) (fun L_136 => (if -2147483648 ≤ (I_114 105 9) + 1 ∧ (I_114 105 9) + 1 ≤ 2147483647 then (stI (w2 I_114 105 9 ((I_114 105 9) + 1)) (fun I_146 => (kf_214 n dp e 3 I_146 L_136))) else none))) else none) else (kf_214 n dp e 3 I_114 L_56)))) else (if 0 ≤ (I_51 105 8) ∧ (I_51 105 8) < 400 then (if 1 ≤ dp then ((kf_215 n (dp - 1) e 0 I_51 L_56 (I_51 110 (I_51 105 8))).bind (fun ⟨x0_84, I0_84, L0_84⟩ => (if x0_84 = 0 then (if 0 ≤ (I0_84 105 8) ∧ (I0_84 105 8) < 400 then (if 1 ≤ dp then ((kf_216 n (dp - 1) e 0 I0_84 L0_84 (I0_84 110 (I0_84 105 8))).bind (fun ⟨x1_103, I1_103, L1_103⟩ => (if x1_103 = 0 then (stI (w2 I1_103 105 10 3) (fun I_114 => (if (I_114 105 10) = 3 then (if 0 ≤ (I_114 105 8) ∧ (I_114 105 8) < 400 then (stI (w2 L1_103 105 11 (I_114 110 (I_114 105 8))) (fun L_136 => (if -2147483648 ≤ (I_114 105 9) + 1 ∧ (I_114 105 9) + 1 ≤ 2147483647 then (stI (w2 I_114 105 9 ((I_114 105 9) + 1)) (fun I_146 => (kf_214 n dp e 3 I_146 L_136))) else none))) else none) else (kf_214 n dp e 3 I_114 L1_103)))) else (stI (w2 I1_103 105 10 2) (fun I_114 => (if (I_114 105 10) = 3 then (if 0 ≤ (I_114 105 8) ∧ (I_114 105 8) < 400 then (stI (w2 L1_103 105 11 (I_114 110 (I_114 105 8))) (fun L_136 => (if -2147483648 ≤ (I_114 105 9) + 1 ∧ (I_114 105 9) + 1 ≤ 2147483647 then (stI (w2 I_114 105 9 ((I_114 105 9) + 1)) (fun I_146 => (kf_214 n dp e 3 I_146 L_136))) else none))) else none) else (kf_214 n dp e 3 I_114 L1_103))))))) else none) else none) else (stI (w2 I0_84 105 10 1) (fun I_114 => (if (I_114 105 10) = 3 then (if 0 ≤ (I_114 105 8) ∧ (I_114 105 8) < 400 then (stI (w2 L0_84 105 11 (I_114 110 (I_114 105 8))) (fun L_136 => (if -2147483648 ≤ (I_114 105 9) + 1 ∧ (I_114 105 9) + 1 ≤ 2147483647 then (stI (w2 I_114 105 9 ((I_114 105 9) + 1)) (fun I_146 => (kf_214 n dp e 3 I_146 L_136))) else none))) else none) else (kf_214 n dp e 3 I_114 L0_84))))))) else none) else none)))))) := by rw [kf_214.eq_2, if_neg (show ¬ ((2 : Nat) = 0) by decide), if_neg (show ¬ ((2 : Nat) = 1) by decide), if_pos (show (2 : Nat) = 2 from rfl)]
set_option maxRecDepth 100000 in
theorem ke_214_3 (n : Nat) (dp : Nat) (e : EN) (I : JI) (L : JI) : kf_214 (n + 1) dp e 3 I L = (if (I 105 10) = 1 then (if (I 105 7) ≤ (I 105 9) then (kf_214 n dp e 4 I L) else (if 0 ≤ (I 105 9) ∧ (I 105 9) < 400 then (if 1 ≤ dp then ((kf_215 n (dp - 1) e 0 I L (I 110 (I 105 9))).bind (fun ⟨x0_177, I0_177, L0_177⟩ => (if x0_177 = 0 then (kf_214 n dp e 4 I0_177 L0_177) else (if -2147483648 ≤ (I0_177 105 9) - (I0_177 105 8) ∧ (I0_177 105 9) - (I0_177 105 8) ≤ 2147483647 then (if 10 ≤ ((I0_177 105 9) - (I0_177 105 8)) then (stI (w2 L0_177 105 11 (-1)) (fun L_227 => (if -2147483648 ≤ (I0_177 105 9) + 1 ∧ (I0_177 105 9) + 1 ≤ 2147483647 then (stI (w2 I0_177 105 9 ((I0_177 105 9) + 1)) (fun I_237 => (kf_214 n dp e 3 I_237 L_227))) else none))) else (if 0 ≤ (I0_177 105 9) ∧ (I0_177 105 9) < 400 then (if (-9223372036854775808 ≤ (L0_177 105 11) * 32 ∧ (L0_177 105 11) * 32 ≤ 9223372036854775807) ∧ (-9223372036854775808 ≤ ((L0_177 105 11) * 32) + (I0_177 110 (I0_177 105 9)) ∧ ((L0_177 105 11) * 32) + (I0_177 110 (I0_177 105 9)) ≤ 9223372036854775807) ∧ (-9223372036854775808 ≤ (((L0_177 105 11) * 32) + (I0_177 110 (I0_177 105 9))) - 96 ∧ (((L0_177 105 11) * 32) + (I0_177 110 (I0_177 105 9))) - 96 ≤ 9223372036854775807) then (stI (w2 L0_177 105 11 ((((L0_177 105 11) * 32) + (I0_177 110 (I0_177 105 9))) - 96)) (fun L_227 => (if -2147483648 ≤ (I0_177 105 9) + 1 ∧ (I0_177 105 9) + 1 ≤ 2147483647 then (stI (w2 I0_177 105 9 ((I0_177 105 9) + 1)) (fun I_237 => (kf_214 n dp e 3 I_237 L_227))) else none))) else none) else none)) else none)))) else none) else none)) else (kf_214 n dp e 4 I L)) := by rw [kf_214.eq_2, if_neg (show ¬ ((3 : Nat) = 0) by decide), if_neg (show ¬ ((3 : Nat) = 1) by decide), if_neg (show ¬ ((3 : Nat) = 2) by decide), if_pos (show (3 : Nat) = 3 from rfl)]
set_option maxRecDepth 100000 in
theorem ke_214_4 (n : Nat) (dp : Nat) (e : EN) (I : JI) (L : JI) : kf_214 (n + 1) dp e 4 I L = (if (I 105 10) = 2 then (if (I 105 7) ≤ (I 105 9) then (some (I, L)) else (if 0 ≤ (I 105 9) ∧ (I 105 9) < 400 then (if 1 ≤ dp then ((kf_216 n (dp - 1) e 0 I L (I 110 (I 105 9))).bind (fun ⟨x0_271, I0_271, L0_271⟩ => (if x0_271 = 0 then (some (I0_271, L0_271)) else (if (L0_271 105 11) ≤ 1000000 then (if 0 ≤ (I0_271 105 9) ∧ (I0_271 105 9) < 400 then (if (-9223372036854775808 ≤ (L0_271 105 11) * 10 ∧ (L0_271 105 11) * 10 ≤ 9223372036854775807) ∧ (-9223372036854775808 ≤ ((L0_271 105 11) * 10) + (I0_271 110 (I0_271 105 9)) ∧ ((L0_271 105 11) * 10) + (I0_271 110 (I0_271 105 9)) ≤ 9223372036854775807) ∧ (-9223372036854775808 ≤ (((L0_271 105 11) * 10) + (I0_271 110 (I0_271 105 9))) - 48 ∧ (((L0_271 105 11) * 10) + (I0_271 110 (I0_271 105 9))) - 48 ≤ 9223372036854775807) then (stI (w2 L0_271 105 11 ((((L0_271 105 11) * 10) + (I0_271 110 (I0_271 105 9))) - 48)) (fun L_319 => (if -2147483648 ≤ (I0_271 105 9) + 1 ∧ (I0_271 105 9) + 1 ≤ 2147483647 then (stI (w2 I0_271 105 9 ((I0_271 105 9) + 1)) (fun I_329 => (kf_214 n dp e 4 I_329 L_319))) else none))) else none) else none) else (stI (w2 L0_271 105 11 (L0_271 105 11)) (fun L_319 => (if -2147483648 ≤ (I0_271 105 9) + 1 ∧ (I0_271 105 9) + 1 ≤ 2147483647 then (stI (w2 I0_271 105 9 ((I0_271 105 9) + 1)) (fun I_329 => (kf_214 n dp e 4 I_329 L_319))) else none))))))) else none) else none)) else (some (I, L))) := by rw [kf_214.eq_2, if_neg (show ¬ ((4 : Nat) = 0) by decide), if_neg (show ¬ ((4 : Nat) = 1) by decide), if_neg (show ¬ ((4 : Nat) = 2) by decide), if_neg (show ¬ ((4 : Nat) = 3) by decide), if_pos (show (4 : Nat) = 4 from rfl)]
set_option maxHeartbeats 8000000 in
set_option maxRecDepth 100000 in
theorem ks_214 : ∀ (n : Nat) (dp : Nat) (e : EN) (lab : Nat) (I : Nat → Nat → Int32) (I' : JI) (L : Nat → Nat → Int64) (L' : JI), Rli I I' → Rll L L' → Sim R2 (g_214 n dp e lab I L) (kf_214 n dp e lab I' L') := by
  intro n
  induction n with
  | zero => intros; rw [kf_214.eq_1]; exact Sn
  | succ n ih =>
    intro dp e lab I I' L L' u_I u_L
    rw [g_214.eq_2, kf_214.eq_2]
    refine Sc Iff.rfl (fun _ => ?_) (fun _ => ?_)
    · refine SsJ (ri_up u_I (rfl : ((8 : Nat) : Int) = 8) (u_I 105 9)) (fun I_5 I_5' u_I_5 => ?_)
      exact (ih dp e 1 _ _ _ _ u_I_5 u_L)
    refine Sc Iff.rfl (fun _ => ?_) (fun _ => ?_)
    · refine Sc (le_up (u_I 105 7) (u_I 105 8)) (fun c1 => ?_) (fun c1 => ?_)
      · exact (ih dp e 2 _ _ _ _ u_I u_L)
      · refine Sc (ix_up (u_I 105 8)) (fun c2 => ?_) (fun _ => Sn)
        refine Sc (eq_up (ui_rd (a := 110) u_I (u_I 105 8) c2.1) (rfl : Ui (32) (32))) (fun c3 => ?_) (fun c3 => ?_)
        · refine Sg (fun g4 => ?_)
          refine SsJ (ri_up u_I (rfl : ((8 : Nat) : Int) = 8) (ui_add (u_I 105 8) (rfl : Ui (1) (1)) g4)) (fun I_40 I_40' u_I_40 => ?_)
          exact (ih dp e 1 _ _ _ _ u_I_40 u_L)
        · exact (ih dp e 2 _ _ _ _ u_I u_L)
    refine Sc Iff.rfl (fun _ => ?_) (fun _ => ?_)
    · refine SsJ (ri_up u_I (rfl : ((9 : Nat) : Int) = 9) (u_I 105 8)) (fun I_51 I_51' u_I_51 => ?_)
      refine SsM (rl_up u_L (rfl : ((11 : Nat) : Int) = 11) (rfl : Ul (0) (0))) (fun L_56 L_56' u_L_56 => ?_)
      refine Sc (eq_up (u_I_51 105 8) (u_I_51 105 7)) (fun c1 => ?_) (fun c1 => ?_)
      · refine SsJ (ri_up u_I_51 (rfl : ((10 : Nat) : Int) = 10) (rfl : Ui (0) (0))) (fun I_114 I_114' u_I_114 => ?_)
        refine Sc (eq_up (u_I_114 105 10) (rfl : Ui (3) (3))) (fun c2 => ?_) (fun c2 => ?_)
        · refine Sc (ix_up (u_I_114 105 8)) (fun c3 => ?_) (fun _ => Sn)
          refine SsM (rl_up u_L_56 (rfl : ((11 : Nat) : Int) = 11) (ul_i2l (ui_rd (a := 110) u_I_114 (u_I_114 105 8) c3.1))) (fun L_136 L_136' u_L_136 => ?_)
          refine Sg (fun g4 => ?_)
          refine SsJ (ri_up u_I_114 (rfl : ((9 : Nat) : Int) = 9) (ui_add (u_I_114 105 9) (rfl : Ui (1) (1)) g4)) (fun I_146 I_146' u_I_146 => ?_)
          exact (ih dp e 3 _ _ _ _ u_I_146 u_L_136)
        · exact (ih dp e 3 _ _ _ _ u_I_114 u_L_56)
      · refine Sc (ix_up (u_I_51 105 8)) (fun c5 => ?_) (fun _ => Sn)
        refine Sc Iff.rfl (fun c6 => ?_) (fun _ => Sn)
        refine Sb3 (ks_215 n (dp - 1) e 0 _ _ _ _ _ _ u_I_51 u_L_56 (ui_rd (a := 110) u_I_51 (u_I_51 105 8) c5.1)) (fun x0_84 x0_84' I0_84 I0_84' L0_84 L0_84' u_x0_84 u_I0_84 u_L0_84 => ?_)
        refine Sc (eq_up u_x0_84 (rfl : Ui 0 0)) (fun c7 => ?_) (fun c7 => ?_)
        · refine Sc (ix_up (u_I0_84 105 8)) (fun c8 => ?_) (fun _ => Sn)
          refine Sc Iff.rfl (fun c9 => ?_) (fun _ => Sn)
          refine Sb3 (ks_216 n (dp - 1) e 0 _ _ _ _ _ _ u_I0_84 u_L0_84 (ui_rd (a := 110) u_I0_84 (u_I0_84 105 8) c8.1)) (fun x1_103 x1_103' I1_103 I1_103' L1_103 L1_103' u_x1_103 u_I1_103 u_L1_103 => ?_)
          refine Sc (eq_up u_x1_103 (rfl : Ui 0 0)) (fun c10 => ?_) (fun c10 => ?_)
          · refine SsJ (ri_up u_I1_103 (rfl : ((10 : Nat) : Int) = 10) (rfl : Ui (3) (3))) (fun I_114 I_114' u_I_114 => ?_)
            refine Sc (eq_up (u_I_114 105 10) (rfl : Ui (3) (3))) (fun c11 => ?_) (fun c11 => ?_)
            · refine Sc (ix_up (u_I_114 105 8)) (fun c12 => ?_) (fun _ => Sn)
              refine SsM (rl_up u_L1_103 (rfl : ((11 : Nat) : Int) = 11) (ul_i2l (ui_rd (a := 110) u_I_114 (u_I_114 105 8) c12.1))) (fun L_136 L_136' u_L_136 => ?_)
              refine Sg (fun g13 => ?_)
              refine SsJ (ri_up u_I_114 (rfl : ((9 : Nat) : Int) = 9) (ui_add (u_I_114 105 9) (rfl : Ui (1) (1)) g13)) (fun I_146 I_146' u_I_146 => ?_)
              exact (ih dp e 3 _ _ _ _ u_I_146 u_L_136)
            · exact (ih dp e 3 _ _ _ _ u_I_114 u_L1_103)
          · refine SsJ (ri_up u_I1_103 (rfl : ((10 : Nat) : Int) = 10) (rfl : Ui (2) (2))) (fun I_114 I_114' u_I_114 => ?_)
            refine Sc (eq_up (u_I_114 105 10) (rfl : Ui (3) (3))) (fun c14 => ?_) (fun c14 => ?_)
            · refine Sc (ix_up (u_I_114 105 8)) (fun c15 => ?_) (fun _ => Sn)
              refine SsM (rl_up u_L1_103 (rfl : ((11 : Nat) : Int) = 11) (ul_i2l (ui_rd (a := 110) u_I_114 (u_I_114 105 8) c15.1))) (fun L_136 L_136' u_L_136 => ?_)
              refine Sg (fun g16 => ?_)
              refine SsJ (ri_up u_I_114 (rfl : ((9 : Nat) : Int) = 9) (ui_add (u_I_114 105 9) (rfl : Ui (1) (1)) g16)) (fun I_146 I_146' u_I_146 => ?_)
              exact (ih dp e 3 _ _ _ _ u_I_146 u_L_136)
            · exact (ih dp e 3 _ _ _ _ u_I_114 u_L1_103)
        · refine SsJ (ri_up u_I0_84 (rfl : ((10 : Nat) : Int) = 10) (rfl : Ui (1) (1))) (fun I_114 I_114' u_I_114 => ?_)
          refine Sc (eq_up (u_I_114 105 10) (rfl : Ui (3) (3))) (fun c17 => ?_) (fun c17 => ?_)
          · refine Sc (ix_up (u_I_114 105 8)) (fun c18 => ?_) (fun _ => Sn)
            refine SsM (rl_up u_L0_84 (rfl : ((11 : Nat) : Int) = 11) (ul_i2l (ui_rd (a := 110) u_I_114 (u_I_114 105 8) c18.1))) (fun L_136 L_136' u_L_136 => ?_)
            refine Sg (fun g19 => ?_)
            refine SsJ (ri_up u_I_114 (rfl : ((9 : Nat) : Int) = 9) (ui_add (u_I_114 105 9) (rfl : Ui (1) (1)) g19)) (fun I_146 I_146' u_I_146 => ?_)
            exact (ih dp e 3 _ _ _ _ u_I_146 u_L_136)
          · exact (ih dp e 3 _ _ _ _ u_I_114 u_L0_84)
    refine Sc Iff.rfl (fun _ => ?_) (fun _ => ?_)
    · refine Sc (eq_up (u_I 105 10) (rfl : Ui (1) (1))) (fun c1 => ?_) (fun c1 => ?_)
      · refine Sc (le_up (u_I 105 7) (u_I 105 9)) (fun c2 => ?_) (fun c2 => ?_)
        · exact (ih dp e 4 _ _ _ _ u_I u_L)
        · refine Sc (ix_up (u_I 105 9)) (fun c3 => ?_) (fun _ => Sn)
          refine Sc Iff.rfl (fun c4 => ?_) (fun _ => Sn)
          refine Sb3 (ks_215 n (dp - 1) e 0 _ _ _ _ _ _ u_I u_L (ui_rd (a := 110) u_I (u_I 105 9) c3.1)) (fun x0_177 x0_177' I0_177 I0_177' L0_177 L0_177' u_x0_177 u_I0_177 u_L0_177 => ?_)
          refine Sc (eq_up u_x0_177 (rfl : Ui 0 0)) (fun c5 => ?_) (fun c5 => ?_)
          · exact (ih dp e 4 _ _ _ _ u_I0_177 u_L0_177)
          · refine Sg (fun g6 => ?_)
            refine Sc (le_up (rfl : Ui (10) (10)) (ui_sub (u_I0_177 105 9) (u_I0_177 105 8) g6)) (fun c7 => ?_) (fun c7 => ?_)
            · refine SsM (rl_up u_L0_177 (rfl : ((11 : Nat) : Int) = 11) (rfl : Ul (-1) (-1))) (fun L_227 L_227' u_L_227 => ?_)
              refine Sg (fun g8 => ?_)
              refine SsJ (ri_up u_I0_177 (rfl : ((9 : Nat) : Int) = 9) (ui_add (u_I0_177 105 9) (rfl : Ui (1) (1)) g8)) (fun I_237 I_237' u_I_237 => ?_)
              exact (ih dp e 3 _ _ _ _ u_I_237 u_L_227)
            · refine Sc (ix_up (u_I0_177 105 9)) (fun c9 => ?_) (fun _ => Sn)
              refine Sg (fun g10 => ?_)
              refine SsM (rl_up u_L0_177 (rfl : ((11 : Nat) : Int) = 11) (ul_sub (ul_add (ul_mul (u_L0_177 105 11) (rfl : Ul (32) (32)) g10.1) (ul_i2l (ui_rd (a := 110) u_I0_177 (u_I0_177 105 9) c9.1)) g10.2.1) (rfl : Ul (96) (96)) g10.2.2)) (fun L_227 L_227' u_L_227 => ?_)
              refine Sg (fun g11 => ?_)
              refine SsJ (ri_up u_I0_177 (rfl : ((9 : Nat) : Int) = 9) (ui_add (u_I0_177 105 9) (rfl : Ui (1) (1)) g11)) (fun I_237 I_237' u_I_237 => ?_)
              exact (ih dp e 3 _ _ _ _ u_I_237 u_L_227)
      · exact (ih dp e 4 _ _ _ _ u_I u_L)
    refine Sc Iff.rfl (fun _ => ?_) (fun _ => ?_)
    · refine Sc (eq_up (u_I 105 10) (rfl : Ui (2) (2))) (fun c1 => ?_) (fun c1 => ?_)
      · refine Sc (le_up (u_I 105 7) (u_I 105 9)) (fun c2 => ?_) (fun c2 => ?_)
        · exact Sr ⟨u_I, u_L⟩
        · refine Sc (ix_up (u_I 105 9)) (fun c3 => ?_) (fun _ => Sn)
          refine Sc Iff.rfl (fun c4 => ?_) (fun _ => Sn)
          refine Sb3 (ks_216 n (dp - 1) e 0 _ _ _ _ _ _ u_I u_L (ui_rd (a := 110) u_I (u_I 105 9) c3.1)) (fun x0_271 x0_271' I0_271 I0_271' L0_271 L0_271' u_x0_271 u_I0_271 u_L0_271 => ?_)
          refine Sc (eq_up u_x0_271 (rfl : Ui 0 0)) (fun c5 => ?_) (fun c5 => ?_)
          · exact Sr ⟨u_I0_271, u_L0_271⟩
          · refine Sc (lcle_up (u_L0_271 105 11) (rfl : Ul (1000000) (1000000))) (fun c6 => ?_) (fun c6 => ?_)
            · refine Sc (ix_up (u_I0_271 105 9)) (fun c7 => ?_) (fun _ => Sn)
              refine Sg (fun g8 => ?_)
              refine SsM (rl_up u_L0_271 (rfl : ((11 : Nat) : Int) = 11) (ul_sub (ul_add (ul_mul (u_L0_271 105 11) (rfl : Ul (10) (10)) g8.1) (ul_i2l (ui_rd (a := 110) u_I0_271 (u_I0_271 105 9) c7.1)) g8.2.1) (rfl : Ul (48) (48)) g8.2.2)) (fun L_319 L_319' u_L_319 => ?_)
              refine Sg (fun g9 => ?_)
              refine SsJ (ri_up u_I0_271 (rfl : ((9 : Nat) : Int) = 9) (ui_add (u_I0_271 105 9) (rfl : Ui (1) (1)) g9)) (fun I_329 I_329' u_I_329 => ?_)
              exact (ih dp e 4 _ _ _ _ u_I_329 u_L_319)
            · refine SsM (rl_up u_L0_271 (rfl : ((11 : Nat) : Int) = 11) (u_L0_271 105 11)) (fun L_319 L_319' u_L_319 => ?_)
              refine Sg (fun g10 => ?_)
              refine SsJ (ri_up u_I0_271 (rfl : ((9 : Nat) : Int) = 9) (ui_add (u_I0_271 105 9) (rfl : Ui (1) (1)) g10)) (fun I_329 I_329' u_I_329 => ?_)
              exact (ih dp e 4 _ _ _ _ u_I_329 u_L_319)
      · exact Sr ⟨u_I, u_L⟩
    exact Sn
set_option maxHeartbeats 4000000 in
set_option maxRecDepth 100000 in
def kf_213 : Nat → Nat → EN → Nat → JI → JI → Option (JI × JI)
  | 0, _, _, _, _, _ => none
  | n + 1, dp, e, lab, I, L =>
    if lab = 0 then (stI (w2 I 105 9 0) (fun I_2 => (stI (w2 I_2 105 13 0) (fun I_7 => (stI (w2 I_7 105 12 (-1)) (fun I_12 => (if 1 ≤ dp then ((kf_214 n (dp - 1) e 0 I_12 L).bind (fun ⟨I0_16, L0_16⟩ => (some (I0_16, L0_16)))) else none)))))))
    else none
set_option maxRecDepth 100000 in
theorem ke_213_0 (n : Nat) (dp : Nat) (e : EN) (I : JI) (L : JI) : kf_213 (n + 1) dp e 0 I L = (stI (w2 I 105 9 0) (fun I_2 => (stI (w2 I_2 105 13 0) (fun I_7 => (stI (w2 I_7 105 12 (-1)) (fun I_12 => (if 1 ≤ dp then ((kf_214 n (dp - 1) e 0 I_12 L).bind (fun ⟨I0_16, L0_16⟩ => (some (I0_16, L0_16)))) else none))))))) := by rw [kf_213.eq_2, if_pos (show (0 : Nat) = 0 from rfl)]
set_option maxHeartbeats 8000000 in
set_option maxRecDepth 100000 in
theorem ks_213 : ∀ (n : Nat) (dp : Nat) (e : EN) (lab : Nat) (I : Nat → Nat → Int32) (I' : JI) (L : Nat → Nat → Int64) (L' : JI), Rli I I' → Rll L L' → Sim R2 (g_213 n dp e lab I L) (kf_213 n dp e lab I' L') := by
  intro n
  induction n with
  | zero => intros; rw [kf_213.eq_1]; exact Sn
  | succ n ih =>
    intro dp e lab I I' L L' u_I u_L
    rw [g_213.eq_2, kf_213.eq_2]
    refine Sc Iff.rfl (fun _ => ?_) (fun _ => ?_)
    · refine SsJ (ri_up u_I (rfl : ((9 : Nat) : Int) = 9) (rfl : Ui (0) (0))) (fun I_2 I_2' u_I_2 => ?_)
      refine SsJ (ri_up u_I_2 (rfl : ((13 : Nat) : Int) = 13) (rfl : Ui (0) (0))) (fun I_7 I_7' u_I_7 => ?_)
      refine SsJ (ri_up u_I_7 (rfl : ((12 : Nat) : Int) = 12) (rfl : Ui (-1) (-1))) (fun I_12 I_12' u_I_12 => ?_)
      refine Sc Iff.rfl (fun c1 => ?_) (fun _ => Sn)
      refine Sb2 (ks_214 n (dp - 1) e 0 _ _ _ _ u_I_12 u_L) (fun I0_16 I0_16' L0_16 L0_16' u_I0_16 u_L0_16 => ?_)
      exact Sr ⟨u_I0_16, u_L0_16⟩
    exact Sn
set_option maxHeartbeats 4000000 in
set_option maxRecDepth 100000 in
def kf_218 : Nat → Nat → EN → Nat → JI → JI → Int → Option (Int × JI × JI)
  | 0, _, _, _, _, _, _ => none
  | n + 1, dp, e, lab, I, L, j1 =>
    if lab = 0 then (if (I 105 10) = 1 then (if (L 105 11) = j1 then (some ((1 : Int), I, L)) else (some ((0 : Int), I, L))) else (some ((0 : Int), I, L)))
    else none
set_option maxRecDepth 100000 in
theorem ke_218_0 (n : Nat) (dp : Nat) (e : EN) (I : JI) (L : JI) (j1 : Int) : kf_218 (n + 1) dp e 0 I L j1 = (if (I 105 10) = 1 then (if (L 105 11) = j1 then (some ((1 : Int), I, L)) else (some ((0 : Int), I, L))) else (some ((0 : Int), I, L))) := by rw [kf_218.eq_2, if_pos (show (0 : Nat) = 0 from rfl)]
set_option maxHeartbeats 8000000 in
set_option maxRecDepth 100000 in
theorem ks_218 : ∀ (n : Nat) (dp : Nat) (e : EN) (lab : Nat) (I : Nat → Nat → Int32) (I' : JI) (L : Nat → Nat → Int64) (L' : JI) (j1 : Int64) (j1' : Int), Rli I I' → Rll L L' → Ul j1 j1' → Sim R3 (g_218 n dp e lab I L j1) (kf_218 n dp e lab I' L' j1') := by
  intro n
  induction n with
  | zero => intros; rw [kf_218.eq_1]; exact Sn
  | succ n ih =>
    intro dp e lab I I' L L' j1 j1' u_I u_L u_j1
    rw [g_218.eq_2, kf_218.eq_2]
    refine Sc Iff.rfl (fun _ => ?_) (fun _ => ?_)
    · refine Sc (eq_up (u_I 105 10) (rfl : Ui (1) (1))) (fun c1 => ?_) (fun c1 => ?_)
      · refine Sc (lce_up (u_L 105 11) u_j1) (fun c2 => ?_) (fun c2 => ?_)
        · exact Sr ⟨(rfl : Ui (1) (1)), u_I, u_L⟩
        · exact Sr ⟨(rfl : Ui (0) (0)), u_I, u_L⟩
      · exact Sr ⟨(rfl : Ui (0) (0)), u_I, u_L⟩
    exact Sn
set_option maxHeartbeats 4000000 in
set_option maxRecDepth 100000 in
def kf_219 : Nat → Nat → EN → Nat → JI → JI → Int → Option (JI × JI)
  | 0, _, _, _, _, _, _ => none
  | n + 1, dp, e, lab, I, L, i1 =>
    if lab = 0 then (if (I 105 13) = 0 then (if i1 = 0 then (stI (w2 I 105 13 1) (fun I_13 => (stI (w2 I_13 105 12 (I_13 105 8)) (fun I_21 => (kf_219 n dp e 1 I_21 L i1))))) else (kf_219 n dp e 1 I L i1)) else (kf_219 n dp e 1 I L i1))
    else if lab = 1 then (if (I 105 13) = 0 then (if 1 ≤ dp then ((kf_214 n (dp - 1) e 0 I L).bind (fun ⟨I0_32, L0_32⟩ => (some (I0_32, L0_32)))) else none) else (some (I, L)))
    else none
set_option maxRecDepth 100000 in
theorem ke_219_0 (n : Nat) (dp : Nat) (e : EN) (I : JI) (L : JI) (i1 : Int) : kf_219 (n + 1) dp e 0 I L i1 = (if (I 105 13) = 0 then (if i1 = 0 then (stI (w2 I 105 13 1) (fun I_13 => (stI (w2 I_13 105 12 (I_13 105 8)) (fun I_21 => (kf_219 n dp e 1 I_21 L i1))))) else (kf_219 n dp e 1 I L i1)) else (kf_219 n dp e 1 I L i1)) := by rw [kf_219.eq_2, if_pos (show (0 : Nat) = 0 from rfl)]
set_option maxRecDepth 100000 in
theorem ke_219_1 (n : Nat) (dp : Nat) (e : EN) (I : JI) (L : JI) (i1 : Int) : kf_219 (n + 1) dp e 1 I L i1 = (if (I 105 13) = 0 then (if 1 ≤ dp then ((kf_214 n (dp - 1) e 0 I L).bind (fun ⟨I0_32, L0_32⟩ => (some (I0_32, L0_32)))) else none) else (some (I, L))) := by rw [kf_219.eq_2, if_neg (show ¬ ((1 : Nat) = 0) by decide), if_pos (show (1 : Nat) = 1 from rfl)]
set_option maxHeartbeats 8000000 in
set_option maxRecDepth 100000 in
theorem ks_219 : ∀ (n : Nat) (dp : Nat) (e : EN) (lab : Nat) (I : Nat → Nat → Int32) (I' : JI) (L : Nat → Nat → Int64) (L' : JI) (i1 : Int32) (i1' : Int), Rli I I' → Rll L L' → Ui i1 i1' → Sim R2 (g_219 n dp e lab I L i1) (kf_219 n dp e lab I' L' i1') := by
  intro n
  induction n with
  | zero => intros; rw [kf_219.eq_1]; exact Sn
  | succ n ih =>
    intro dp e lab I I' L L' i1 i1' u_I u_L u_i1
    rw [g_219.eq_2, kf_219.eq_2]
    refine Sc Iff.rfl (fun _ => ?_) (fun _ => ?_)
    · refine Sc (eq_up (u_I 105 13) (rfl : Ui 0 0)) (fun c1 => ?_) (fun c1 => ?_)
      · refine Sc (eq_up u_i1 (rfl : Ui 0 0)) (fun c2 => ?_) (fun c2 => ?_)
        · refine SsJ (ri_up u_I (rfl : ((13 : Nat) : Int) = 13) (rfl : Ui (1) (1))) (fun I_13 I_13' u_I_13 => ?_)
          refine SsJ (ri_up u_I_13 (rfl : ((12 : Nat) : Int) = 12) (u_I_13 105 8)) (fun I_21 I_21' u_I_21 => ?_)
          exact (ih dp e 1 _ _ _ _ _ _ u_I_21 u_L u_i1)
        · exact (ih dp e 1 _ _ _ _ _ _ u_I u_L u_i1)
      · exact (ih dp e 1 _ _ _ _ _ _ u_I u_L u_i1)
    refine Sc Iff.rfl (fun _ => ?_) (fun _ => ?_)
    · refine Sc (eq_up (u_I 105 13) (rfl : Ui 0 0)) (fun c1 => ?_) (fun c1 => ?_)
      · refine Sc Iff.rfl (fun c2 => ?_) (fun _ => Sn)
        refine Sb2 (ks_214 n (dp - 1) e 0 _ _ _ _ u_I u_L) (fun I0_32 I0_32' L0_32 L0_32' u_I0_32 u_L0_32 => ?_)
        exact Sr ⟨u_I0_32, u_L0_32⟩
      · exact Sr ⟨u_I, u_L⟩
    exact Sn
set_option maxHeartbeats 4000000 in
set_option maxRecDepth 100000 in
def kf_221 : Nat → Nat → EN → Nat → JI → JI → Int → Int → Option (Int × JI × JI)
  | 0, _, _, _, _, _, _, _ => none
  | n + 1, dp, e, lab, I, L, j1, j3 =>
    if lab = 0 then (stI (l2i (L 105 11)) (fun v_5 => (if (I 105 10) = 2 then (if 1 ≤ dp then ((kf_193 n (dp - 1) e 0 I L (L 105 11) j1 j3).bind (fun ⟨x0_22, I0_22, L0_22⟩ => (if x0_22 = 0 then (if 1 ≤ dp then ((kf_219 n (dp - 1) e 0 I0_22 L0_22 0).bind (fun ⟨I1_33, L1_33⟩ => (some ((v_5 : Int), I1_33, L1_33)))) else none) else (if 1 ≤ dp then ((kf_219 n (dp - 1) e 0 I0_22 L0_22 1).bind (fun ⟨I1_33, L1_33⟩ => (some ((v_5 : Int), I1_33, L1_33)))) else none)))) else none) else (if 1 ≤ dp then ((kf_219 n (dp - 1) e 0 I L 0).bind (fun ⟨I0_33, L0_33⟩ => (some ((v_5 : Int), I0_33, L0_33)))) else none))))
    else none
set_option maxRecDepth 100000 in
theorem ke_221_0 (n : Nat) (dp : Nat) (e : EN) (I : JI) (L : JI) (j1 : Int) (j3 : Int) : kf_221 (n + 1) dp e 0 I L j1 j3 = (stI (l2i (L 105 11)) (fun v_5 => (if (I 105 10) = 2 then (if 1 ≤ dp then ((kf_193 n (dp - 1) e 0 I L (L 105 11) j1 j3).bind (fun ⟨x0_22, I0_22, L0_22⟩ => (if x0_22 = 0 then (if 1 ≤ dp then ((kf_219 n (dp - 1) e 0 I0_22 L0_22 0).bind (fun ⟨I1_33, L1_33⟩ => (some ((v_5 : Int), I1_33, L1_33)))) else none) else (if 1 ≤ dp then ((kf_219 n (dp - 1) e 0 I0_22 L0_22 1).bind (fun ⟨I1_33, L1_33⟩ => (some ((v_5 : Int), I1_33, L1_33)))) else none)))) else none) else (if 1 ≤ dp then ((kf_219 n (dp - 1) e 0 I L 0).bind (fun ⟨I0_33, L0_33⟩ => (some ((v_5 : Int), I0_33, L0_33)))) else none)))) := by rw [kf_221.eq_2, if_pos (show (0 : Nat) = 0 from rfl)]
set_option maxHeartbeats 8000000 in
set_option maxRecDepth 100000 in
theorem ks_221 : ∀ (n : Nat) (dp : Nat) (e : EN) (lab : Nat) (I : Nat → Nat → Int32) (I' : JI) (L : Nat → Nat → Int64) (L' : JI) (j1 : Int64) (j1' : Int) (j3 : Int64) (j3' : Int), Rli I I' → Rll L L' → Ul j1 j1' → Ul j3 j3' → Sim R3 (g_221 n dp e lab I L j1 j3) (kf_221 n dp e lab I' L' j1' j3') := by
  intro n
  induction n with
  | zero => intros; rw [kf_221.eq_1]; exact Sn
  | succ n ih =>
    intro dp e lab I I' L L' j1 j1' j3 j3' u_I u_L u_j1 u_j3
    rw [g_221.eq_2, kf_221.eq_2]
    refine Sc Iff.rfl (fun _ => ?_) (fun _ => ?_)
    · refine SsI (ui_l2iw (u_L 105 11)) (fun v_5 v_5' u_v_5 => ?_)
      refine Sc (eq_up (u_I 105 10) (rfl : Ui (2) (2))) (fun c1 => ?_) (fun c1 => ?_)
      · refine Sc Iff.rfl (fun c2 => ?_) (fun _ => Sn)
        refine Sb3 (ks_193 n (dp - 1) e 0 _ _ _ _ _ _ _ _ _ _ u_I u_L (u_L 105 11) u_j1 u_j3) (fun x0_22 x0_22' I0_22 I0_22' L0_22 L0_22' u_x0_22 u_I0_22 u_L0_22 => ?_)
        refine Sc (eq_up u_x0_22 (rfl : Ui 0 0)) (fun c3 => ?_) (fun c3 => ?_)
        · refine Sc Iff.rfl (fun c4 => ?_) (fun _ => Sn)
          refine Sb2 (ks_219 n (dp - 1) e 0 _ _ _ _ _ _ u_I0_22 u_L0_22 (rfl : Ui (0) (0))) (fun I1_33 I1_33' L1_33 L1_33' u_I1_33 u_L1_33 => ?_)
          exact Sr ⟨u_v_5, u_I1_33, u_L1_33⟩
        · refine Sc Iff.rfl (fun c5 => ?_) (fun _ => Sn)
          refine Sb2 (ks_219 n (dp - 1) e 0 _ _ _ _ _ _ u_I0_22 u_L0_22 (rfl : Ui (1) (1))) (fun I1_33 I1_33' L1_33 L1_33' u_I1_33 u_L1_33 => ?_)
          exact Sr ⟨u_v_5, u_I1_33, u_L1_33⟩
      · refine Sc Iff.rfl (fun c6 => ?_) (fun _ => Sn)
        refine Sb2 (ks_219 n (dp - 1) e 0 _ _ _ _ _ _ u_I u_L (rfl : Ui (0) (0))) (fun I0_33 I0_33' L0_33 L0_33' u_I0_33 u_L0_33 => ?_)
        exact Sr ⟨u_v_5, u_I0_33, u_L0_33⟩
    exact Sn
set_option maxHeartbeats 4000000 in
set_option maxRecDepth 100000 in
def kf_222 : Nat → Nat → EN → Nat → JI → JI → Int → Int → Option (JI × JI)
  | 0, _, _, _, _, _, _, _ => none
  | n + 1, dp, e, lab, I, L, i1, i2 =>
    if lab = 0 then (if 1 ≤ dp then ((kf_221 n (dp - 1) e 0 I L 1 9).bind (fun ⟨x0_5, I0_5, L0_5⟩ => (if 1 ≤ dp then (if -9223372036854775808 ≤ i2 + 1 ∧ i2 + 1 ≤ 9223372036854775807 then ((kf_221 n (dp - 1) e 0 I0_5 L0_5 (i2 + 1) 9).bind (fun ⟨x1_17, I1_17, L1_17⟩ => (if (I1_17 105 13) = 0 then (if (-2147483648 ≤ i1 + 1 ∧ i1 + 1 ≤ 2147483647) ∧ (-2147483648 ≤ (i1 + 1) + x1_17 ∧ (i1 + 1) + x1_17 ≤ 2147483647) then (if 0 ≤ ((i1 + 1) + x1_17) ∧ ((i1 + 1) + x1_17) < 176 then (if 0 ≤ ((i1 + 1) + x1_17) ∧ ((i1 + 1) + x1_17) < 176 then (if -2147483648 ≤ (I1_17 117 ((i1 + 1) + x1_17)) + x0_5 ∧ (I1_17 117 ((i1 + 1) + x1_17)) + x0_5 ≤ 2147483647 then (stI (w2 I1_17 117 ((i1 + 1) + x1_17) ((I1_17 117 ((i1 + 1) + x1_17)) + x0_5)) (fun I_43 => (some (I_43, L1_17)))) else none) else none) else none) else none) else (some (I1_17, L1_17))))) else none) else none))) else none)
    else none
set_option maxRecDepth 100000 in
theorem ke_222_0 (n : Nat) (dp : Nat) (e : EN) (I : JI) (L : JI) (i1 : Int) (i2 : Int) : kf_222 (n + 1) dp e 0 I L i1 i2 = (if 1 ≤ dp then ((kf_221 n (dp - 1) e 0 I L 1 9).bind (fun ⟨x0_5, I0_5, L0_5⟩ => (if 1 ≤ dp then (if -9223372036854775808 ≤ i2 + 1 ∧ i2 + 1 ≤ 9223372036854775807 then ((kf_221 n (dp - 1) e 0 I0_5 L0_5 (i2 + 1) 9).bind (fun ⟨x1_17, I1_17, L1_17⟩ => (if (I1_17 105 13) = 0 then (if (-2147483648 ≤ i1 + 1 ∧ i1 + 1 ≤ 2147483647) ∧ (-2147483648 ≤ (i1 + 1) + x1_17 ∧ (i1 + 1) + x1_17 ≤ 2147483647) then (if 0 ≤ ((i1 + 1) + x1_17) ∧ ((i1 + 1) + x1_17) < 176 then (if 0 ≤ ((i1 + 1) + x1_17) ∧ ((i1 + 1) + x1_17) < 176 then (if -2147483648 ≤ (I1_17 117 ((i1 + 1) + x1_17)) + x0_5 ∧ (I1_17 117 ((i1 + 1) + x1_17)) + x0_5 ≤ 2147483647 then (stI (w2 I1_17 117 ((i1 + 1) + x1_17) ((I1_17 117 ((i1 + 1) + x1_17)) + x0_5)) (fun I_43 => (some (I_43, L1_17)))) else none) else none) else none) else none) else (some (I1_17, L1_17))))) else none) else none))) else none) := by rw [kf_222.eq_2, if_pos (show (0 : Nat) = 0 from rfl)]
set_option maxHeartbeats 8000000 in
set_option maxRecDepth 100000 in
theorem ks_222 : ∀ (n : Nat) (dp : Nat) (e : EN) (lab : Nat) (I : Nat → Nat → Int32) (I' : JI) (L : Nat → Nat → Int64) (L' : JI) (i1 : Int32) (i1' : Int) (i2 : Int32) (i2' : Int), Rli I I' → Rll L L' → Ui i1 i1' → Ui i2 i2' → Sim R2 (g_222 n dp e lab I L i1 i2) (kf_222 n dp e lab I' L' i1' i2') := by
  intro n
  induction n with
  | zero => intros; rw [kf_222.eq_1]; exact Sn
  | succ n ih =>
    intro dp e lab I I' L L' i1 i1' i2 i2' u_I u_L u_i1 u_i2
    rw [g_222.eq_2, kf_222.eq_2]
    refine Sc Iff.rfl (fun _ => ?_) (fun _ => ?_)
    · refine Sc Iff.rfl (fun c1 => ?_) (fun _ => Sn)
      refine Sb3 (ks_221 n (dp - 1) e 0 _ _ _ _ _ _ _ _ u_I u_L (rfl : Ul (1) (1)) (rfl : Ul (9) (9))) (fun x0_5 x0_5' I0_5 I0_5' L0_5 L0_5' u_x0_5 u_I0_5 u_L0_5 => ?_)
      refine Sc Iff.rfl (fun c2 => ?_) (fun _ => Sn)
      refine Sg (fun g3 => ?_)
      refine Sb3 (ks_221 n (dp - 1) e 0 _ _ _ _ _ _ _ _ u_I0_5 u_L0_5 (ul_add (ul_i2l u_i2) (rfl : Ul (1) (1)) g3) (rfl : Ul (9) (9))) (fun x1_17 x1_17' I1_17 I1_17' L1_17 L1_17' u_x1_17 u_I1_17 u_L1_17 => ?_)
      refine Sc (eq_up (u_I1_17 105 13) (rfl : Ui 0 0)) (fun c4 => ?_) (fun c4 => ?_)
      · refine Sg (fun g5 => ?_)
        refine Sc (ix_up (ui_add (ui_add u_i1 (rfl : Ui (1) (1)) g5.1) u_x1_17 g5.2)) (fun c6 => ?_) (fun _ => Sn)
        refine Sc (ix_up (ui_add (ui_add u_i1 (rfl : Ui (1) (1)) g5.1) u_x1_17 g5.2)) (fun c7 => ?_) (fun _ => Sn)
        refine Sg (fun g8 => ?_)
        refine SsJ (ri_up u_I1_17 (kc_up (ui_add (ui_add u_i1 (rfl : Ui (1) (1)) g5.1) u_x1_17 g5.2) c7.1) (ui_add (ui_rd (a := 117) u_I1_17 (ui_add (ui_add u_i1 (rfl : Ui (1) (1)) g5.1) u_x1_17 g5.2) c7.1) u_x0_5 g8)) (fun I_43 I_43' u_I_43 => ?_)
        exact Sr ⟨u_I_43, u_L1_17⟩
      · exact Sr ⟨u_I1_17, u_L1_17⟩
    exact Sn
set_option maxHeartbeats 4000000 in
set_option maxRecDepth 100000 in
def kf_220 : Nat → Nat → EN → Nat → JI → JI → Int → Int → Option (JI × JI)
  | 0, _, _, _, _, _, _, _ => none
  | n + 1, dp, e, lab, I, L, i1, i2 =>
    if lab = 0 then (if -2147483648 ≤ 11 * (I 105 26) ∧ 11 * (I 105 26) ≤ 2147483647 then (stI (11 * (I 105 26)) (fun v_7 => (kf_220 n dp e 1 I L v_7 0))) else none)
    else if lab = 1 then (if 11 ≤ i2 then (if 1 ≤ dp then ((kf_221 n (dp - 1) e 0 I L 0 9).bind (fun ⟨x0_36, I0_36, L0_36⟩ => (if 0 ≤ i1 ∧ i1 < 176 then (stI (w2 I0_36 117 i1 x0_36) (fun I_46 => (if 1 ≤ dp then ((kf_218 n (dp - 1) e 0 I_46 L0_36 655).bind (fun ⟨x1_52, I1_52, L1_52⟩ => (if 1 ≤ dp then ((kf_219 n (dp - 1) e 0 I1_52 L1_52 x1_52).bind (fun ⟨I2_55, L2_55⟩ => (if 1 ≤ dp then ((kf_222 n (dp - 1) e 0 I2_55 L2_55 i1 x0_36).bind (fun ⟨I3_61, L3_61⟩ => (kf_220 n dp e 2 I3_61 L3_61 i1 x0_36))) else none))) else none))) else none))) else none))) else none) else (if -2147483648 ≤ i1 + i2 ∧ i1 + i2 ≤ 2147483647 then (if 0 ≤ (i1 + i2) ∧ (i1 + i2) < 176 then (stI (w2 I 117 (i1 + i2) 0) (fun I_24 => (if -2147483648 ≤ i2 + 1 ∧ i2 + 1 ≤ 2147483647 then (kf_220 n dp e 1 I_24 L i1 (i2 + 1)) else none))) else none) else none))
    else if lab = 2 then (if (I 105 13) = 0 then (if 1 ≤ dp then ((kf_218 n (dp - 1) e 0 I L 1476).bind (fun ⟨x0_75, I0_75, L0_75⟩ => (if x0_75 = 0 then (kf_220 n dp e 3 I0_75 L0_75 i1 i2) else (if 1 ≤ dp then ((kf_214 n (dp - 1) e 0 I0_75 L0_75).bind (fun ⟨I1_82, L1_82⟩ => (if 1 ≤ dp then ((kf_222 n (dp - 1) e 0 I1_82 L1_82 i1 i2).bind (fun ⟨I2_88, L2_88⟩ => (kf_220 n dp e 2 I2_88 L2_88 i1 i2))) else none))) else none)))) else none) else (kf_220 n dp e 3 I L i1 i2))
    else if lab = 3 then (if -2147483648 ≤ (I 105 26) + 1 ∧ (I 105 26) + 1 ≤ 2147483647 then (stI (w2 I 105 26 ((I 105 26) + 1)) (fun I_101 => (some (I_101, L)))) else none)
    else none
set_option maxRecDepth 100000 in
theorem ke_220_0 (n : Nat) (dp : Nat) (e : EN) (I : JI) (L : JI) (i1 : Int) (i2 : Int) : kf_220 (n + 1) dp e 0 I L i1 i2 = (if -2147483648 ≤ 11 * (I 105 26) ∧ 11 * (I 105 26) ≤ 2147483647 then (stI (11 * (I 105 26)) (fun v_7 => (kf_220 n dp e 1 I L v_7 0))) else none) := by rw [kf_220.eq_2, if_pos (show (0 : Nat) = 0 from rfl)]
set_option maxRecDepth 100000 in
theorem ke_220_1 (n : Nat) (dp : Nat) (e : EN) (I : JI) (L : JI) (i1 : Int) (i2 : Int) : kf_220 (n + 1) dp e 1 I L i1 i2 = (if 11 ≤ i2 then (if 1 ≤ dp then ((kf_221 n (dp - 1) e 0 I L 0 9).bind (fun ⟨x0_36, I0_36, L0_36⟩ => (if 0 ≤ i1 ∧ i1 < 176 then (stI (w2 I0_36 117 i1 x0_36) (fun I_46 => (if 1 ≤ dp then ((kf_218 n (dp - 1) e 0 I_46 L0_36 655).bind (fun ⟨x1_52, I1_52, L1_52⟩ => (if 1 ≤ dp then ((kf_219 n (dp - 1) e 0 I1_52 L1_52 x1_52).bind (fun ⟨I2_55, L2_55⟩ => (if 1 ≤ dp then ((kf_222 n (dp - 1) e 0 I2_55 L2_55 i1 x0_36).bind (fun ⟨I3_61, L3_61⟩ => (kf_220 n dp e 2 I3_61 L3_61 i1 x0_36))) else none))) else none))) else none))) else none))) else none) else (if -2147483648 ≤ i1 + i2 ∧ i1 + i2 ≤ 2147483647 then (if 0 ≤ (i1 + i2) ∧ (i1 + i2) < 176 then (stI (w2 I 117 (i1 + i2) 0) (fun I_24 => (if -2147483648 ≤ i2 + 1 ∧ i2 + 1 ≤ 2147483647 then (kf_220 n dp e 1 I_24 L i1 (i2 + 1)) else none))) else none) else none)) := by rw [kf_220.eq_2, if_neg (show ¬ ((1 : Nat) = 0) by decide), if_pos (show (1 : Nat) = 1 from rfl)]
set_option maxRecDepth 100000 in
theorem ke_220_2 (n : Nat) (dp : Nat) (e : EN) (I : JI) (L : JI) (i1 : Int) (i2 : Int) : kf_220 (n + 1) dp e 2 I L i1 i2 = (if (I 105 13) = 0 then (if 1 ≤ dp then ((kf_218 n (dp - 1) e 0 I L 1476).bind (fun ⟨x0_75, I0_75, L0_75⟩ => (if x0_75 = 0 then (kf_220 n dp e 3 I0_75 L0_75 i1 i2) else (if 1 ≤ dp then ((kf_214 n (dp - 1) e 0 I0_75 L0_75).bind (fun ⟨I1_82, L1_82⟩ => (if 1 ≤ dp then ((kf_222 n (dp - 1) e 0 I1_82 L1_82 i1 i2).bind (fun ⟨I2_88, L2_88⟩ => (kf_220 n dp e 2 I2_88 L2_88 i1 i2))) else none))) else none)))) else none) else (kf_220 n dp e 3 I L i1 i2)) := by rw [kf_220.eq_2, if_neg (show ¬ ((2 : Nat) = 0) by decide), if_neg (show ¬ ((2 : Nat) = 1) by decide), if_pos (show (2 : Nat) = 2 from rfl)]
set_option maxRecDepth 100000 in
theorem ke_220_3 (n : Nat) (dp : Nat) (e : EN) (I : JI) (L : JI) (i1 : Int) (i2 : Int) : kf_220 (n + 1) dp e 3 I L i1 i2 = (if -2147483648 ≤ (I 105 26) + 1 ∧ (I 105 26) + 1 ≤ 2147483647 then (stI (w2 I 105 26 ((I 105 26) + 1)) (fun I_101 => (some (I_101, L)))) else none) := by rw [kf_220.eq_2, if_neg (show ¬ ((3 : Nat) = 0) by decide), if_neg (show ¬ ((3 : Nat) = 1) by decide), if_neg (show ¬ ((3 : Nat) = 2) by decide), if_pos (show (3 : Nat) = 3 from rfl)]
set_option maxHeartbeats 8000000 in
set_option maxRecDepth 100000 in
theorem ks_220 : ∀ (n : Nat) (dp : Nat) (e : EN) (lab : Nat) (I : Nat → Nat → Int32) (I' : JI) (L : Nat → Nat → Int64) (L' : JI) (i1 : Int32) (i1' : Int) (i2 : Int32) (i2' : Int), Rli I I' → Rll L L' → Ui i1 i1' → Ui i2 i2' → Sim R2 (g_220 n dp e lab I L i1 i2) (kf_220 n dp e lab I' L' i1' i2') := by
  intro n
  induction n with
  | zero => intros; rw [kf_220.eq_1]; exact Sn
  | succ n ih =>
    intro dp e lab I I' L L' i1 i1' i2 i2' u_I u_L u_i1 u_i2
    rw [g_220.eq_2, kf_220.eq_2]
    refine Sc Iff.rfl (fun _ => ?_) (fun _ => ?_)
    · refine Sg (fun g1 => ?_)
      refine SsI (ui_mul (rfl : Ui (11) (11)) (u_I 105 26) g1) (fun v_7 v_7' u_v_7 => ?_)
      exact (ih dp e 1 _ _ _ _ _ _ _ _ u_I u_L u_v_7 (rfl : Ui (0) (0)))
    refine Sc Iff.rfl (fun _ => ?_) (fun _ => ?_)
    · refine Sc (le_up (rfl : Ui (11) (11)) u_i2) (fun c1 => ?_) (fun c1 => ?_)
      · refine Sc Iff.rfl (fun c2 => ?_) (fun _ => Sn)
        refine Sb3 (ks_221 n (dp - 1) e 0 _ _ _ _ _ _ _ _ u_I u_L (rfl : Ul (0) (0)) (rfl : Ul (9) (9))) (fun x0_36 x0_36' I0_36 I0_36' L0_36 L0_36' u_x0_36 u_I0_36 u_L0_36 => ?_)
        refine Sc (ix_up u_i1) (fun c3 => ?_) (fun _ => Sn)
        refine SsJ (ri_up u_I0_36 (kc_up u_i1 c3.1) u_x0_36) (fun I_46 I_46' u_I_46 => ?_)
        refine Sc Iff.rfl (fun c4 => ?_) (fun _ => Sn)
        refine Sb3 (ks_218 n (dp - 1) e 0 _ _ _ _ _ _ u_I_46 u_L0_36 (rfl : Ul (655) (655))) (fun x1_52 x1_52' I1_52 I1_52' L1_52 L1_52' u_x1_52 u_I1_52 u_L1_52 => ?_)
        refine Sc Iff.rfl (fun c5 => ?_) (fun _ => Sn)
        refine Sb2 (ks_219 n (dp - 1) e 0 _ _ _ _ _ _ u_I1_52 u_L1_52 u_x1_52) (fun I2_55 I2_55' L2_55 L2_55' u_I2_55 u_L2_55 => ?_)
        refine Sc Iff.rfl (fun c6 => ?_) (fun _ => Sn)
        refine Sb2 (ks_222 n (dp - 1) e 0 _ _ _ _ _ _ _ _ u_I2_55 u_L2_55 u_i1 u_x0_36) (fun I3_61 I3_61' L3_61 L3_61' u_I3_61 u_L3_61 => ?_)
        exact (ih dp e 2 _ _ _ _ _ _ _ _ u_I3_61 u_L3_61 u_i1 u_x0_36)
      · refine Sg (fun g7 => ?_)
        refine Sc (ix_up (ui_add u_i1 u_i2 g7)) (fun c8 => ?_) (fun _ => Sn)
        refine SsJ (ri_up u_I (kc_up (ui_add u_i1 u_i2 g7) c8.1) (rfl : Ui (0) (0))) (fun I_24 I_24' u_I_24 => ?_)
        refine Sg (fun g9 => ?_)
        exact (ih dp e 1 _ _ _ _ _ _ _ _ u_I_24 u_L u_i1 (ui_add u_i2 (rfl : Ui (Int32.ofInt (1)) (1)) g9))
    refine Sc Iff.rfl (fun _ => ?_) (fun _ => ?_)
    · refine Sc (eq_up (u_I 105 13) (rfl : Ui 0 0)) (fun c1 => ?_) (fun c1 => ?_)
      · refine Sc Iff.rfl (fun c2 => ?_) (fun _ => Sn)
        refine Sb3 (ks_218 n (dp - 1) e 0 _ _ _ _ _ _ u_I u_L (rfl : Ul (1476) (1476))) (fun x0_75 x0_75' I0_75 I0_75' L0_75 L0_75' u_x0_75 u_I0_75 u_L0_75 => ?_)
        refine Sc (eq_up u_x0_75 (rfl : Ui 0 0)) (fun c3 => ?_) (fun c3 => ?_)
        · exact (ih dp e 3 _ _ _ _ _ _ _ _ u_I0_75 u_L0_75 u_i1 u_i2)
        · refine Sc Iff.rfl (fun c4 => ?_) (fun _ => Sn)
          refine Sb2 (ks_214 n (dp - 1) e 0 _ _ _ _ u_I0_75 u_L0_75) (fun I1_82 I1_82' L1_82 L1_82' u_I1_82 u_L1_82 => ?_)
          refine Sc Iff.rfl (fun c5 => ?_) (fun _ => Sn)
          refine Sb2 (ks_222 n (dp - 1) e 0 _ _ _ _ _ _ _ _ u_I1_82 u_L1_82 u_i1 u_i2) (fun I2_88 I2_88' L2_88 L2_88' u_I2_88 u_L2_88 => ?_)
          exact (ih dp e 2 _ _ _ _ _ _ _ _ u_I2_88 u_L2_88 u_i1 u_i2)
      · exact (ih dp e 3 _ _ _ _ _ _ _ _ u_I u_L u_i1 u_i2)
    refine Sc Iff.rfl (fun _ => ?_) (fun _ => ?_)
    · refine Sg (fun g1 => ?_)
      refine SsJ (ri_up u_I (rfl : ((26 : Nat) : Int) = 26) (ui_add (u_I 105 26) (rfl : Ui (1) (1)) g1)) (fun I_101 I_101' u_I_101 => ?_)
      exact Sr ⟨u_I_101, u_L⟩
    exact Sn
set_option maxHeartbeats 4000000 in
set_option maxRecDepth 100000 in
def kf_225 : Nat → Nat → EN → Nat → JI → JI → Int → Int → Option (JI × JI)
  | 0, _, _, _, _, _, _, _ => none
  | n + 1, dp, e, lab, I, L, i1, i2 =>
    if lab = 0 then (if 0 ≤ (I 105 22) ∧ (I 105 22) < 400 then (stI (w2 I 114 (I 105 22) i1) (fun I_9 => (if 0 ≤ (I_9 105 22) ∧ (I_9 105 22) < 400 then (stI (w2 I_9 115 (I_9 105 22) i2) (fun I_19 => (if -2147483648 ≤ (I_19 105 22) + 1 ∧ (I_19 105 22) + 1 ≤ 2147483647 then (stI (w2 I_19 105 22 ((I_19 105 22) + 1)) (fun I_27 => (some (I_27, L)))) else none))) else none))) else none)
    else none
set_option maxRecDepth 100000 in
theorem ke_225_0 (n : Nat) (dp : Nat) (e : EN) (I : JI) (L : JI) (i1 : Int) (i2 : Int) : kf_225 (n + 1) dp e 0 I L i1 i2 = (if 0 ≤ (I 105 22) ∧ (I 105 22) < 400 then (stI (w2 I 114 (I 105 22) i1) (fun I_9 => (if 0 ≤ (I_9 105 22) ∧ (I_9 105 22) < 400 then (stI (w2 I_9 115 (I_9 105 22) i2) (fun I_19 => (if -2147483648 ≤ (I_19 105 22) + 1 ∧ (I_19 105 22) + 1 ≤ 2147483647 then (stI (w2 I_19 105 22 ((I_19 105 22) + 1)) (fun I_27 => (some (I_27, L)))) else none))) else none))) else none) := by rw [kf_225.eq_2, if_pos (show (0 : Nat) = 0 from rfl)]
set_option maxHeartbeats 8000000 in
set_option maxRecDepth 100000 in
theorem ks_225 : ∀ (n : Nat) (dp : Nat) (e : EN) (lab : Nat) (I : Nat → Nat → Int32) (I' : JI) (L : Nat → Nat → Int64) (L' : JI) (i1 : Int32) (i1' : Int) (i2 : Int32) (i2' : Int), Rli I I' → Rll L L' → Ui i1 i1' → Ui i2 i2' → Sim R2 (g_225 n dp e lab I L i1 i2) (kf_225 n dp e lab I' L' i1' i2') := by
  intro n
  induction n with
  | zero => intros; rw [kf_225.eq_1]; exact Sn
  | succ n ih =>
    intro dp e lab I I' L L' i1 i1' i2 i2' u_I u_L u_i1 u_i2
    rw [g_225.eq_2, kf_225.eq_2]
    refine Sc Iff.rfl (fun _ => ?_) (fun _ => ?_)
    · refine Sc (ix_up (u_I 105 22)) (fun c1 => ?_) (fun _ => Sn)
      refine SsJ (ri_up u_I (kc_up (u_I 105 22) c1.1) u_i1) (fun I_9 I_9' u_I_9 => ?_)
      refine Sc (ix_up (u_I_9 105 22)) (fun c2 => ?_) (fun _ => Sn)
      refine SsJ (ri_up u_I_9 (kc_up (u_I_9 105 22) c2.1) u_i2) (fun I_19 I_19' u_I_19 => ?_)
      refine Sg (fun g3 => ?_)
      refine SsJ (ri_up u_I_19 (rfl : ((22 : Nat) : Int) = 22) (ui_add (u_I_19 105 22) (rfl : Ui (1) (1)) g3)) (fun I_27 I_27' u_I_27 => ?_)
      exact Sr ⟨u_I_27, u_L⟩
    exact Sn
set_option maxHeartbeats 4000000 in
set_option maxRecDepth 100000 in
def kf_226 : Nat → Nat → EN → Nat → JI → JI → Int → Option (Int × JI × JI)
  | 0, _, _, _, _, _, _ => none
  | n + 1, dp, e, lab, I, L, i1 =>
    if lab = 0 then (if (I 105 10) = 3 then (if (L 105 11) = i1 then (some ((1 : Int), I, L)) else (some ((0 : Int), I, L))) else (some ((0 : Int), I, L)))
    else none
set_option maxRecDepth 100000 in
theorem ke_226_0 (n : Nat) (dp : Nat) (e : EN) (I : JI) (L : JI) (i1 : Int) : kf_226 (n + 1) dp e 0 I L i1 = (if (I 105 10) = 3 then (if (L 105 11) = i1 then (some ((1 : Int), I, L)) else (some ((0 : Int), I, L))) else (some ((0 : Int), I, L))) := by rw [kf_226.eq_2, if_pos (show (0 : Nat) = 0 from rfl)]
set_option maxHeartbeats 8000000 in
set_option maxRecDepth 100000 in
theorem ks_226 : ∀ (n : Nat) (dp : Nat) (e : EN) (lab : Nat) (I : Nat → Nat → Int32) (I' : JI) (L : Nat → Nat → Int64) (L' : JI) (i1 : Int32) (i1' : Int), Rli I I' → Rll L L' → Ui i1 i1' → Sim R3 (g_226 n dp e lab I L i1) (kf_226 n dp e lab I' L' i1') := by
  intro n
  induction n with
  | zero => intros; rw [kf_226.eq_1]; exact Sn
  | succ n ih =>
    intro dp e lab I I' L L' i1 i1' u_I u_L u_i1
    rw [g_226.eq_2, kf_226.eq_2]
    refine Sc Iff.rfl (fun _ => ?_) (fun _ => ?_)
    · refine Sc (eq_up (u_I 105 10) (rfl : Ui (3) (3))) (fun c1 => ?_) (fun c1 => ?_)
      · refine Sc (lce_up (u_L 105 11) (ul_i2l u_i1)) (fun c2 => ?_) (fun c2 => ?_)
        · exact Sr ⟨(rfl : Ui (1) (1)), u_I, u_L⟩
        · exact Sr ⟨(rfl : Ui (0) (0)), u_I, u_L⟩
      · exact Sr ⟨(rfl : Ui (0) (0)), u_I, u_L⟩
    exact Sn
set_option maxHeartbeats 4000000 in
set_option maxRecDepth 100000 in
def kf_227 : Nat → Nat → EN → Nat → JI → JI → Int → Option (JI × JI)
  | 0, _, _, _, _, _, _ => none
  | n + 1, dp, e, lab, I, L, i1 =>
    if lab = 0 then (if 8 ≤ (I 105 23) then (if 1 ≤ dp then ((kf_219 n (dp - 1) e 0 I L 0).bind (fun ⟨I0_15, L0_15⟩ => (if (I0_15 105 13) = 0 then (if -2147483648 ≤ (I0_15 105 23) + 1 ∧ (I0_15 105 23) + 1 ≤ 2147483647 then (stI (w2 I0_15 105 23 ((I0_15 105 23) + 1)) (fun I_32 => (if 1 ≤ dp then ((kf_225 n (dp - 1) e 0 I_32 L0_15 i1 0).bind (fun ⟨I1_38, L1_38⟩ => (some (I1_38, L1_38)))) else none))) else none) else (some (I0_15, L0_15))))) else none) else (if 1 ≤ dp then ((kf_219 n (dp - 1) e 0 I L 1).bind (fun ⟨I0_15, L0_15⟩ => (if (I0_15 105 13) = 0 then (if -2147483648 ≤ (I0_15 105 23) + 1 ∧ (I0_15 105 23) + 1 ≤ 2147483647 then (stI (w2 I0_15 105 23 ((I0_15 105 23) + 1)) (fun I_32 => (if 1 ≤ dp then ((kf_225 n (dp - 1) e 0 I_32 L0_15 i1 0).bind (fun ⟨I1_38, L1_38⟩ => (some (I1_38, L1_38)))) else none))) else none) else (some (I0_15, L0_15))))) else none))
    else none
set_option maxRecDepth 100000 in
theorem ke_227_0 (n : Nat) (dp : Nat) (e : EN) (I : JI) (L : JI) (i1 : Int) : kf_227 (n + 1) dp e 0 I L i1 = (if 8 ≤ (I 105 23) then (if 1 ≤ dp then ((kf_219 n (dp - 1) e 0 I L 0).bind (fun ⟨I0_15, L0_15⟩ => (if (I0_15 105 13) = 0 then (if -2147483648 ≤ (I0_15 105 23) + 1 ∧ (I0_15 105 23) + 1 ≤ 2147483647 then (stI (w2 I0_15 105 23 ((I0_15 105 23) + 1)) (fun I_32 => (if 1 ≤ dp then ((kf_225 n (dp - 1) e 0 I_32 L0_15 i1 0).bind (fun ⟨I1_38, L1_38⟩ => (some (I1_38, L1_38)))) else none))) else none) else (some (I0_15, L0_15))))) else none) else (if 1 ≤ dp then ((kf_219 n (dp - 1) e 0 I L 1).bind (fun ⟨I0_15, L0_15⟩ => (if (I0_15 105 13) = 0 then (if -2147483648 ≤ (I0_15 105 23) + 1 ∧ (I0_15 105 23) + 1 ≤ 2147483647 then (stI (w2 I0_15 105 23 ((I0_15 105 23) + 1)) (fun I_32 => (if 1 ≤ dp then ((kf_225 n (dp - 1) e 0 I_32 L0_15 i1 0).bind (fun ⟨I1_38, L1_38⟩ => (some (I1_38, L1_38)))) else none))) else none) else (some (I0_15, L0_15))))) else none)) := by rw [kf_227.eq_2, if_pos (show (0 : Nat) = 0 from rfl)]
set_option maxHeartbeats 8000000 in
set_option maxRecDepth 100000 in
theorem ks_227 : ∀ (n : Nat) (dp : Nat) (e : EN) (lab : Nat) (I : Nat → Nat → Int32) (I' : JI) (L : Nat → Nat → Int64) (L' : JI) (i1 : Int32) (i1' : Int), Rli I I' → Rll L L' → Ui i1 i1' → Sim R2 (g_227 n dp e lab I L i1) (kf_227 n dp e lab I' L' i1') := by
  intro n
  induction n with
  | zero => intros; rw [kf_227.eq_1]; exact Sn
  | succ n ih =>
    intro dp e lab I I' L L' i1 i1' u_I u_L u_i1
    rw [g_227.eq_2, kf_227.eq_2]
    refine Sc Iff.rfl (fun _ => ?_) (fun _ => ?_)
    · refine Sc (le_up (rfl : Ui (8) (8)) (u_I 105 23)) (fun c1 => ?_) (fun c1 => ?_)
      · refine Sc Iff.rfl (fun c2 => ?_) (fun _ => Sn)
        refine Sb2 (ks_219 n (dp - 1) e 0 _ _ _ _ _ _ u_I u_L (rfl : Ui (0) (0))) (fun I0_15 I0_15' L0_15 L0_15' u_I0_15 u_L0_15 => ?_)
        refine Sc (eq_up (u_I0_15 105 13) (rfl : Ui 0 0)) (fun c3 => ?_) (fun c3 => ?_)
        · refine Sg (fun g4 => ?_)
          refine SsJ (ri_up u_I0_15 (rfl : ((23 : Nat) : Int) = 23) (ui_add (u_I0_15 105 23) (rfl : Ui (1) (1)) g4)) (fun I_32 I_32' u_I_32 => ?_)
          refine Sc Iff.rfl (fun c5 => ?_) (fun _ => Sn)
          refine Sb2 (ks_225 n (dp - 1) e 0 _ _ _ _ _ _ _ _ u_I_32 u_L0_15 u_i1 (rfl : Ui (0) (0))) (fun I1_38 I1_38' L1_38 L1_38' u_I1_38 u_L1_38 => ?_)
          exact Sr ⟨u_I1_38, u_L1_38⟩
        · exact Sr ⟨u_I0_15, u_L0_15⟩
      · refine Sc Iff.rfl (fun c6 => ?_) (fun _ => Sn)
        refine Sb2 (ks_219 n (dp - 1) e 0 _ _ _ _ _ _ u_I u_L (rfl : Ui (1) (1))) (fun I0_15 I0_15' L0_15 L0_15' u_I0_15 u_L0_15 => ?_)
        refine Sc (eq_up (u_I0_15 105 13) (rfl : Ui 0 0)) (fun c7 => ?_) (fun c7 => ?_)
        · refine Sg (fun g8 => ?_)
          refine SsJ (ri_up u_I0_15 (rfl : ((23 : Nat) : Int) = 23) (ui_add (u_I0_15 105 23) (rfl : Ui (1) (1)) g8)) (fun I_32 I_32' u_I_32 => ?_)
          refine Sc Iff.rfl (fun c9 => ?_) (fun _ => Sn)
          refine Sb2 (ks_225 n (dp - 1) e 0 _ _ _ _ _ _ _ _ u_I_32 u_L0_15 u_i1 (rfl : Ui (0) (0))) (fun I1_38 I1_38' L1_38 L1_38' u_I1_38 u_L1_38 => ?_)
          exact Sr ⟨u_I1_38, u_L1_38⟩
        · exact Sr ⟨u_I0_15, u_L0_15⟩
    exact Sn
set_option maxHeartbeats 4000000 in
set_option maxRecDepth 100000 in
def kf_229 : Nat → Nat → EN → Nat → JI → JI → Int → Int → Option (Int × JI × JI)
  | 0, _, _, _, _, _, _, _ => none
  | n + 1, dp, e, lab, I, L, i1, i2 =>
    if lab = 0 then (kf_229 n dp e 1 I L (-1) 0)
    else if lab = 1 then (if 5 ≤ i2 then (some ((i1 : Int), I, L)) else (if 0 ≤ i2 ∧ i2 < 5 then (if 1 ≤ dp then ((kf_218 n (dp - 1) e 0 I L (L 116 i2)).bind (fun ⟨x0_16, I0_16, L0_16⟩ => (if x0_16 = 0 then (if -2147483648 ≤ i2 + 1 ∧ i2 + 1 ≤ 2147483647 then (kf_229 n dp e 1 I0_16 L0_16 i1 (i2 + 1)) else none) else (if -2147483648 ≤ i2 + 1 ∧ i2 + 1 ≤ 2147483647 then (kf_229 n dp e 1 I0_16 L0_16 (i2 + 1) (i2 + 1)) else none)))) else none) else none))
    else none
set_option maxRecDepth 100000 in
theorem ke_229_0 (n : Nat) (dp : Nat) (e : EN) (I : JI) (L : JI) (i1 : Int) (i2 : Int) : kf_229 (n + 1) dp e 0 I L i1 i2 = (kf_229 n dp e 1 I L (-1) 0) := by rw [kf_229.eq_2, if_pos (show (0 : Nat) = 0 from rfl)]
set_option maxRecDepth 100000 in
theorem ke_229_1 (n : Nat) (dp : Nat) (e : EN) (I : JI) (L : JI) (i1 : Int) (i2 : Int) : kf_229 (n + 1) dp e 1 I L i1 i2 = (if 5 ≤ i2 then (some ((i1 : Int), I, L)) else (if 0 ≤ i2 ∧ i2 < 5 then (if 1 ≤ dp then ((kf_218 n (dp - 1) e 0 I L (L 116 i2)).bind (fun ⟨x0_16, I0_16, L0_16⟩ => (if x0_16 = 0 then (if -2147483648 ≤ i2 + 1 ∧ i2 + 1 ≤ 2147483647 then (kf_229 n dp e 1 I0_16 L0_16 i1 (i2 + 1)) else none) else (if -2147483648 ≤ i2 + 1 ∧ i2 + 1 ≤ 2147483647 then (kf_229 n dp e 1 I0_16 L0_16 (i2 + 1) (i2 + 1)) else none)))) else none) else none)) := by rw [kf_229.eq_2, if_neg (show ¬ ((1 : Nat) = 0) by decide), if_pos (show (1 : Nat) = 1 from rfl)]
set_option maxHeartbeats 8000000 in
set_option maxRecDepth 100000 in
theorem ks_229 : ∀ (n : Nat) (dp : Nat) (e : EN) (lab : Nat) (I : Nat → Nat → Int32) (I' : JI) (L : Nat → Nat → Int64) (L' : JI) (i1 : Int32) (i1' : Int) (i2 : Int32) (i2' : Int), Rli I I' → Rll L L' → Ui i1 i1' → Ui i2 i2' → Sim R3 (g_229 n dp e lab I L i1 i2) (kf_229 n dp e lab I' L' i1' i2') := by
  intro n
  induction n with
  | zero => intros; rw [kf_229.eq_1]; exact Sn
  | succ n ih =>
    intro dp e lab I I' L L' i1 i1' i2 i2' u_I u_L u_i1 u_i2
    rw [g_229.eq_2, kf_229.eq_2]
    refine Sc Iff.rfl (fun _ => ?_) (fun _ => ?_)
    · exact (ih dp e 1 _ _ _ _ _ _ _ _ u_I u_L (rfl : Ui (-1) (-1)) (rfl : Ui (0) (0)))
    refine Sc Iff.rfl (fun _ => ?_) (fun _ => ?_)
    · refine Sc (le_up (rfl : Ui (5) (5)) u_i2) (fun c1 => ?_) (fun c1 => ?_)
      · exact Sr ⟨u_i1, u_I, u_L⟩
      · refine Sc (ix_up u_i2) (fun c2 => ?_) (fun _ => Sn)
        refine Sc Iff.rfl (fun c3 => ?_) (fun _ => Sn)
        refine Sb3 (ks_218 n (dp - 1) e 0 _ _ _ _ _ _ u_I u_L (ul_rd (a := 116) u_L u_i2 c2.1)) (fun x0_16 x0_16' I0_16 I0_16' L0_16 L0_16' u_x0_16 u_I0_16 u_L0_16 => ?_)
        refine Sc (eq_up u_x0_16 (rfl : Ui 0 0)) (fun c4 => ?_) (fun c4 => ?_)
        · refine Sg (fun g5 => ?_)
          exact (ih dp e 1 _ _ _ _ _ _ _ _ u_I0_16 u_L0_16 u_i1 (ui_add u_i2 (rfl : Ui (Int32.ofInt (1)) (1)) g5))
        · refine Sg (fun g6 => ?_)
          exact (ih dp e 1 _ _ _ _ _ _ _ _ u_I0_16 u_L0_16 (ui_add u_i2 (rfl : Ui (1) (1)) g6) (ui_add u_i2 (rfl : Ui (Int32.ofInt (1)) (1)) g6))
    exact Sn
set_option maxHeartbeats 4000000 in
set_option maxRecDepth 100000 in
def kf_231 : Nat → Nat → EN → Nat → JI → JI → Int → Int → Option (JI × JI)
  | 0, _, _, _, _, _, _, _ => none
  | n + 1, dp, e, lab, I, L, i1, i2 =>
    if lab = 0 then (if 0 ≤ (I 105 16) ∧ (I 105 16) < 400 then (stI (w2 I 112 (I 105 16) i1) (fun I_9 => (if 0 ≤ (I_9 105 16) ∧ (I_9 105 16) < 400 then (stI (w2 I_9 113 (I_9 105 16) i2) (fun I_19 => (if -2147483648 ≤ (I_19 105 16) + 1 ∧ (I_19 105 16) + 1 ≤ 2147483647 then (stI (w2 I_19 105 16 ((I_19 105 16) + 1)) (fun I_27 => (some (I_27, L)))) else none))) else none))) else none)
    else none
set_option maxRecDepth 100000 in
theorem ke_231_0 (n : Nat) (dp : Nat) (e : EN) (I : JI) (L : JI) (i1 : Int) (i2 : Int) : kf_231 (n + 1) dp e 0 I L i1 i2 = (if 0 ≤ (I 105 16) ∧ (I 105 16) < 400 then (stI (w2 I 112 (I 105 16) i1) (fun I_9 => (if 0 ≤ (I_9 105 16) ∧ (I_9 105 16) < 400 then (stI (w2 I_9 113 (I_9 105 16) i2) (fun I_19 => (if -2147483648 ≤ (I_19 105 16) + 1 ∧ (I_19 105 16) + 1 ≤ 2147483647 then (stI (w2 I_19 105 16 ((I_19 105 16) + 1)) (fun I_27 => (some (I_27, L)))) else none))) else none))) else none) := by rw [kf_231.eq_2, if_pos (show (0 : Nat) = 0 from rfl)]
set_option maxHeartbeats 8000000 in
set_option maxRecDepth 100000 in
theorem ks_231 : ∀ (n : Nat) (dp : Nat) (e : EN) (lab : Nat) (I : Nat → Nat → Int32) (I' : JI) (L : Nat → Nat → Int64) (L' : JI) (i1 : Int32) (i1' : Int) (i2 : Int32) (i2' : Int), Rli I I' → Rll L L' → Ui i1 i1' → Ui i2 i2' → Sim R2 (g_231 n dp e lab I L i1 i2) (kf_231 n dp e lab I' L' i1' i2') := by
  intro n
  induction n with
  | zero => intros; rw [kf_231.eq_1]; exact Sn
  | succ n ih =>
    intro dp e lab I I' L L' i1 i1' i2 i2' u_I u_L u_i1 u_i2
    rw [g_231.eq_2, kf_231.eq_2]
    refine Sc Iff.rfl (fun _ => ?_) (fun _ => ?_)
    · refine Sc (ix_up (u_I 105 16)) (fun c1 => ?_) (fun _ => Sn)
      refine SsJ (ri_up u_I (kc_up (u_I 105 16) c1.1) u_i1) (fun I_9 I_9' u_I_9 => ?_)
      refine Sc (ix_up (u_I_9 105 16)) (fun c2 => ?_) (fun _ => Sn)
      refine SsJ (ri_up u_I_9 (kc_up (u_I_9 105 16) c2.1) u_i2) (fun I_19 I_19' u_I_19 => ?_)
      refine Sg (fun g3 => ?_)
      refine SsJ (ri_up u_I_19 (rfl : ((16 : Nat) : Int) = 16) (ui_add (u_I_19 105 16) (rfl : Ui (1) (1)) g3)) (fun I_27 I_27' u_I_27 => ?_)
      exact Sr ⟨u_I_27, u_L⟩
    exact Sn
set_option maxHeartbeats 4000000 in
set_option maxRecDepth 100000 in
def kf_230 : Nat → Nat → EN → Nat → JI → JI → Int → Int → Int → Option (JI × JI)
  | 0, _, _, _, _, _, _, _, _ => none
  | n + 1, dp, e, lab, I, L, i1, i2, i3 =>
    if lab = 0 then (if i1 = 0 then (if 1 ≤ dp then ((kf_219 n (dp - 1) e 0 I L 0).bind (fun ⟨I0_19, L0_19⟩ => (if (I0_19 105 13) = 0 then (if 1 ≤ dp then ((kf_231 n (dp - 1) e 0 I0_19 L0_19 i2 i3).bind (fun ⟨I1_32, L1_32⟩ => (if -2147483648 ≤ (I1_32 105 19) + 1 ∧ (I1_32 105 19) + 1 ≤ 2147483647 then (stI (w2 I1_32 105 19 ((I1_32 105 19) + 1)) (fun I_42 => (some (I_42, L1_32)))) else none))) else none) else (some (I0_19, L0_19))))) else none) else (if 50 ≤ (I 105 19) then (if 1 ≤ dp then ((kf_219 n (dp - 1) e 0 I L 0).bind (fun ⟨I0_19, L0_19⟩ => (if (I0_19 105 13) = 0 then (if 1 ≤ dp then ((kf_231 n (dp - 1) e 0 I0_19 L0_19 i2 i3).bind (fun ⟨I1_32, L1_32⟩ => (if -2147483648 ≤ (I1_32 105 19) + 1 ∧ (I1_32 105 19) + 1 ≤ 2147483647 then (stI (w2 I1_32 105 19 ((I1_32 105 19) + 1)) (fun I_42 => (some (I_42, L1_32)))) else none))) else none) else (some (I0_19, L0_19))))) else none) else (if 1 ≤ dp then ((kf_219 n (dp - 1) e 0 I L 1).bind (fun ⟨I0_19, L0_19⟩ => (if (I0_19 105 13) = 0 then (if 1 ≤ dp then ((kf_231 n (dp - 1) e 0 I0_19 L0_19 i2 i3).bind (fun ⟨I1_32, L1_32⟩ => (if -2147483648 ≤ (I1_32 105 19) + 1 ∧ (I1_32 105 19) + 1 ≤ 2147483647 then (stI (w2 I1_32 105 19 ((I1_32 105 19) + 1)) (fun I_42 => (some (I_42, L1_32)))) else none))) else none) else (some (I0_19, L0_19))))) else none)))
    else none
set_option maxRecDepth 100000 in
theorem ke_230_0 (n : Nat) (dp : Nat) (e : EN) (I : JI) (L : JI) (i1 : Int) (i2 : Int) (i3 : Int) : kf_230 (n + 1) dp e 0 I L i1 i2 i3 = (if i1 = 0 then (if 1 ≤ dp then ((kf_219 n (dp - 1) e 0 I L 0).bind (fun ⟨I0_19, L0_19⟩ => (if (I0_19 105 13) = 0 then (if 1 ≤ dp then ((kf_231 n (dp - 1) e 0 I0_19 L0_19 i2 i3).bind (fun ⟨I1_32, L1_32⟩ => (if -2147483648 ≤ (I1_32 105 19) + 1 ∧ (I1_32 105 19) + 1 ≤ 2147483647 then (stI (w2 I1_32 105 19 ((I1_32 105 19) + 1)) (fun I_42 => (some (I_42, L1_32)))) else none))) else none) else (some (I0_19, L0_19))))) else none) else (if 50 ≤ (I 105 19) then (if 1 ≤ dp then ((kf_219 n (dp - 1) e 0 I L 0).bind (fun ⟨I0_19, L0_19⟩ => (if (I0_19 105 13) = 0 then (if 1 ≤ dp then ((kf_231 n (dp - 1) e 0 I0_19 L0_19 i2 i3).bind (fun ⟨I1_32, L1_32⟩ => (if -2147483648 ≤ (I1_32 105 19) + 1 ∧ (I1_32 105 19) + 1 ≤ 2147483647 then (stI (w2 I1_32 105 19 ((I1_32 105 19) + 1)) (fun I_42 => (some (I_42, L1_32)))) else none))) else none) else (some (I0_19, L0_19))))) else none) else (if 1 ≤ dp then ((kf_219 n (dp - 1) e 0 I L 1).bind (fun ⟨I0_19, L0_19⟩ => (if (I0_19 105 13) = 0 then (if 1 ≤ dp then ((kf_231 n (dp - 1) e 0 I0_19 L0_19 i2 i3).bind (fun ⟨I1_32, L1_32⟩ => (if -2147483648 ≤ (I1_32 105 19) + 1 ∧ (I1_32 105 19) + 1 ≤ 2147483647 then (stI (w2 I1_32 105 19 ((I1_32 105 19) + 1)) (fun I_42 => (some (I_42, L1_32)))) else none))) else none) else (some (I0_19, L0_19))))) else none))) := by rw [kf_230.eq_2, if_pos (show (0 : Nat) = 0 from rfl)]
set_option maxHeartbeats 8000000 in
set_option maxRecDepth 100000 in
theorem ks_230 : ∀ (n : Nat) (dp : Nat) (e : EN) (lab : Nat) (I : Nat → Nat → Int32) (I' : JI) (L : Nat → Nat → Int64) (L' : JI) (i1 : Int32) (i1' : Int) (i2 : Int32) (i2' : Int) (i3 : Int32) (i3' : Int), Rli I I' → Rll L L' → Ui i1 i1' → Ui i2 i2' → Ui i3 i3' → Sim R2 (g_230 n dp e lab I L i1 i2 i3) (kf_230 n dp e lab I' L' i1' i2' i3') := by
  intro n
  induction n with
  | zero => intros; rw [kf_230.eq_1]; exact Sn
  | succ n ih =>
    intro dp e lab I I' L L' i1 i1' i2 i2' i3 i3' u_I u_L u_i1 u_i2 u_i3
    rw [g_230.eq_2, kf_230.eq_2]
    refine Sc Iff.rfl (fun _ => ?_) (fun _ => ?_)
    · refine Sc (eq_up u_i1 (rfl : Ui 0 0)) (fun c1 => ?_) (fun c1 => ?_)
      · refine Sc Iff.rfl (fun c2 => ?_) (fun _ => Sn)
        refine Sb2 (ks_219 n (dp - 1) e 0 _ _ _ _ _ _ u_I u_L (rfl : Ui (0) (0))) (fun I0_19 I0_19' L0_19 L0_19' u_I0_19 u_L0_19 => ?_)
        refine Sc (eq_up (u_I0_19 105 13) (rfl : Ui 0 0)) (fun c3 => ?_) (fun c3 => ?_)
        · refine Sc Iff.rfl (fun c4 => ?_) (fun _ => Sn)
          refine Sb2 (ks_231 n (dp - 1) e 0 _ _ _ _ _ _ _ _ u_I0_19 u_L0_19 u_i2 u_i3) (fun I1_32 I1_32' L1_32 L1_32' u_I1_32 u_L1_32 => ?_)
          refine Sg (fun g5 => ?_)
          refine SsJ (ri_up u_I1_32 (rfl : ((19 : Nat) : Int) = 19) (ui_add (u_I1_32 105 19) (rfl : Ui (1) (1)) g5)) (fun I_42 I_42' u_I_42 => ?_)
          exact Sr ⟨u_I_42, u_L1_32⟩
        · exact Sr ⟨u_I0_19, u_L0_19⟩
      · refine Sc (le_up (rfl : Ui (50) (50)) (u_I 105 19)) (fun c6 => ?_) (fun c6 => ?_)
        · refine Sc Iff.rfl (fun c7 => ?_) (fun _ => Sn)
          refine Sb2 (ks_219 n (dp - 1) e 0 _ _ _ _ _ _ u_I u_L (rfl : Ui (0) (0))) (fun I0_19 I0_19' L0_19 L0_19' u_I0_19 u_L0_19 => ?_)
          refine Sc (eq_up (u_I0_19 105 13) (rfl : Ui 0 0)) (fun c8 => ?_) (fun c8 => ?_)
          · refine Sc Iff.rfl (fun c9 => ?_) (fun _ => Sn)
            refine Sb2 (ks_231 n (dp - 1) e 0 _ _ _ _ _ _ _ _ u_I0_19 u_L0_19 u_i2 u_i3) (fun I1_32 I1_32' L1_32 L1_32' u_I1_32 u_L1_32 => ?_)
            refine Sg (fun g10 => ?_)
            refine SsJ (ri_up u_I1_32 (rfl : ((19 : Nat) : Int) = 19) (ui_add (u_I1_32 105 19) (rfl : Ui (1) (1)) g10)) (fun I_42 I_42' u_I_42 => ?_)
            exact Sr ⟨u_I_42, u_L1_32⟩
          · exact Sr ⟨u_I0_19, u_L0_19⟩
        · refine Sc Iff.rfl (fun c11 => ?_) (fun _ => Sn)
          refine Sb2 (ks_219 n (dp - 1) e 0 _ _ _ _ _ _ u_I u_L (rfl : Ui (1) (1))) (fun I0_19 I0_19' L0_19 L0_19' u_I0_19 u_L0_19 => ?_)
          refine Sc (eq_up (u_I0_19 105 13) (rfl : Ui 0 0)) (fun c12 => ?_) (fun c12 => ?_)
          · refine Sc Iff.rfl (fun c13 => ?_) (fun _ => Sn)
            refine Sb2 (ks_231 n (dp - 1) e 0 _ _ _ _ _ _ _ _ u_I0_19 u_L0_19 u_i2 u_i3) (fun I1_32 I1_32' L1_32 L1_32' u_I1_32 u_L1_32 => ?_)
            refine Sg (fun g14 => ?_)
            refine SsJ (ri_up u_I1_32 (rfl : ((19 : Nat) : Int) = 19) (ui_add (u_I1_32 105 19) (rfl : Ui (1) (1)) g14)) (fun I_42 I_42' u_I_42 => ?_)
            exact Sr ⟨u_I_42, u_L1_32⟩
          · exact Sr ⟨u_I0_19, u_L0_19⟩
    exact Sn
