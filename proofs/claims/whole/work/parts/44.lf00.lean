/-! lifted functions 00, printed by lift.py -/
set_option maxHeartbeats 4000000 in
set_option maxRecDepth 100000 in
def kf_14 : Nat → Nat → EN → Nat → JI → JI → Int → Int → Int → Option (Int × JI × JI)
  | 0, _, _, _, _, _, _, _, _ => none
  | n + 1, dp, e, lab, I, L, i0, i1, i2 =>
    if lab = 0 then (if i0 < i1 then (some ((0 : Int), I, L)) else (if i2 < i0 then (some ((0 : Int), I, L)) else (some ((1 : Int), I, L))))
    else none
set_option maxRecDepth 100000 in
theorem ke_14_0 (n : Nat) (dp : Nat) (e : EN) (I : JI) (L : JI) (i0 : Int) (i1 : Int) (i2 : Int) : kf_14 (n + 1) dp e 0 I L i0 i1 i2 = (if i0 < i1 then (some ((0 : Int), I, L)) else (if i2 < i0 then (some ((0 : Int), I, L)) else (some ((1 : Int), I, L)))) := by rw [kf_14.eq_2, if_pos (show (0 : Nat) = 0 from rfl)]
set_option maxHeartbeats 8000000 in
set_option maxRecDepth 100000 in
theorem ks_14 : ∀ (n : Nat) (dp : Nat) (e : EN) (lab : Nat) (I : Nat → Nat → Int32) (I' : JI) (L : Nat → Nat → Int64) (L' : JI) (i0 : Int32) (i0' : Int) (i1 : Int32) (i1' : Int) (i2 : Int32) (i2' : Int), Rli I I' → Rll L L' → Ui i0 i0' → Ui i1 i1' → Ui i2 i2' → Sim R3 (g_14 n dp e lab I L i0 i1 i2) (kf_14 n dp e lab I' L' i0' i1' i2') := by
  intro n
  induction n with
  | zero => intros; rw [kf_14.eq_1]; exact Sn
  | succ n ih =>
    intro dp e lab I I' L L' i0 i0' i1 i1' i2 i2' u_I u_L u_i0 u_i1 u_i2
    rw [g_14.eq_2, kf_14.eq_2]
    refine Sc Iff.rfl (fun _ => ?_) (fun _ => ?_)
    · refine Sc (lt_up u_i0 u_i1) (fun c1 => ?_) (fun c1 => ?_)
      · exact Sr ⟨(rfl : Ui (0) (0)), u_I, u_L⟩
      · refine Sc (lt_up u_i2 u_i0) (fun c2 => ?_) (fun c2 => ?_)
        · exact Sr ⟨(rfl : Ui (0) (0)), u_I, u_L⟩
        · exact Sr ⟨(rfl : Ui (1) (1)), u_I, u_L⟩
    exact Sn
set_option maxHeartbeats 4000000 in
set_option maxRecDepth 100000 in
def kf_15 : Nat → Nat → EN → Nat → JI → JI → Int → Option (Int × JI × JI)
  | 0, _, _, _, _, _, _ => none
  | n + 1, dp, e, lab, I, L, i1 =>
    if lab = 0 then (stI (w2 I 0 18 i1) (fun I_2 => (if i1 < (-3) then (if 1 ≤ dp then (if -2147483648 ≤ (-2) - i1 ∧ (-2) - i1 ≤ 2147483647 then ((kf_14 n (dp - 1) e 0 I_2 L ((-2) - i1) 0 4).bind (fun ⟨x0_31, I0_31, L0_31⟩ => (if x0_31 = 0 then (some ((i1 : Int), I0_31, L0_31)) else (if 0 ≤ ((-2) - i1) ∧ ((-2) - i1) < 5 then (if 0 ≤ ((-2) - i1) ∧ ((-2) - i1) < 5 then (if -2147483648 ≤ (I0_31 92 ((-2) - i1)) + 1 ∧ (I0_31 92 ((-2) - i1)) + 1 ≤ 2147483647 then (stI (w2 I0_31 92 ((-2) - i1) ((I0_31 92 ((-2) - i1)) + 1)) (fun I_46 => (some ((i1 : Int), I_46, L0_31)))) else none) else none) else none)))) else none) else none) else (if 1 ≤ dp then (if -2147483648 ≤ (-1) - i1 ∧ (-1) - i1 ≤ 2147483647 then ((kf_14 n (dp - 1) e 0 I_2 L ((-1) - i1) 0 4).bind (fun ⟨x0_31, I0_31, L0_31⟩ => (if x0_31 = 0 then (some ((i1 : Int), I0_31, L0_31)) else (if 0 ≤ ((-1) - i1) ∧ ((-1) - i1) < 5 then (if 0 ≤ ((-1) - i1) ∧ ((-1) - i1) < 5 then (if -2147483648 ≤ (I0_31 92 ((-1) - i1)) + 1 ∧ (I0_31 92 ((-1) - i1)) + 1 ≤ 2147483647 then (stI (w2 I0_31 92 ((-1) - i1) ((I0_31 92 ((-1) - i1)) + 1)) (fun I_46 => (some ((i1 : Int), I_46, L0_31)))) else none) else none) else none)))) else none) else none))))
    else none
set_option maxRecDepth 100000 in
theorem ke_15_0 (n : Nat) (dp : Nat) (e : EN) (I : JI) (L : JI) (i1 : Int) : kf_15 (n + 1) dp e 0 I L i1 = (stI (w2 I 0 18 i1) (fun I_2 => (if i1 < (-3) then (if 1 ≤ dp then (if -2147483648 ≤ (-2) - i1 ∧ (-2) - i1 ≤ 2147483647 then ((kf_14 n (dp - 1) e 0 I_2 L ((-2) - i1) 0 4).bind (fun ⟨x0_31, I0_31, L0_31⟩ => (if x0_31 = 0 then (some ((i1 : Int), I0_31, L0_31)) else (if 0 ≤ ((-2) - i1) ∧ ((-2) - i1) < 5 then (if 0 ≤ ((-2) - i1) ∧ ((-2) - i1) < 5 then (if -2147483648 ≤ (I0_31 92 ((-2) - i1)) + 1 ∧ (I0_31 92 ((-2) - i1)) + 1 ≤ 2147483647 then (stI (w2 I0_31 92 ((-2) - i1) ((I0_31 92 ((-2) - i1)) + 1)) (fun I_46 => (some ((i1 : Int), I_46, L0_31)))) else none) else none) else none)))) else none) else none) else (if 1 ≤ dp then (if -2147483648 ≤ (-1) - i1 ∧ (-1) - i1 ≤ 2147483647 then ((kf_14 n (dp - 1) e 0 I_2 L ((-1) - i1) 0 4).bind (fun ⟨x0_31, I0_31, L0_31⟩ => (if x0_31 = 0 then (some ((i1 : Int), I0_31, L0_31)) else (if 0 ≤ ((-1) - i1) ∧ ((-1) - i1) < 5 then (if 0 ≤ ((-1) - i1) ∧ ((-1) - i1) < 5 then (if -2147483648 ≤ (I0_31 92 ((-1) - i1)) + 1 ∧ (I0_31 92 ((-1) - i1)) + 1 ≤ 2147483647 then (stI (w2 I0_31 92 ((-1) - i1) ((I0_31 92 ((-1) - i1)) + 1)) (fun I_46 => (some ((i1 : Int), I_46, L0_31)))) else none) else none) else none)))) else none) else none)))) := by rw [kf_15.eq_2, if_pos (show (0 : Nat) = 0 from rfl)]
set_option maxHeartbeats 8000000 in
set_option maxRecDepth 100000 in
theorem ks_15 : ∀ (n : Nat) (dp : Nat) (e : EN) (lab : Nat) (I : Nat → Nat → Int32) (I' : JI) (L : Nat → Nat → Int64) (L' : JI) (i1 : Int32) (i1' : Int), Rli I I' → Rll L L' → Ui i1 i1' → Sim R3 (g_15 n dp e lab I L i1) (kf_15 n dp e lab I' L' i1') := by
  intro n
  induction n with
  | zero => intros; rw [kf_15.eq_1]; exact Sn
  | succ n ih =>
    intro dp e lab I I' L L' i1 i1' u_I u_L u_i1
    rw [g_15.eq_2, kf_15.eq_2]
    refine Sc Iff.rfl (fun _ => ?_) (fun _ => ?_)
    · refine SsJ (ri_up u_I (rfl : ((18 : Nat) : Int) = 18) u_i1) (fun I_2 I_2' u_I_2 => ?_)
      refine Sc (lt_up u_i1 (rfl : Ui (-3) (-3))) (fun c1 => ?_) (fun c1 => ?_)
      · refine Sc Iff.rfl (fun c2 => ?_) (fun _ => Sn)
        refine Sg (fun g3 => ?_)
        refine Sb3 (ks_14 n (dp - 1) e 0 _ _ _ _ _ _ _ _ _ _ u_I_2 u_L (ui_sub (rfl : Ui (-2) (-2)) u_i1 g3) (rfl : Ui (0) (0)) (rfl : Ui ((5 : Int32) - 1) (4))) (fun x0_31 x0_31' I0_31 I0_31' L0_31 L0_31' u_x0_31 u_I0_31 u_L0_31 => ?_)
        refine Sc (eq_up u_x0_31 (rfl : Ui 0 0)) (fun c4 => ?_) (fun c4 => ?_)
        · exact Sr ⟨u_i1, u_I0_31, u_L0_31⟩
        · refine Sc (ix_up (ui_sub (rfl : Ui (-2) (-2)) u_i1 g3)) (fun c5 => ?_) (fun _ => Sn)
          refine Sc (ix_up (ui_sub (rfl : Ui (-2) (-2)) u_i1 g3)) (fun c6 => ?_) (fun _ => Sn)
          refine Sg (fun g7 => ?_)
          refine SsJ (ri_up u_I0_31 (kc_up (ui_sub (rfl : Ui (-2) (-2)) u_i1 g3) c6.1) (ui_add (ui_rd (a := 92) u_I0_31 (ui_sub (rfl : Ui (-2) (-2)) u_i1 g3) c6.1) (rfl : Ui (1) (1)) g7)) (fun I_46 I_46' u_I_46 => ?_)
          exact Sr ⟨u_i1, u_I_46, u_L0_31⟩
      · refine Sc Iff.rfl (fun c8 => ?_) (fun _ => Sn)
        refine Sg (fun g9 => ?_)
        refine Sb3 (ks_14 n (dp - 1) e 0 _ _ _ _ _ _ _ _ _ _ u_I_2 u_L (ui_sub (rfl : Ui (-1) (-1)) u_i1 g9) (rfl : Ui (0) (0)) (rfl : Ui ((5 : Int32) - 1) (4))) (fun x0_31 x0_31' I0_31 I0_31' L0_31 L0_31' u_x0_31 u_I0_31 u_L0_31 => ?_)
        refine Sc (eq_up u_x0_31 (rfl : Ui 0 0)) (fun c10 => ?_) (fun c10 => ?_)
        · exact Sr ⟨u_i1, u_I0_31, u_L0_31⟩
        · refine Sc (ix_up (ui_sub (rfl : Ui (-1) (-1)) u_i1 g9)) (fun c11 => ?_) (fun _ => Sn)
          refine Sc (ix_up (ui_sub (rfl : Ui (-1) (-1)) u_i1 g9)) (fun c12 => ?_) (fun _ => Sn)
          refine Sg (fun g13 => ?_)
          refine SsJ (ri_up u_I0_31 (kc_up (ui_sub (rfl : Ui (-1) (-1)) u_i1 g9) c12.1) (ui_add (ui_rd (a := 92) u_I0_31 (ui_sub (rfl : Ui (-1) (-1)) u_i1 g9) c12.1) (rfl : Ui (1) (1)) g13)) (fun I_46 I_46' u_I_46 => ?_)
          exact Sr ⟨u_i1, u_I_46, u_L0_31⟩
    exact Sn
set_option maxHeartbeats 4000000 in
set_option maxRecDepth 100000 in
def kf_16 : Nat → Nat → EN → Nat → JI → JI → Option (Int × JI × JI)
  | 0, _, _, _, _, _ => none
  | n + 1, dp, e, lab, I, L =>
    if lab = 0 then (if (-2147483648 ≤ (I 2 0) + (I 2 1) ∧ (I 2 0) + (I 2 1) ≤ 2147483647) ∧ (-2147483648 ≤ ((I 2 0) + (I 2 1)) + (I 2 2) ∧ ((I 2 0) + (I 2 1)) + (I 2 2) ≤ 2147483647) then (some (((((I 2 0) + (I 2 1)) + (I 2 2)) : Int), I, L)) else none)
    else none
set_option maxRecDepth 100000 in
theorem ke_16_0 (n : Nat) (dp : Nat) (e : EN) (I : JI) (L : JI) : kf_16 (n + 1) dp e 0 I L = (if (-2147483648 ≤ (I 2 0) + (I 2 1) ∧ (I 2 0) + (I 2 1) ≤ 2147483647) ∧ (-2147483648 ≤ ((I 2 0) + (I 2 1)) + (I 2 2) ∧ ((I 2 0) + (I 2 1)) + (I 2 2) ≤ 2147483647) then (some (((((I 2 0) + (I 2 1)) + (I 2 2)) : Int), I, L)) else none) := by rw [kf_16.eq_2, if_pos (show (0 : Nat) = 0 from rfl)]
set_option maxHeartbeats 8000000 in
set_option maxRecDepth 100000 in
theorem ks_16 : ∀ (n : Nat) (dp : Nat) (e : EN) (lab : Nat) (I : Nat → Nat → Int32) (I' : JI) (L : Nat → Nat → Int64) (L' : JI), Rli I I' → Rll L L' → Sim R3 (g_16 n dp e lab I L) (kf_16 n dp e lab I' L') := by
  intro n
  induction n with
  | zero => intros; rw [kf_16.eq_1]; exact Sn
  | succ n ih =>
    intro dp e lab I I' L L' u_I u_L
    rw [g_16.eq_2, kf_16.eq_2]
    refine Sc Iff.rfl (fun _ => ?_) (fun _ => ?_)
    · refine Sg (fun g1 => ?_)
      exact Sr ⟨(ui_add (ui_add (u_I 2 0) (u_I 2 1) g1.1) (u_I 2 2) g1.2), u_I, u_L⟩
    exact Sn
set_option maxHeartbeats 4000000 in
set_option maxRecDepth 100000 in
def kf_17 : Nat → Nat → EN → Nat → JI → JI → Option (JI × JI)
  | 0, _, _, _, _, _ => none
  | n + 1, dp, e, lab, I, L =>
    if lab = 0 then (stI (w2 I 24 15 1) (fun I_2 => (some (I_2, L))))
    else none
set_option maxRecDepth 100000 in
theorem ke_17_0 (n : Nat) (dp : Nat) (e : EN) (I : JI) (L : JI) : kf_17 (n + 1) dp e 0 I L = (stI (w2 I 24 15 1) (fun I_2 => (some (I_2, L)))) := by rw [kf_17.eq_2, if_pos (show (0 : Nat) = 0 from rfl)]
set_option maxHeartbeats 8000000 in
set_option maxRecDepth 100000 in
theorem ks_17 : ∀ (n : Nat) (dp : Nat) (e : EN) (lab : Nat) (I : Nat → Nat → Int32) (I' : JI) (L : Nat → Nat → Int64) (L' : JI), Rli I I' → Rll L L' → Sim R2 (g_17 n dp e lab I L) (kf_17 n dp e lab I' L') := by
  intro n
  induction n with
  | zero => intros; rw [kf_17.eq_1]; exact Sn
  | succ n ih =>
    intro dp e lab I I' L L' u_I u_L
    rw [g_17.eq_2, kf_17.eq_2]
    refine Sc Iff.rfl (fun _ => ?_) (fun _ => ?_)
    · refine SsJ (ri_up u_I (rfl : ((15 : Nat) : Int) = 15) (rfl : Ui (1) (1))) (fun I_2 I_2' u_I_2 => ?_)
      exact Sr ⟨u_I_2, u_L⟩
    exact Sn
set_option maxHeartbeats 4000000 in
set_option maxRecDepth 100000 in
def kf_18 : Nat → Nat → EN → Nat → JI → JI → Option (JI × JI)
  | 0, _, _, _, _, _ => none
  | n + 1, dp, e, lab, I, L =>
    if lab = 0 then (stI (w2 I 73 15 1) (fun I_2 => (stI (w2 I_2 73 16 1) (fun I_7 => (some (I_7, L))))))
    else none
set_option maxRecDepth 100000 in
theorem ke_18_0 (n : Nat) (dp : Nat) (e : EN) (I : JI) (L : JI) : kf_18 (n + 1) dp e 0 I L = (stI (w2 I 73 15 1) (fun I_2 => (stI (w2 I_2 73 16 1) (fun I_7 => (some (I_7, L)))))) := by rw [kf_18.eq_2, if_pos (show (0 : Nat) = 0 from rfl)]
set_option maxHeartbeats 8000000 in
set_option maxRecDepth 100000 in
theorem ks_18 : ∀ (n : Nat) (dp : Nat) (e : EN) (lab : Nat) (I : Nat → Nat → Int32) (I' : JI) (L : Nat → Nat → Int64) (L' : JI), Rli I I' → Rll L L' → Sim R2 (g_18 n dp e lab I L) (kf_18 n dp e lab I' L') := by
  intro n
  induction n with
  | zero => intros; rw [kf_18.eq_1]; exact Sn
  | succ n ih =>
    intro dp e lab I I' L L' u_I u_L
    rw [g_18.eq_2, kf_18.eq_2]
    refine Sc Iff.rfl (fun _ => ?_) (fun _ => ?_)
    · refine SsJ (ri_up u_I (rfl : ((15 : Nat) : Int) = 15) (rfl : Ui (1) (1))) (fun I_2 I_2' u_I_2 => ?_)
      refine SsJ (ri_up u_I_2 (rfl : ((16 : Nat) : Int) = 16) (rfl : Ui (1) (1))) (fun I_7 I_7' u_I_7 => ?_)
      exact Sr ⟨u_I_7, u_L⟩
    exact Sn
set_option maxHeartbeats 4000000 in
set_option maxRecDepth 100000 in
def kf_19 : Nat → Nat → EN → Nat → JI → JI → Int → Option (Int × JI × JI)
  | 0, _, _, _, _, _, _ => none
  | n + 1, dp, e, lab, I, L, i1 =>
    if lab = 0 then (stI (w2 I 0 18 0) (fun I_2 => (some ((i1 : Int), I_2, L))))
    else none
set_option maxRecDepth 100000 in
theorem ke_19_0 (n : Nat) (dp : Nat) (e : EN) (I : JI) (L : JI) (i1 : Int) : kf_19 (n + 1) dp e 0 I L i1 = (stI (w2 I 0 18 0) (fun I_2 => (some ((i1 : Int), I_2, L)))) := by rw [kf_19.eq_2, if_pos (show (0 : Nat) = 0 from rfl)]
set_option maxHeartbeats 8000000 in
set_option maxRecDepth 100000 in
theorem ks_19 : ∀ (n : Nat) (dp : Nat) (e : EN) (lab : Nat) (I : Nat → Nat → Int32) (I' : JI) (L : Nat → Nat → Int64) (L' : JI) (i1 : Int32) (i1' : Int), Rli I I' → Rll L L' → Ui i1 i1' → Sim R3 (g_19 n dp e lab I L i1) (kf_19 n dp e lab I' L' i1') := by
  intro n
  induction n with
  | zero => intros; rw [kf_19.eq_1]; exact Sn
  | succ n ih =>
    intro dp e lab I I' L L' i1 i1' u_I u_L u_i1
    rw [g_19.eq_2, kf_19.eq_2]
    refine Sc Iff.rfl (fun _ => ?_) (fun _ => ?_)
    · refine SsJ (ri_up u_I (rfl : ((18 : Nat) : Int) = 18) (rfl : Ui (0) (0))) (fun I_2 I_2' u_I_2 => ?_)
      exact Sr ⟨u_i1, u_I_2, u_L⟩
    exact Sn
set_option maxHeartbeats 4000000 in
set_option maxRecDepth 100000 in
def kf_13 : Nat → Nat → EN → Nat → JI → JI → Int → Int → Option (Int × JI × JI)
  | 0, _, _, _, _, _, _, _ => none
  | n + 1, dp, e, lab, I, L, i1, i2 =>
    if lab = 0 then (if 1 ≤ dp then ((kf_14 n (dp - 1) e 0 I L i1 0 2).bind (fun ⟨x0_3, I0_3, L0_3⟩ => (if x0_3 = 0 then (if 1 ≤ dp then ((kf_15 n (dp - 1) e 0 I0_3 L0_3 (-1)).bind (fun ⟨x1_21, I1_21, L1_21⟩ => (some ((x1_21 : Int), I1_21, L1_21)))) else none) else (if 1 ≤ dp then ((kf_14 n (dp - 1) e 0 I0_3 L0_3 i2 0 8).bind (fun ⟨x1_13, I1_13, L1_13⟩ => (if x1_13 = 0 then (if 1 ≤ dp then ((kf_15 n (dp - 1) e 0 I1_13 L1_13 (-1)).bind (fun ⟨x2_21, I2_21, L2_21⟩ => (some ((x2_21 : Int), I2_21, L2_21)))) else none) else (if 0 ≤ i1 ∧ i1 < 3 then (stI (I1_13 2 i1) (fun v_34 => (if 1 ≤ dp then ((kf_16 n (dp - 1) e 0 I1_13 L1_13).bind (fun ⟨x2_39, I2_39, L2_39⟩ => (if (-2147483648 ≤ x2_39 - v_34 ∧ x2_39 - v_34 ≤ 2147483647) ∧ (-2147483648 ≤ (x2_39 - v_34) + i2 ∧ (x2_39 - v_34) + i2 ≤ 2147483647) then (if ((x2_39 - v_34) + i2) ≤ 8 then (if 0 ≤ i1 ∧ i1 < 3 then (stI (w2 I2_39 2 i1 i2) (fun I_67 => (if 1 ≤ dp then ((kf_17 n (dp - 1) e 0 I_67 L2_39).bind (fun ⟨I3_72, L3_72⟩ => (if 1 ≤ dp then ((kf_18 n (dp - 1) e 0 I3_72 L3_72).bind (fun ⟨I4_79, L4_79⟩ => (if 1 ≤ dp then ((kf_19 n (dp - 1) e 0 I4_79 L4_79 v_34).bind (fun ⟨x5_84, I5_84, L5_84⟩ => (some ((x5_84 : Int), I5_84, L5_84)))) else none))) else none))) else none))) else none) else (if 1 ≤ dp then ((kf_15 n (dp - 1) e 0 I2_39 L2_39 (-3)).bind (fun ⟨x3_54, I3_54, L3_54⟩ => (some ((x3_54 : Int), I3_54, L3_54)))) else none)) else none))) else none))) else none)))) else none)))) else none)
    else none
set_option maxRecDepth 100000 in
theorem ke_13_0 (n : Nat) (dp : Nat) (e : EN) (I : JI) (L : JI) (i1 : Int) (i2 : Int) : kf_13 (n + 1) dp e 0 I L i1 i2 = (if 1 ≤ dp then ((kf_14 n (dp - 1) e 0 I L i1 0 2).bind (fun ⟨x0_3, I0_3, L0_3⟩ => (if x0_3 = 0 then (if 1 ≤ dp then ((kf_15 n (dp - 1) e 0 I0_3 L0_3 (-1)).bind (fun ⟨x1_21, I1_21, L1_21⟩ => (some ((x1_21 : Int), I1_21, L1_21)))) else none) else (if 1 ≤ dp then ((kf_14 n (dp - 1) e 0 I0_3 L0_3 i2 0 8).bind (fun ⟨x1_13, I1_13, L1_13⟩ => (if x1_13 = 0 then (if 1 ≤ dp then ((kf_15 n (dp - 1) e 0 I1_13 L1_13 (-1)).bind (fun ⟨x2_21, I2_21, L2_21⟩ => (some ((x2_21 : Int), I2_21, L2_21)))) else none) else (if 0 ≤ i1 ∧ i1 < 3 then (stI (I1_13 2 i1) (fun v_34 => (if 1 ≤ dp then ((kf_16 n (dp - 1) e 0 I1_13 L1_13).bind (fun ⟨x2_39, I2_39, L2_39⟩ => (if (-2147483648 ≤ x2_39 - v_34 ∧ x2_39 - v_34 ≤ 2147483647) ∧ (-2147483648 ≤ (x2_39 - v_34) + i2 ∧ (x2_39 - v_34) + i2 ≤ 2147483647) then (if ((x2_39 - v_34) + i2) ≤ 8 then (if 0 ≤ i1 ∧ i1 < 3 then (stI (w2 I2_39 2 i1 i2) (fun I_67 => (if 1 ≤ dp then ((kf_17 n (dp - 1) e 0 I_67 L2_39).bind (fun ⟨I3_72, L3_72⟩ => (if 1 ≤ dp then ((kf_18 n (dp - 1) e 0 I3_72 L3_72).bind (fun ⟨I4_79, L4_79⟩ => (if 1 ≤ dp then ((kf_19 n (dp - 1) e 0 I4_79 L4_79 v_34).bind (fun ⟨x5_84, I5_84, L5_84⟩ => (some ((x5_84 : Int), I5_84, L5_84)))) else none))) else none))) else none))) else none) else (if 1 ≤ dp then ((kf_15 n (dp - 1) e 0 I2_39 L2_39 (-3)).bind (fun ⟨x3_54, I3_54, L3_54⟩ => (some ((x3_54 : Int), I3_54, L3_54)))) else none)) else none))) else none))) else none)))) else none)))) else none) := by rw [kf_13.eq_2, if_pos (show (0 : Nat) = 0 from rfl)]
set_option maxHeartbeats 8000000 in
set_option maxRecDepth 100000 in
theorem ks_13 : ∀ (n : Nat) (dp : Nat) (e : EN) (lab : Nat) (I : Nat → Nat → Int32) (I' : JI) (L : Nat → Nat → Int64) (L' : JI) (i1 : Int32) (i1' : Int) (i2 : Int32) (i2' : Int), Rli I I' → Rll L L' → Ui i1 i1' → Ui i2 i2' → Sim R3 (g_13 n dp e lab I L i1 i2) (kf_13 n dp e lab I' L' i1' i2') := by
  intro n
  induction n with
  | zero => intros; rw [kf_13.eq_1]; exact Sn
  | succ n ih =>
    intro dp e lab I I' L L' i1 i1' i2 i2' u_I u_L u_i1 u_i2
    rw [g_13.eq_2, kf_13.eq_2]
    refine Sc Iff.rfl (fun _ => ?_) (fun _ => ?_)
    · refine Sc Iff.rfl (fun c1 => ?_) (fun _ => Sn)
      refine Sb3 (ks_14 n (dp - 1) e 0 _ _ _ _ _ _ _ _ _ _ u_I u_L u_i1 (rfl : Ui (0) (0)) (rfl : Ui (2) (2))) (fun x0_3 x0_3' I0_3 I0_3' L0_3 L0_3' u_x0_3 u_I0_3 u_L0_3 => ?_)
      refine Sc (eq_up u_x0_3 (rfl : Ui 0 0)) (fun c2 => ?_) (fun c2 => ?_)
      · refine Sc Iff.rfl (fun c3 => ?_) (fun _ => Sn)
        refine Sb3 (ks_15 n (dp - 1) e 0 _ _ _ _ _ _ u_I0_3 u_L0_3 (rfl : Ui (-1) (-1))) (fun x1_21 x1_21' I1_21 I1_21' L1_21 L1_21' u_x1_21 u_I1_21 u_L1_21 => ?_)
        exact Sr ⟨u_x1_21, u_I1_21, u_L1_21⟩
      · refine Sc Iff.rfl (fun c4 => ?_) (fun _ => Sn)
        refine Sb3 (ks_14 n (dp - 1) e 0 _ _ _ _ _ _ _ _ _ _ u_I0_3 u_L0_3 u_i2 (rfl : Ui (0) (0)) (rfl : Ui (8) (8))) (fun x1_13 x1_13' I1_13 I1_13' L1_13 L1_13' u_x1_13 u_I1_13 u_L1_13 => ?_)
        refine Sc (eq_up u_x1_13 (rfl : Ui 0 0)) (fun c5 => ?_) (fun c5 => ?_)
        · refine Sc Iff.rfl (fun c6 => ?_) (fun _ => Sn)
          refine Sb3 (ks_15 n (dp - 1) e 0 _ _ _ _ _ _ u_I1_13 u_L1_13 (rfl : Ui (-1) (-1))) (fun x2_21 x2_21' I2_21 I2_21' L2_21 L2_21' u_x2_21 u_I2_21 u_L2_21 => ?_)
          exact Sr ⟨u_x2_21, u_I2_21, u_L2_21⟩
        · refine Sc (ix_up u_i1) (fun c7 => ?_) (fun _ => Sn)
          refine SsI (ui_rd (a := 2) u_I1_13 u_i1 c7.1) (fun v_34 v_34' u_v_34 => ?_)
          refine Sc Iff.rfl (fun c8 => ?_) (fun _ => Sn)
          refine Sb3 (ks_16 n (dp - 1) e 0 _ _ _ _ u_I1_13 u_L1_13) (fun x2_39 x2_39' I2_39 I2_39' L2_39 L2_39' u_x2_39 u_I2_39 u_L2_39 => ?_)
          refine Sg (fun g9 => ?_)
          refine Sc (le_up (ui_add (ui_sub u_x2_39 u_v_34 g9.1) u_i2 g9.2) (rfl : Ui (8) (8))) (fun c10 => ?_) (fun c10 => ?_)
          · refine Sc (ix_up u_i1) (fun c11 => ?_) (fun _ => Sn)
            refine SsJ (ri_up u_I2_39 (kc_up u_i1 c11.1) u_i2) (fun I_67 I_67' u_I_67 => ?_)
            refine Sc Iff.rfl (fun c12 => ?_) (fun _ => Sn)
            refine Sb2 (ks_17 n (dp - 1) e 0 _ _ _ _ u_I_67 u_L2_39) (fun I3_72 I3_72' L3_72 L3_72' u_I3_72 u_L3_72 => ?_)
            refine Sc Iff.rfl (fun c13 => ?_) (fun _ => Sn)
            refine Sb2 (ks_18 n (dp - 1) e 0 _ _ _ _ u_I3_72 u_L3_72) (fun I4_79 I4_79' L4_79 L4_79' u_I4_79 u_L4_79 => ?_)
            refine Sc Iff.rfl (fun c14 => ?_) (fun _ => Sn)
            refine Sb3 (ks_19 n (dp - 1) e 0 _ _ _ _ _ _ u_I4_79 u_L4_79 u_v_34) (fun x5_84 x5_84' I5_84 I5_84' L5_84 L5_84' u_x5_84 u_I5_84 u_L5_84 => ?_)
            exact Sr ⟨u_x5_84, u_I5_84, u_L5_84⟩
          · refine Sc Iff.rfl (fun c15 => ?_) (fun _ => Sn)
            refine Sb3 (ks_15 n (dp - 1) e 0 _ _ _ _ _ _ u_I2_39 u_L2_39 (rfl : Ui (-3) (-3))) (fun x3_54 x3_54' I3_54 I3_54' L3_54 L3_54' u_x3_54 u_I3_54 u_L3_54 => ?_)
            exact Sr ⟨u_x3_54, u_I3_54, u_L3_54⟩
    exact Sn
set_option maxHeartbeats 4000000 in
set_option maxRecDepth 100000 in
def kf_22 : Nat → Nat → EN → Nat → JI → JI → Option (JI × JI)
  | 0, _, _, _, _, _ => none
  | n + 1, dp, e, lab, I, L =>
    if lab = 0 then (stI (w2 I 24 13 1) (fun I_2 => (some (I_2, L))))
    else none
set_option maxRecDepth 100000 in
theorem ke_22_0 (n : Nat) (dp : Nat) (e : EN) (I : JI) (L : JI) : kf_22 (n + 1) dp e 0 I L = (stI (w2 I 24 13 1) (fun I_2 => (some (I_2, L)))) := by rw [kf_22.eq_2, if_pos (show (0 : Nat) = 0 from rfl)]
set_option maxHeartbeats 8000000 in
set_option maxRecDepth 100000 in
theorem ks_22 : ∀ (n : Nat) (dp : Nat) (e : EN) (lab : Nat) (I : Nat → Nat → Int32) (I' : JI) (L : Nat → Nat → Int64) (L' : JI), Rli I I' → Rll L L' → Sim R2 (g_22 n dp e lab I L) (kf_22 n dp e lab I' L') := by
  intro n
  induction n with
  | zero => intros; rw [kf_22.eq_1]; exact Sn
  | succ n ih =>
    intro dp e lab I I' L L' u_I u_L
    rw [g_22.eq_2, kf_22.eq_2]
    refine Sc Iff.rfl (fun _ => ?_) (fun _ => ?_)
    · refine SsJ (ri_up u_I (rfl : ((13 : Nat) : Int) = 13) (rfl : Ui (1) (1))) (fun I_2 I_2' u_I_2 => ?_)
      exact Sr ⟨u_I_2, u_L⟩
    exact Sn
set_option maxHeartbeats 4000000 in
set_option maxRecDepth 100000 in
def kf_21 : Nat → Nat → EN → Nat → JI → JI → Option (JI × JI)
  | 0, _, _, _, _, _ => none
  | n + 1, dp, e, lab, I, L =>
    if lab = 0 then (if 1 ≤ dp then ((kf_22 n (dp - 1) e 0 I L).bind (fun ⟨I0_4, L0_4⟩ => (if 1 ≤ dp then ((kf_18 n (dp - 1) e 0 I0_4 L0_4).bind (fun ⟨I1_11, L1_11⟩ => (some (I1_11, L1_11)))) else none))) else none)
    else none
set_option maxRecDepth 100000 in
theorem ke_21_0 (n : Nat) (dp : Nat) (e : EN) (I : JI) (L : JI) : kf_21 (n + 1) dp e 0 I L = (if 1 ≤ dp then ((kf_22 n (dp - 1) e 0 I L).bind (fun ⟨I0_4, L0_4⟩ => (if 1 ≤ dp then ((kf_18 n (dp - 1) e 0 I0_4 L0_4).bind (fun ⟨I1_11, L1_11⟩ => (some (I1_11, L1_11)))) else none))) else none) := by rw [kf_21.eq_2, if_pos (show (0 : Nat) = 0 from rfl)]
set_option maxHeartbeats 8000000 in
set_option maxRecDepth 100000 in
theorem ks_21 : ∀ (n : Nat) (dp : Nat) (e : EN) (lab : Nat) (I : Nat → Nat → Int32) (I' : JI) (L : Nat → Nat → Int64) (L' : JI), Rli I I' → Rll L L' → Sim R2 (g_21 n dp e lab I L) (kf_21 n dp e lab I' L') := by
  intro n
  induction n with
  | zero => intros; rw [kf_21.eq_1]; exact Sn
  | succ n ih =>
    intro dp e lab I I' L L' u_I u_L
    rw [g_21.eq_2, kf_21.eq_2]
    refine Sc Iff.rfl (fun _ => ?_) (fun _ => ?_)
    · refine Sc Iff.rfl (fun c1 => ?_) (fun _ => Sn)
      refine Sb2 (ks_22 n (dp - 1) e 0 _ _ _ _ u_I u_L) (fun I0_4 I0_4' L0_4 L0_4' u_I0_4 u_L0_4 => ?_)
      refine Sc Iff.rfl (fun c2 => ?_) (fun _ => Sn)
      refine Sb2 (ks_18 n (dp - 1) e 0 _ _ _ _ u_I0_4 u_L0_4) (fun I1_11 I1_11' L1_11 L1_11' u_I1_11 u_L1_11 => ?_)
      exact Sr ⟨u_I1_11, u_L1_11⟩
    exact Sn
set_option maxHeartbeats 4000000 in
set_option maxRecDepth 100000 in
def kf_20 : Nat → Nat → EN → Nat → JI → JI → Int → Int → Int → Option (Int × JI × JI)
  | 0, _, _, _, _, _, _, _, _ => none
  | n + 1, dp, e, lab, I, L, i1, i2, i3 =>
    if lab = 0 then (if 1 ≤ dp then ((kf_14 n (dp - 1) e 0 I L i1 0 9).bind (fun ⟨x0_4, I0_4, L0_4⟩ => (if x0_4 = 0 then (if 1 ≤ dp then ((kf_15 n (dp - 1) e 0 I0_4 L0_4 (-1)).bind (fun ⟨x1_32, I1_32, L1_32⟩ => (some ((x1_32 : Int), I1_32, L1_32)))) else none) else (if 1 ≤ dp then ((kf_14 n (dp - 1) e 0 I0_4 L0_4 i2 0 2).bind (fun ⟨x1_13, I1_13, L1_13⟩ => (if x1_13 = 0 then (if 1 ≤ dp then ((kf_15 n (dp - 1) e 0 I1_13 L1_13 (-1)).bind (fun ⟨x2_32, I2_32, L2_32⟩ => (some ((x2_32 : Int), I2_32, L2_32)))) else none) else (if 1 ≤ dp then ((kf_14 n (dp - 1) e 0 I1_13 L1_13 i3 0 9999).bind (fun ⟨x2_24, I2_24, L2_24⟩ => (if x2_24 = 0 then (if 1 ≤ dp then ((kf_15 n (dp - 1) e 0 I2_24 L2_24 (-1)).bind (fun ⟨x3_32, I3_32, L3_32⟩ => (some ((x3_32 : Int), I3_32, L3_32)))) else none) else (if (-2147483648 ≤ i1 * 3 ∧ i1 * 3 ≤ 2147483647) ∧ (-2147483648 ≤ (i1 * 3) + i2 ∧ (i1 * 3) + i2 ≤ 2147483647) then (stI ((i1 * 3) + i2) (fun v_41 => (if 0 ≤ v_41 ∧ v_41 < 30 then (stI (I2_24 3 v_41) (fun v_53 => (if 0 ≤ v_41 ∧ v_41 < 30 then (stI (w2 I2_24 3 v_41 i3) (fun I_65 => (if 1 ≤ dp then ((kf_21 n (dp - 1) e 0 I_65 L2_24).bind (fun ⟨I3_67, L3_67⟩ => (if 1 ≤ dp then ((kf_19 n (dp - 1) e 0 I3_67 L3_67 v_53).bind (fun ⟨x4_73, I4_73, L4_73⟩ => (some ((x4_73 : Int), I4_73, L4_73)))) else none))) else none))) else none))) else none))) else none)))) else none)))) else none)))) else none)
    else none
set_option maxRecDepth 100000 in
theorem ke_20_0 (n : Nat) (dp : Nat) (e : EN) (I : JI) (L : JI) (i1 : Int) (i2 : Int) (i3 : Int) : kf_20 (n + 1) dp e 0 I L i1 i2 i3 = (if 1 ≤ dp then ((kf_14 n (dp - 1) e 0 I L i1 0 9).bind (fun ⟨x0_4, I0_4, L0_4⟩ => (if x0_4 = 0 then (if 1 ≤ dp then ((kf_15 n (dp - 1) e 0 I0_4 L0_4 (-1)).bind (fun ⟨x1_32, I1_32, L1_32⟩ => (some ((x1_32 : Int), I1_32, L1_32)))) else none) else (if 1 ≤ dp then ((kf_14 n (dp - 1) e 0 I0_4 L0_4 i2 0 2).bind (fun ⟨x1_13, I1_13, L1_13⟩ => (if x1_13 = 0 then (if 1 ≤ dp then ((kf_15 n (dp - 1) e 0 I1_13 L1_13 (-1)).bind (fun ⟨x2_32, I2_32, L2_32⟩ => (some ((x2_32 : Int), I2_32, L2_32)))) else none) else (if 1 ≤ dp then ((kf_14 n (dp - 1) e 0 I1_13 L1_13 i3 0 9999).bind (fun ⟨x2_24, I2_24, L2_24⟩ => (if x2_24 = 0 then (if 1 ≤ dp then ((kf_15 n (dp - 1) e 0 I2_24 L2_24 (-1)).bind (fun ⟨x3_32, I3_32, L3_32⟩ => (some ((x3_32 : Int), I3_32, L3_32)))) else none) else (if (-2147483648 ≤ i1 * 3 ∧ i1 * 3 ≤ 2147483647) ∧ (-2147483648 ≤ (i1 * 3) + i2 ∧ (i1 * 3) + i2 ≤ 2147483647) then (stI ((i1 * 3) + i2) (fun v_41 => (if 0 ≤ v_41 ∧ v_41 < 30 then (stI (I2_24 3 v_41) (fun v_53 => (if 0 ≤ v_41 ∧ v_41 < 30 then (stI (w2 I2_24 3 v_41 i3) (fun I_65 => (if 1 ≤ dp then ((kf_21 n (dp - 1) e 0 I_65 L2_24).bind (fun ⟨I3_67, L3_67⟩ => (if 1 ≤ dp then ((kf_19 n (dp - 1) e 0 I3_67 L3_67 v_53).bind (fun ⟨x4_73, I4_73, L4_73⟩ => (some ((x4_73 : Int), I4_73, L4_73)))) else none))) else none))) else none))) else none))) else none)))) else none)))) else none)))) else none) := by rw [kf_20.eq_2, if_pos (show (0 : Nat) = 0 from rfl)]
set_option maxHeartbeats 8000000 in
set_option maxRecDepth 100000 in
theorem ks_20 : ∀ (n : Nat) (dp : Nat) (e : EN) (lab : Nat) (I : Nat → Nat → Int32) (I' : JI) (L : Nat → Nat → Int64) (L' : JI) (i1 : Int32) (i1' : Int) (i2 : Int32) (i2' : Int) (i3 : Int32) (i3' : Int), Rli I I' → Rll L L' → Ui i1 i1' → Ui i2 i2' → Ui i3 i3' → Sim R3 (g_20 n dp e lab I L i1 i2 i3) (kf_20 n dp e lab I' L' i1' i2' i3') := by
  intro n
  induction n with
  | zero => intros; rw [kf_20.eq_1]; exact Sn
  | succ n ih =>
    intro dp e lab I I' L L' i1 i1' i2 i2' i3 i3' u_I u_L u_i1 u_i2 u_i3
    rw [g_20.eq_2, kf_20.eq_2]
    refine Sc Iff.rfl (fun _ => ?_) (fun _ => ?_)
    · refine Sc Iff.rfl (fun c1 => ?_) (fun _ => Sn)
      refine Sb3 (ks_14 n (dp - 1) e 0 _ _ _ _ _ _ _ _ _ _ u_I u_L u_i1 (rfl : Ui (0) (0)) (rfl : Ui (9) (9))) (fun x0_4 x0_4' I0_4 I0_4' L0_4 L0_4' u_x0_4 u_I0_4 u_L0_4 => ?_)
      refine Sc (eq_up u_x0_4 (rfl : Ui 0 0)) (fun c2 => ?_) (fun c2 => ?_)
      · refine Sc Iff.rfl (fun c3 => ?_) (fun _ => Sn)
        refine Sb3 (ks_15 n (dp - 1) e 0 _ _ _ _ _ _ u_I0_4 u_L0_4 (rfl : Ui (-1) (-1))) (fun x1_32 x1_32' I1_32 I1_32' L1_32 L1_32' u_x1_32 u_I1_32 u_L1_32 => ?_)
        exact Sr ⟨u_x1_32, u_I1_32, u_L1_32⟩
      · refine Sc Iff.rfl (fun c4 => ?_) (fun _ => Sn)
        refine Sb3 (ks_14 n (dp - 1) e 0 _ _ _ _ _ _ _ _ _ _ u_I0_4 u_L0_4 u_i2 (rfl : Ui (0) (0)) (rfl : Ui (2) (2))) (fun x1_13 x1_13' I1_13 I1_13' L1_13 L1_13' u_x1_13 u_I1_13 u_L1_13 => ?_)
        refine Sc (eq_up u_x1_13 (rfl : Ui 0 0)) (fun c5 => ?_) (fun c5 => ?_)
        · refine Sc Iff.rfl (fun c6 => ?_) (fun _ => Sn)
          refine Sb3 (ks_15 n (dp - 1) e 0 _ _ _ _ _ _ u_I1_13 u_L1_13 (rfl : Ui (-1) (-1))) (fun x2_32 x2_32' I2_32 I2_32' L2_32 L2_32' u_x2_32 u_I2_32 u_L2_32 => ?_)
          exact Sr ⟨u_x2_32, u_I2_32, u_L2_32⟩
        · refine Sc Iff.rfl (fun c7 => ?_) (fun _ => Sn)
          refine Sb3 (ks_14 n (dp - 1) e 0 _ _ _ _ _ _ _ _ _ _ u_I1_13 u_L1_13 u_i3 (rfl : Ui (0) (0)) (rfl : Ui (9999) (9999))) (fun x2_24 x2_24' I2_24 I2_24' L2_24 L2_24' u_x2_24 u_I2_24 u_L2_24 => ?_)
          refine Sc (eq_up u_x2_24 (rfl : Ui 0 0)) (fun c8 => ?_) (fun c8 => ?_)
          · refine Sc Iff.rfl (fun c9 => ?_) (fun _ => Sn)
            refine Sb3 (ks_15 n (dp - 1) e 0 _ _ _ _ _ _ u_I2_24 u_L2_24 (rfl : Ui (-1) (-1))) (fun x3_32 x3_32' I3_32 I3_32' L3_32 L3_32' u_x3_32 u_I3_32 u_L3_32 => ?_)
            exact Sr ⟨u_x3_32, u_I3_32, u_L3_32⟩
          · refine Sg (fun g10 => ?_)
            refine SsI (ui_add (ui_mul u_i1 (rfl : Ui (3) (3)) g10.1) u_i2 g10.2) (fun v_41 v_41' u_v_41 => ?_)
            refine Sc (ix_up u_v_41) (fun c11 => ?_) (fun _ => Sn)
            refine SsI (ui_rd (a := 3) u_I2_24 u_v_41 c11.1) (fun v_53 v_53' u_v_53 => ?_)
            refine Sc (ix_up u_v_41) (fun c12 => ?_) (fun _ => Sn)
            refine SsJ (ri_up u_I2_24 (kc_up u_v_41 c12.1) u_i3) (fun I_65 I_65' u_I_65 => ?_)
            refine Sc Iff.rfl (fun c13 => ?_) (fun _ => Sn)
            refine Sb2 (ks_21 n (dp - 1) e 0 _ _ _ _ u_I_65 u_L2_24) (fun I3_67 I3_67' L3_67 L3_67' u_I3_67 u_L3_67 => ?_)
            refine Sc Iff.rfl (fun c14 => ?_) (fun _ => Sn)
            refine Sb3 (ks_19 n (dp - 1) e 0 _ _ _ _ _ _ u_I3_67 u_L3_67 u_v_53) (fun x4_73 x4_73' I4_73 I4_73' L4_73 L4_73' u_x4_73 u_I4_73 u_L4_73 => ?_)
            exact Sr ⟨u_x4_73, u_I4_73, u_L4_73⟩
    exact Sn
set_option maxHeartbeats 4000000 in
set_option maxRecDepth 100000 in
def kf_24 : Nat → Nat → EN → Nat → JI → JI → Int → Int → Option (Int × JI × JI)
  | 0, _, _, _, _, _, _, _ => none
  | n + 1, dp, e, lab, I, L, i1, i2 =>
    if lab = 0 then (kf_24 n dp e 1 I L 0 0)
    else if lab = 1 then (if 10 ≤ i2 then (some ((i1 : Int), I, L)) else (if -2147483648 ≤ 20 + i2 ∧ 20 + i2 ≤ 2147483647 then (if 0 ≤ (20 + i2) ∧ (20 + i2) < 30 then (if (I 4 (20 + i2)) ≤ 0 then (kf_24 n dp e 2 I L i1 i2) else (if -2147483648 ≤ i1 + 1 ∧ i1 + 1 ≤ 2147483647 then (kf_24 n dp e 2 I L (i1 + 1) i2) else none)) else none) else none))
    else if lab = 2 then (if -2147483648 ≤ i2 + 1 ∧ i2 + 1 ≤ 2147483647 then (kf_24 n dp e 1 I L i1 (i2 + 1)) else none)
    else none
set_option maxRecDepth 100000 in
theorem ke_24_0 (n : Nat) (dp : Nat) (e : EN) (I : JI) (L : JI) (i1 : Int) (i2 : Int) : kf_24 (n + 1) dp e 0 I L i1 i2 = (kf_24 n dp e 1 I L 0 0) := by rw [kf_24.eq_2, if_pos (show (0 : Nat) = 0 from rfl)]
set_option maxRecDepth 100000 in
theorem ke_24_1 (n : Nat) (dp : Nat) (e : EN) (I : JI) (L : JI) (i1 : Int) (i2 : Int) : kf_24 (n + 1) dp e 1 I L i1 i2 = (if 10 ≤ i2 then (some ((i1 : Int), I, L)) else (if -2147483648 ≤ 20 + i2 ∧ 20 + i2 ≤ 2147483647 then (if 0 ≤ (20 + i2) ∧ (20 + i2) < 30 then (if (I 4 (20 + i2)) ≤ 0 then (kf_24 n dp e 2 I L i1 i2) else (if -2147483648 ≤ i1 + 1 ∧ i1 + 1 ≤ 2147483647 then (kf_24 n dp e 2 I L (i1 + 1) i2) else none)) else none) else none)) := by rw [kf_24.eq_2, if_neg (show ¬ ((1 : Nat) = 0) by decide), if_pos (show (1 : Nat) = 1 from rfl)]
set_option maxRecDepth 100000 in
theorem ke_24_2 (n : Nat) (dp : Nat) (e : EN) (I : JI) (L : JI) (i1 : Int) (i2 : Int) : kf_24 (n + 1) dp e 2 I L i1 i2 = (if -2147483648 ≤ i2 + 1 ∧ i2 + 1 ≤ 2147483647 then (kf_24 n dp e 1 I L i1 (i2 + 1)) else none) := by rw [kf_24.eq_2, if_neg (show ¬ ((2 : Nat) = 0) by decide), if_neg (show ¬ ((2 : Nat) = 1) by decide), if_pos (show (2 : Nat) = 2 from rfl)]
set_option maxHeartbeats 8000000 in
set_option maxRecDepth 100000 in
theorem ks_24 : ∀ (n : Nat) (dp : Nat) (e : EN) (lab : Nat) (I : Nat → Nat → Int32) (I' : JI) (L : Nat → Nat → Int64) (L' : JI) (i1 : Int32) (i1' : Int) (i2 : Int32) (i2' : Int), Rli I I' → Rll L L' → Ui i1 i1' → Ui i2 i2' → Sim R3 (g_24 n dp e lab I L i1 i2) (kf_24 n dp e lab I' L' i1' i2') := by
  intro n
  induction n with
  | zero => intros; rw [kf_24.eq_1]; exact Sn
  | succ n ih =>
    intro dp e lab I I' L L' i1 i1' i2 i2' u_I u_L u_i1 u_i2
    rw [g_24.eq_2, kf_24.eq_2]
    refine Sc Iff.rfl (fun _ => ?_) (fun _ => ?_)
    · exact (ih dp e 1 _ _ _ _ _ _ _ _ u_I u_L (rfl : Ui (0) (0)) (rfl : Ui (0) (0)))
    refine Sc Iff.rfl (fun _ => ?_) (fun _ => ?_)
    · refine Sc (le_up (rfl : Ui (10) (10)) u_i2) (fun c1 => ?_) (fun c1 => ?_)
      · exact Sr ⟨u_i1, u_I, u_L⟩
      · refine Sg (fun g2 => ?_)
        refine Sc (ix_up (ui_add (rfl : Ui (20) (20)) u_i2 g2)) (fun c3 => ?_) (fun _ => Sn)
        refine Sc (le_up (ui_rd (a := 4) u_I (ui_add (rfl : Ui (20) (20)) u_i2 g2) c3.1) (rfl : Ui 0 0)) (fun c4 => ?_) (fun c4 => ?_)
        · exact (ih dp e 2 _ _ _ _ _ _ _ _ u_I u_L u_i1 u_i2)
        · refine Sg (fun g5 => ?_)
          exact (ih dp e 2 _ _ _ _ _ _ _ _ u_I u_L (ui_add u_i1 (rfl : Ui (Int32.ofInt (1)) (1)) g5) u_i2)
    refine Sc Iff.rfl (fun _ => ?_) (fun _ => ?_)
    · refine Sg (fun g1 => ?_)
      exact (ih dp e 1 _ _ _ _ _ _ _ _ u_I u_L u_i1 (ui_add u_i2 (rfl : Ui (Int32.ofInt (1)) (1)) g1))
    exact Sn
set_option maxHeartbeats 4000000 in
set_option maxRecDepth 100000 in
def kf_25 : Nat → Nat → EN → Nat → JI → JI → Option (JI × JI)
  | 0, _, _, _, _, _ => none
  | n + 1, dp, e, lab, I, L =>
    if lab = 0 then (stI (w2 I 24 14 1) (fun I_2 => (stI (w2 I_2 24 15 1) (fun I_7 => (if -2147483648 ≤ (I_7 24 12) + 1 ∧ (I_7 24 12) + 1 ≤ 2147483647 then (stI (w2 I_7 24 12 ((I_7 24 12) + 1)) (fun I_17 => (some (I_17, L)))) else none)))))
    else none
set_option maxRecDepth 100000 in
theorem ke_25_0 (n : Nat) (dp : Nat) (e : EN) (I : JI) (L : JI) : kf_25 (n + 1) dp e 0 I L = (stI (w2 I 24 14 1) (fun I_2 => (stI (w2 I_2 24 15 1) (fun I_7 => (if -2147483648 ≤ (I_7 24 12) + 1 ∧ (I_7 24 12) + 1 ≤ 2147483647 then (stI (w2 I_7 24 12 ((I_7 24 12) + 1)) (fun I_17 => (some (I_17, L)))) else none))))) := by rw [kf_25.eq_2, if_pos (show (0 : Nat) = 0 from rfl)]
set_option maxHeartbeats 8000000 in
set_option maxRecDepth 100000 in
theorem ks_25 : ∀ (n : Nat) (dp : Nat) (e : EN) (lab : Nat) (I : Nat → Nat → Int32) (I' : JI) (L : Nat → Nat → Int64) (L' : JI), Rli I I' → Rll L L' → Sim R2 (g_25 n dp e lab I L) (kf_25 n dp e lab I' L') := by
  intro n
  induction n with
  | zero => intros; rw [kf_25.eq_1]; exact Sn
  | succ n ih =>
    intro dp e lab I I' L L' u_I u_L
    rw [g_25.eq_2, kf_25.eq_2]
    refine Sc Iff.rfl (fun _ => ?_) (fun _ => ?_)
    · refine SsJ (ri_up u_I (rfl : ((14 : Nat) : Int) = 14) (rfl : Ui (1) (1))) (fun I_2 I_2' u_I_2 => ?_)
      refine SsJ (ri_up u_I_2 (rfl : ((15 : Nat) : Int) = 15) (rfl : Ui (1) (1))) (fun I_7 I_7' u_I_7 => ?_)
      refine Sg (fun g1 => ?_)
      refine SsJ (ri_up u_I_7 (rfl : ((12 : Nat) : Int) = 12) (ui_add (u_I_7 24 12) (rfl : Ui (1) (1)) g1)) (fun I_17 I_17' u_I_17 => ?_)
      exact Sr ⟨u_I_17, u_L⟩
    exact Sn
set_option maxHeartbeats 4000000 in
set_option maxRecDepth 100000 in
def kf_23 : Nat → Nat → EN → Nat → JI → JI → Int → Int → Int → Int → Int → Option (Int × JI × JI)
  | 0, _, _, _, _, _, _, _, _, _, _ => none
  | n + 1, dp, e, lab, I, L, i1, i2, i3, i4, i5 =>
    if lab = 0 then (if 1 ≤ dp then ((kf_14 n (dp - 1) e 0 I L i1 0 9).bind (fun ⟨x0_4, I0_4, L0_4⟩ => (if x0_4 = 0 then (if 1 ≤ dp then ((kf_15 n (dp - 1) e 0 I0_4 L0_4 (-1)).bind (fun ⟨x1_42, I1_42, L1_42⟩ => (some ((x1_42 : Int), I1_42, L1_42)))) else none) else (if 1 ≤ dp then ((kf_14 n (dp - 1) e 0 I0_4 L0_4 i2 0 2).bind (fun ⟨x1_13, I1_13, L1_13⟩ => (if x1_13 = 0 then (if 1 ≤ dp then ((kf_15 n (dp - 1) e 0 I1_13 L1_13 (-1)).bind (fun ⟨x2_42, I2_42, L2_42⟩ => (some ((x2_42 : Int), I2_42, L2_42)))) else none) else (if i2 = 2 then (if 1 ≤ dp then ((kf_14 n (dp - 1) e 0 I1_13 L1_13 i3 0 8).bind (fun ⟨x2_34, I2_34, L2_34⟩ => (if x2_34 = 0 then (if 1 ≤ dp then ((kf_15 n (dp - 1) e 0 I2_34 L2_34 (-1)).bind (fun ⟨x3_42, I3_42, L3_42⟩ => (some ((x3_42 : Int), I3_42, L3_42)))) else none) else (if (-2147483648 ≤ i2 * 10 ∧ i2 * 10 ≤ 2147483647) ∧ (-2147483648 ≤ (i2 * 10) + i1 ∧ (i2 * 10) + i1 ≤ 2147483647) then (stI ((i2 * 10) + i1) (fun v_52 => (if 0 ≤ v_52 ∧ v_52 < 30 then (stI (I2_34 4 v_52) (fun v_64 => (if i2 = 2 then (if i3 ≤ 0 then (kf_23 n dp e 1 I2_34 L2_34 i1 i2 i3 v_52 v_64) else (if v_64 = 0 then (if 1 ≤ dp then ((kf_24 n (dp - 1) e 0 I2_34 L2_34 0 0).bind (fun ⟨x3_84, I3_84, L3_84⟩ => (if x3_84 < 5 then (kf_23 n dp e 1 I3_84 L3_84 i1 i2 i3 v_52 v_64) else (if 1 ≤ dp then ((kf_15 n (dp - 1) e 0 I3_84 L3_84 (-3)).bind (fun ⟨x4_94, I4_94, L4_94⟩ => (some ((x4_94 : Int), I4_94, L4_94)))) else none)))) else none) else (kf_23 n dp e 1 I2_34 L2_34 i1 i2 i3 v_52 v_64))) else (kf_23 n dp e 1 I2_34 L2_34 i1 i2 i3 v_52 v_64)))) else none))) else none)))) else none) else (if 1 ≤ dp then ((kf_14 n (dp - 1) e 0 I1_13 L1_13 i3 0 999).bind (fun ⟨x2_34, I2_34, L2_34⟩ => (if x2_34 = 0 then (if 1 ≤ dp then ((kf_15 n (dp - 1) e 0 I2_34 L2_34 (-1)).bind (fun ⟨x3_42, I3_42, L3_42⟩ => (some ((x3_42 : Int), I3_42, L3_42)))) else none) else (if (-2147483648 ≤ i2 * 10 ∧ i2 * 10 ≤ 2147483647) ∧ (-2147483648 ≤ (i2 * 10) + i1 ∧ (i2 * 10) + i1 ≤ 2147483647) then (stI ((i2 * 10) + i1) (fun v_52 => (if 0 ≤ v_52 ∧ v_52 < 30 then (stI (I2_34 4 v_52) (fun v_64 => (if i2 = 2 then (if i3 ≤ 0 then (kf_23 n dp e 1 I2_34 L2_34 i1 i2 i3 v_52 v_64) else (if v_64 = 0 then (if 1 ≤ dp then ((kf_24 n (dp - 1) e 0 I2_34 L2_34 0 0).bind (fun ⟨x3_84, I3_84, L3_84⟩ => (if x3_84 < 5 then (kf_23 n dp e 1 I3_84 L3_84 i1 i2 i3 v_52 v_64) else (if 1 ≤ dp then ((kf_15 n (dp - 1) e 0 I3_84 L3_84 (-3)).bind (fun ⟨x4_94, I4_94, L4_94⟩ => (some ((x4_94 : Int), I4_94, L4_94)))) else none)))) else none) else (kf_23 n dp e 1 I2_34 L2_34 i1 i2 i3 v_52 v_64))) else (kf_23 n dp e 1 I2_34 L2_34 i1 i2 i3 v_52 v_64)))) else none))) else none)))) else none))))) else none)))) else none)
    else if lab = 1 then (if 0 ≤ i4 ∧ i4 < 30 then (stI (w2 I 4 i4 i3) (fun I_108 => (if 1 ≤ dp then ((kf_25 n (dp - 1) e 0 I_108 L).bind (fun ⟨I0_113, L0_113⟩ => (if 1 ≤ dp then ((kf_18 n (dp - 1) e 0 I0_113 L0_113).bind (fun ⟨I1_120, L1_120⟩ => (if 1 ≤ dp then ((kf_19 n (dp - 1) e 0 I1_120 L1_120 i5).bind (fun ⟨x2_126, I2_126, L2_126⟩ => (some ((x2_126 : Int), I2_126, L2_126)))) else none))) else none))) else none))) else none)
    else none
set_option maxRecDepth 100000 in
theorem ke_23_0 (n : Nat) (dp : Nat) (e : EN) (I : JI) (L : JI) (i1 : Int) (i2 : Int) (i3 : Int) (i4 : Int) (i5 : Int) : kf_23 (n + 1) dp e 0 I L i1 i2 i3 i4 i5 = (if 1 ≤ dp then ((kf_14 n (dp - 1) e 0 I L i1 0 9).bind (fun ⟨x0_4, I0_4, L0_4⟩ => (if x0_4 = 0 then (if 1 ≤ dp then ((kf_15 n (dp - 1) e 0 I0_4 L0_4 (-1)).bind (fun ⟨x1_42, I1_42, L1_42⟩ => (some ((x1_42 : Int), I1_42, L1_42)))) else none) else (if 1 ≤ dp then ((kf_14 n (dp - 1) e 0 I0_4 L0_4 i2 0 2).bind (fun ⟨x1_13, I1_13, L1_13⟩ => (if x1_13 = 0 then (if 1 ≤ dp then ((kf_15 n (dp - 1) e 0 I1_13 L1_13 (-1)).bind (fun ⟨x2_42, I2_42, L2_42⟩ => (some ((x2_42 : Int), I2_42, L2_42)))) else none) else (if i2 = 2 then (if 1 ≤ dp then ((kf_14 n (dp - 1) e 0 I1_13 L1_13 i3 0 8).bind (fun ⟨x2_34, I2_34, L2_34⟩ => (if x2_34 = 0 then (if 1 ≤ dp then ((kf_15 n (dp - 1) e 0 I2_34 L2_34 (-1)).bind (fun ⟨x3_42, I3_42, L3_42⟩ => (some ((x3_42 : Int), I3_42, L3_42)))) else none) else (if (-2147483648 ≤ i2 * 10 ∧ i2 * 10 ≤ 2147483647) ∧ (-2147483648 ≤ (i2 * 10) + i1 ∧ (i2 * 10) + i1 ≤ 2147483647) then (stI ((i2 * 10) + i1) (fun v_52 => (if 0 ≤ v_52 ∧ v_52 < 30 then (stI (I2_34 4 v_52) (fun v_64 => (if i2 = 2 then (if i3 ≤ 0 then (kf_23 n dp e 1 I2_34 L2_34 i1 i2 i3 v_52 v_64) else (if v_64 = 0 then (if 1 ≤ dp then ((kf_24 n (dp - 1) e 0 I2_34 L2_34 0 0).bind (fun ⟨x3_84, I3_84, L3_84⟩ => (if x3_84 < 5 then (kf_23 n dp e 1 I3_84 L3_84 i1 i2 i3 v_52 v_64) else (if 1 ≤ dp then ((kf_15 n (dp - 1) e 0 I3_84 L3_84 (-3)).bind (fun ⟨x4_94, I4_94, L4_94⟩ => (some ((x4_94 : Int), I4_94, L4_94)))) else none)))) else none) else (kf_23 n dp e 1 I2_34 L2_34 i1 i2 i3 v_52 v_64))) else (kf_23 n dp e 1 I2_34 L2_34 i1 i2 i3 v_52 v_64)))) else none))) else none)))) else none) else (if 1 ≤ dp then ((kf_14 n (dp - 1) e 0 I1_13 L1_13 i3 0 999).bind (fun ⟨x2_34, I2_34, L2_34⟩ => (if x2_34 = 0 then (if 1 ≤ dp then ((kf_15 n (dp - 1) e 0 I2_34 L2_34 (-1)).bind (fun ⟨x3_42, I3_42, L3_42⟩ => (some ((x3_42 : Int), I3_42, L3_42)))) else none) else (if (-2147483648 ≤ i2 * 10 ∧ i2 * 10 ≤ 2147483647) ∧ (-2147483648 ≤ (i2 * 10) + i1 ∧ (i2 * 10) + i1 ≤ 2147483647) then (stI ((i2 * 10) + i1) (fun v_52 => (if 0 ≤ v_52 ∧ v_52 < 30 then (stI (I2_34 4 v_52) (fun v_64 => (if i2 = 2 then (if i3 ≤ 0 then (kf_23 n dp e 1 I2_34 L2_34 i1 i2 i3 v_52 v_64) else (if v_64 = 0 then (if 1 ≤ dp then ((kf_24 n (dp - 1) e 0 I2_34 L2_34 0 0).bind (fun ⟨x3_84, I3_84, L3_84⟩ => (if x3_84 < 5 then (kf_23 n dp e 1 I3_84 L3_84 i1 i2 i3 v_52 v_64) else (if 1 ≤ dp then ((kf_15 n (dp - 1) e 0 I3_84 L3_84 (-3)).bind (fun ⟨x4_94, I4_94, L4_94⟩ => (some ((x4_94 : Int), I4_94, L4_94)))) else none)))) else none) else (kf_23 n dp e 1 I2_34 L2_34 i1 i2 i3 v_52 v_64))) else (kf_23 n dp e 1 I2_34 L2_34 i1 i2 i3 v_52 v_64)))) else none))) else none)))) else none))))) else none)))) else none) := by rw [kf_23.eq_2, if_pos (show (0 : Nat) = 0 from rfl)]
set_option maxRecDepth 100000 in
theorem ke_23_1 (n : Nat) (dp : Nat) (e : EN) (I : JI) (L : JI) (i1 : Int) (i2 : Int) (i3 : Int) (i4 : Int) (i5 : Int) : kf_23 (n + 1) dp e 1 I L i1 i2 i3 i4 i5 = (if 0 ≤ i4 ∧ i4 < 30 then (stI (w2 I 4 i4 i3) (fun I_108 => (if 1 ≤ dp then ((kf_25 n (dp - 1) e 0 I_108 L).bind (fun ⟨I0_113, L0_113⟩ => (if 1 ≤ dp then ((kf_18 n (dp - 1) e 0 I0_113 L0_113).bind (fun ⟨I1_120, L1_120⟩ => (if 1 ≤ dp then ((kf_19 n (dp - 1) e 0 I1_120 L1_120 i5).bind (fun ⟨x2_126, I2_126, L2_126⟩ => (some ((x2_126 : Int), I2_126, L2_126)))) else none))) else none))) else none))) else none) := by rw [kf_23.eq_2, if_neg (show ¬ ((1 : Nat) = 0) by decide), if_pos (show (1 : Nat) = 1 from rfl)]
set_option maxHeartbeats 8000000 in
set_option maxRecDepth 100000 in
theorem ks_23 : ∀ (n : Nat) (dp : Nat) (e : EN) (lab : Nat) (I : Nat → Nat → Int32) (I' : JI) (L : Nat → Nat → Int64) (L' : JI) (i1 : Int32) (i1' : Int) (i2 : Int32) (i2' : Int) (i3 : Int32) (i3' : Int) (i4 : Int32) (i4' : Int) (i5 : Int32) (i5' : Int), Rli I I' → Rll L L' → Ui i1 i1' → Ui i2 i2' → Ui i3 i3' → Ui i4 i4' → Ui i5 i5' → Sim R3 (g_23 n dp e lab I L i1 i2 i3 i4 i5) (kf_23 n dp e lab I' L' i1' i2' i3' i4' i5') := by
  intro n
  induction n with
  | zero => intros; rw [kf_23.eq_1]; exact Sn
  | succ n ih =>
    intro dp e lab I I' L L' i1 i1' i2 i2' i3 i3' i4 i4' i5 i5' u_I u_L u_i1 u_i2 u_i3 u_i4 u_i5
    rw [g_23.eq_2, kf_23.eq_2]
    refine Sc Iff.rfl (fun _ => ?_) (fun _ => ?_)
    · refine Sc Iff.rfl (fun c1 => ?_) (fun _ => Sn)
      refine Sb3 (ks_14 n (dp - 1) e 0 _ _ _ _ _ _ _ _ _ _ u_I u_L u_i1 (rfl : Ui (0) (0)) (rfl : Ui (9) (9))) (fun x0_4 x0_4' I0_4 I0_4' L0_4 L0_4' u_x0_4 u_I0_4 u_L0_4 => ?_)
      refine Sc (eq_up u_x0_4 (rfl : Ui 0 0)) (fun c2 => ?_) (fun c2 => ?_)
      · refine Sc Iff.rfl (fun c3 => ?_) (fun _ => Sn)
        refine Sb3 (ks_15 n (dp - 1) e 0 _ _ _ _ _ _ u_I0_4 u_L0_4 (rfl : Ui (-1) (-1))) (fun x1_42 x1_42' I1_42 I1_42' L1_42 L1_42' u_x1_42 u_I1_42 u_L1_42 => ?_)
        exact Sr ⟨u_x1_42, u_I1_42, u_L1_42⟩
      · refine Sc Iff.rfl (fun c4 => ?_) (fun _ => Sn)
        refine Sb3 (ks_14 n (dp - 1) e 0 _ _ _ _ _ _ _ _ _ _ u_I0_4 u_L0_4 u_i2 (rfl : Ui (0) (0)) (rfl : Ui (2) (2))) (fun x1_13 x1_13' I1_13 I1_13' L1_13 L1_13' u_x1_13 u_I1_13 u_L1_13 => ?_)
        refine Sc (eq_up u_x1_13 (rfl : Ui 0 0)) (fun c5 => ?_) (fun c5 => ?_)
        · refine Sc Iff.rfl (fun c6 => ?_) (fun _ => Sn)
          refine Sb3 (ks_15 n (dp - 1) e 0 _ _ _ _ _ _ u_I1_13 u_L1_13 (rfl : Ui (-1) (-1))) (fun x2_42 x2_42' I2_42 I2_42' L2_42 L2_42' u_x2_42 u_I2_42 u_L2_42 => ?_)
          exact Sr ⟨u_x2_42, u_I2_42, u_L2_42⟩
        · refine Sc (eq_up u_i2 (rfl : Ui (2) (2))) (fun c7 => ?_) (fun c7 => ?_)
          · refine Sc Iff.rfl (fun c8 => ?_) (fun _ => Sn)
            refine Sb3 (ks_14 n (dp - 1) e 0 _ _ _ _ _ _ _ _ _ _ u_I1_13 u_L1_13 u_i3 (rfl : Ui (0) (0)) (rfl : Ui (8) (8))) (fun x2_34 x2_34' I2_34 I2_34' L2_34 L2_34' u_x2_34 u_I2_34 u_L2_34 => ?_)
            refine Sc (eq_up u_x2_34 (rfl : Ui 0 0)) (fun c9 => ?_) (fun c9 => ?_)
            · refine Sc Iff.rfl (fun c10 => ?_) (fun _ => Sn)
              refine Sb3 (ks_15 n (dp - 1) e 0 _ _ _ _ _ _ u_I2_34 u_L2_34 (rfl : Ui (-1) (-1))) (fun x3_42 x3_42' I3_42 I3_42' L3_42 L3_42' u_x3_42 u_I3_42 u_L3_42 => ?_)
              exact Sr ⟨u_x3_42, u_I3_42, u_L3_42⟩
            · refine Sg (fun g11 => ?_)
              refine SsI (ui_add (ui_mul u_i2 (rfl : Ui (10) (10)) g11.1) u_i1 g11.2) (fun v_52 v_52' u_v_52 => ?_)
              refine Sc (ix_up u_v_52) (fun c12 => ?_) (fun _ => Sn)
              refine SsI (ui_rd (a := 4) u_I2_34 u_v_52 c12.1) (fun v_64 v_64' u_v_64 => ?_)
              refine Sc (eq_up u_i2 (rfl : Ui (2) (2))) (fun c13 => ?_) (fun c13 => ?_)
              · refine Sc (le_up u_i3 (rfl : Ui 0 0)) (fun c14 => ?_) (fun c14 => ?_)
                · exact (ih dp e 1 _ _ _ _ _ _ _ _ _ _ _ _ _ _ u_I2_34 u_L2_34 u_i1 u_i2 u_i3 u_v_52 u_v_64)
                · refine Sc (eq_up u_v_64 (rfl : Ui 0 0)) (fun c15 => ?_) (fun c15 => ?_)
                  · refine Sc Iff.rfl (fun c16 => ?_) (fun _ => Sn)
                    refine Sb3 (ks_24 n (dp - 1) e 0 _ _ _ _ _ _ _ _ u_I2_34 u_L2_34 (rfl : Ui 0 0) (rfl : Ui 0 0)) (fun x3_84 x3_84' I3_84 I3_84' L3_84 L3_84' u_x3_84 u_I3_84 u_L3_84 => ?_)
                    refine Sc (lt_up u_x3_84 (rfl : Ui (5) (5))) (fun c17 => ?_) (fun c17 => ?_)
                    · exact (ih dp e 1 _ _ _ _ _ _ _ _ _ _ _ _ _ _ u_I3_84 u_L3_84 u_i1 u_i2 u_i3 u_v_52 u_v_64)
                    · refine Sc Iff.rfl (fun c18 => ?_) (fun _ => Sn)
                      refine Sb3 (ks_15 n (dp - 1) e 0 _ _ _ _ _ _ u_I3_84 u_L3_84 (rfl : Ui (-3) (-3))) (fun x4_94 x4_94' I4_94 I4_94' L4_94 L4_94' u_x4_94 u_I4_94 u_L4_94 => ?_)
                      exact Sr ⟨u_x4_94, u_I4_94, u_L4_94⟩
                  · exact (ih dp e 1 _ _ _ _ _ _ _ _ _ _ _ _ _ _ u_I2_34 u_L2_34 u_i1 u_i2 u_i3 u_v_52 u_v_64)
              · exact (ih dp e 1 _ _ _ _ _ _ _ _ _ _ _ _ _ _ u_I2_34 u_L2_34 u_i1 u_i2 u_i3 u_v_52 u_v_64)
          · refine Sc Iff.rfl (fun c19 => ?_) (fun _ => Sn)
            refine Sb3 (ks_14 n (dp - 1) e 0 _ _ _ _ _ _ _ _ _ _ u_I1_13 u_L1_13 u_i3 (rfl : Ui (0) (0)) (rfl : Ui (999) (999))) (fun x2_34 x2_34' I2_34 I2_34' L2_34 L2_34' u_x2_34 u_I2_34 u_L2_34 => ?_)
            refine Sc (eq_up u_x2_34 (rfl : Ui 0 0)) (fun c20 => ?_) (fun c20 => ?_)
            · refine Sc Iff.rfl (fun c21 => ?_) (fun _ => Sn)
              refine Sb3 (ks_15 n (dp - 1) e 0 _ _ _ _ _ _ u_I2_34 u_L2_34 (rfl : Ui (-1) (-1))) (fun x3_42 x3_42' I3_42 I3_42' L3_42 L3_42' u_x3_42 u_I3_42 u_L3_42 => ?_)
              exact Sr ⟨u_x3_42, u_I3_42, u_L3_42⟩
            · refine Sg (fun g22 => ?_)
              refine SsI (ui_add (ui_mul u_i2 (rfl : Ui (10) (10)) g22.1) u_i1 g22.2) (fun v_52 v_52' u_v_52 => ?_)
              refine Sc (ix_up u_v_52) (fun c23 => ?_) (fun _ => Sn)
              refine SsI (ui_rd (a := 4) u_I2_34 u_v_52 c23.1) (fun v_64 v_64' u_v_64 => ?_)
              refine Sc (eq_up u_i2 (rfl : Ui (2) (2))) (fun c24 => ?_) (fun c24 => ?_)
              · refine Sc (le_up u_i3 (rfl : Ui 0 0)) (fun c25 => ?_) (fun c25 => ?_)
                · exact (ih dp e 1 _ _ _ _ _ _ _ _ _ _ _ _ _ _ u_I2_34 u_L2_34 u_i1 u_i2 u_i3 u_v_52 u_v_64)
                · refine Sc (eq_up u_v_64 (rfl : Ui 0 0)) (fun c26 => ?_) (fun c26 => ?_)
                  · refine Sc Iff.rfl (fun c27 => ?_) (fun _ => Sn)
                    refine Sb3 (ks_24 n (dp - 1) e 0 _ _ _ _ _ _ _ _ u_I2_34 u_L2_34 (rfl : Ui 0 0) (rfl : Ui 0 0)) (fun x3_84 x3_84' I3_84 I3_84' L3_84 L3_84' u_x3_84 u_I3_84 u_L3_84 => ?_)
                    refine Sc (lt_up u_x3_84 (rfl : Ui (5) (5))) (fun c28 => ?_) (fun c28 => ?_)
                    · exact (ih dp e 1 _ _ _ _ _ _ _ _ _ _ _ _ _ _ u_I3_84 u_L3_84 u_i1 u_i2 u_i3 u_v_52 u_v_64)
                    · refine Sc Iff.rfl (fun c29 => ?_) (fun _ => Sn)
                      refine Sb3 (ks_15 n (dp - 1) e 0 _ _ _ _ _ _ u_I3_84 u_L3_84 (rfl : Ui (-3) (-3))) (fun x4_94 x4_94' I4_94 I4_94' L4_94 L4_94' u_x4_94 u_I4_94 u_L4_94 => ?_)
                      exact Sr ⟨u_x4_94, u_I4_94, u_L4_94⟩
                  · exact (ih dp e 1 _ _ _ _ _ _ _ _ _ _ _ _ _ _ u_I2_34 u_L2_34 u_i1 u_i2 u_i3 u_v_52 u_v_64)
              · exact (ih dp e 1 _ _ _ _ _ _ _ _ _ _ _ _ _ _ u_I2_34 u_L2_34 u_i1 u_i2 u_i3 u_v_52 u_v_64)
    refine Sc Iff.rfl (fun _ => ?_) (fun _ => ?_)
    · refine Sc (ix_up u_i4) (fun c1 => ?_) (fun _ => Sn)
      refine SsJ (ri_up u_I (kc_up u_i4 c1.1) u_i3) (fun I_108 I_108' u_I_108 => ?_)
      refine Sc Iff.rfl (fun c2 => ?_) (fun _ => Sn)
      refine Sb2 (ks_25 n (dp - 1) e 0 _ _ _ _ u_I_108 u_L) (fun I0_113 I0_113' L0_113 L0_113' u_I0_113 u_L0_113 => ?_)
      refine Sc Iff.rfl (fun c3 => ?_) (fun _ => Sn)
      refine Sb2 (ks_18 n (dp - 1) e 0 _ _ _ _ u_I0_113 u_L0_113) (fun I1_120 I1_120' L1_120 L1_120' u_I1_120 u_L1_120 => ?_)
      refine Sc Iff.rfl (fun c4 => ?_) (fun _ => Sn)
      refine Sb3 (ks_19 n (dp - 1) e 0 _ _ _ _ _ _ u_I1_120 u_L1_120 u_i5) (fun x2_126 x2_126' I2_126 I2_126' L2_126 L2_126' u_x2_126 u_I2_126 u_L2_126 => ?_)
      exact Sr ⟨u_x2_126, u_I2_126, u_L2_126⟩
    exact Sn
set_option maxHeartbeats 4000000 in
set_option maxRecDepth 100000 in
def kf_26 : Nat → Nat → EN → Nat → JI → JI → Int → Option (Int × JI × JI)
  | 0, _, _, _, _, _, _ => none
  | n + 1, dp, e, lab, I, L, i1 =>
    if lab = 0 then (if 1 ≤ dp then ((kf_14 n (dp - 1) e 0 I L i1 0 15).bind (fun ⟨x0_4, I0_4, L0_4⟩ => (if x0_4 = 0 then (if 1 ≤ dp then ((kf_15 n (dp - 1) e 0 I0_4 L0_4 (-1)).bind (fun ⟨x1_12, I1_12, L1_12⟩ => (some ((x1_12 : Int), I1_12, L1_12)))) else none) else (if (I0_4 1 8) < 4 then (if 0 ≤ (I0_4 1 8) ∧ (I0_4 1 8) < 4 then (stI (w2 I0_4 5 (I0_4 1 8) i1) (fun I_45 => (if -2147483648 ≤ (I0_4 1 8) + 1 ∧ (I0_4 1 8) + 1 ≤ 2147483647 then (stI (w2 I_45 1 8 ((I0_4 1 8) + 1)) (fun I_53 => (if 1 ≤ dp then ((kf_18 n (dp - 1) e 0 I_53 L0_4).bind (fun ⟨I1_60, L1_60⟩ => (if 1 ≤ dp then ((kf_19 n (dp - 1) e 0 I1_60 L1_60 (I0_4 1 8)).bind (fun ⟨x2_65, I2_65, L2_65⟩ => (some ((x2_65 : Int), I2_65, L2_65)))) else none))) else none))) else none))) else none) else (if 1 ≤ dp then ((kf_15 n (dp - 1) e 0 I0_4 L0_4 (-5)).bind (fun ⟨x1_32, I1_32, L1_32⟩ => (some ((x1_32 : Int), I1_32, L1_32)))) else none))))) else none)
    else none
set_option maxRecDepth 100000 in
theorem ke_26_0 (n : Nat) (dp : Nat) (e : EN) (I : JI) (L : JI) (i1 : Int) : kf_26 (n + 1) dp e 0 I L i1 = (if 1 ≤ dp then ((kf_14 n (dp - 1) e 0 I L i1 0 15).bind (fun ⟨x0_4, I0_4, L0_4⟩ => (if x0_4 = 0 then (if 1 ≤ dp then ((kf_15 n (dp - 1) e 0 I0_4 L0_4 (-1)).bind (fun ⟨x1_12, I1_12, L1_12⟩ => (some ((x1_12 : Int), I1_12, L1_12)))) else none) else (if (I0_4 1 8) < 4 then (if 0 ≤ (I0_4 1 8) ∧ (I0_4 1 8) < 4 then (stI (w2 I0_4 5 (I0_4 1 8) i1) (fun I_45 => (if -2147483648 ≤ (I0_4 1 8) + 1 ∧ (I0_4 1 8) + 1 ≤ 2147483647 then (stI (w2 I_45 1 8 ((I0_4 1 8) + 1)) (fun I_53 => (if 1 ≤ dp then ((kf_18 n (dp - 1) e 0 I_53 L0_4).bind (fun ⟨I1_60, L1_60⟩ => (if 1 ≤ dp then ((kf_19 n (dp - 1) e 0 I1_60 L1_60 (I0_4 1 8)).bind (fun ⟨x2_65, I2_65, L2_65⟩ => (some ((x2_65 : Int), I2_65, L2_65)))) else none))) else none))) else none))) else none) else (if 1 ≤ dp then ((kf_15 n (dp - 1) e 0 I0_4 L0_4 (-5)).bind (fun ⟨x1_32, I1_32, L1_32⟩ => (some ((x1_32 : Int), I1_32, L1_32)))) else none))))) else none) := by rw [kf_26.eq_2, if_pos (show (0 : Nat) = 0 from rfl)]
set_option maxHeartbeats 8000000 in
set_option maxRecDepth 100000 in
theorem ks_26 : ∀ (n : Nat) (dp : Nat) (e : EN) (lab : Nat) (I : Nat → Nat → Int32) (I' : JI) (L : Nat → Nat → Int64) (L' : JI) (i1 : Int32) (i1' : Int), Rli I I' → Rll L L' → Ui i1 i1' → Sim R3 (g_26 n dp e lab I L i1) (kf_26 n dp e lab I' L' i1') := by
  intro n
  induction n with
  | zero => intros; rw [kf_26.eq_1]; exact Sn
  | succ n ih =>
    intro dp e lab I I' L L' i1 i1' u_I u_L u_i1
    rw [g_26.eq_2, kf_26.eq_2]
    refine Sc Iff.rfl (fun _ => ?_) (fun _ => ?_)
    · refine Sc Iff.rfl (fun c1 => ?_) (fun _ => Sn)
      refine Sb3 (ks_14 n (dp - 1) e 0 _ _ _ _ _ _ _ _ _ _ u_I u_L u_i1 (rfl : Ui (0) (0)) (rfl : Ui (15) (15))) (fun x0_4 x0_4' I0_4 I0_4' L0_4 L0_4' u_x0_4 u_I0_4 u_L0_4 => ?_)
      refine Sc (eq_up u_x0_4 (rfl : Ui 0 0)) (fun c2 => ?_) (fun c2 => ?_)
      · refine Sc Iff.rfl (fun c3 => ?_) (fun _ => Sn)
        refine Sb3 (ks_15 n (dp - 1) e 0 _ _ _ _ _ _ u_I0_4 u_L0_4 (rfl : Ui (-1) (-1))) (fun x1_12 x1_12' I1_12 I1_12' L1_12 L1_12' u_x1_12 u_I1_12 u_L1_12 => ?_)
        exact Sr ⟨u_x1_12, u_I1_12, u_L1_12⟩
      · refine Sc (lt_up (u_I0_4 1 8) (rfl : Ui (4) (4))) (fun c4 => ?_) (fun c4 => ?_)
        · refine Sc (ix_up (u_I0_4 1 8)) (fun c5 => ?_) (fun _ => Sn)
          refine SsJ (ri_up u_I0_4 (kc_up (u_I0_4 1 8) c5.1) u_i1) (fun I_45 I_45' u_I_45 => ?_)
          refine Sg (fun g6 => ?_)
          refine SsJ (ri_up u_I_45 (rfl : ((8 : Nat) : Int) = 8) (ui_add (u_I0_4 1 8) (rfl : Ui (1) (1)) g6)) (fun I_53 I_53' u_I_53 => ?_)
          refine Sc Iff.rfl (fun c7 => ?_) (fun _ => Sn)
          refine Sb2 (ks_18 n (dp - 1) e 0 _ _ _ _ u_I_53 u_L0_4) (fun I1_60 I1_60' L1_60 L1_60' u_I1_60 u_L1_60 => ?_)
          refine Sc Iff.rfl (fun c8 => ?_) (fun _ => Sn)
          refine Sb3 (ks_19 n (dp - 1) e 0 _ _ _ _ _ _ u_I1_60 u_L1_60 (u_I0_4 1 8)) (fun x2_65 x2_65' I2_65 I2_65' L2_65 L2_65' u_x2_65 u_I2_65 u_L2_65 => ?_)
          exact Sr ⟨u_x2_65, u_I2_65, u_L2_65⟩
        · refine Sc Iff.rfl (fun c9 => ?_) (fun _ => Sn)
          refine Sb3 (ks_15 n (dp - 1) e 0 _ _ _ _ _ _ u_I0_4 u_L0_4 (rfl : Ui (-5) (-5))) (fun x1_32 x1_32' I1_32 I1_32' L1_32 L1_32' u_x1_32 u_I1_32 u_L1_32 => ?_)
          exact Sr ⟨u_x1_32, u_I1_32, u_L1_32⟩
    exact Sn
set_option maxHeartbeats 4000000 in
set_option maxRecDepth 100000 in
def kf_27 : Nat → Nat → EN → Nat → JI → JI → Int → Int → Option (Int × JI × JI)
  | 0, _, _, _, _, _, _, _ => none
  | n + 1, dp, e, lab, I, L, i1, i2 =>
    if lab = 0 then (if 1 ≤ dp then ((kf_14 n (dp - 1) e 0 I L i2 0 15).bind (fun ⟨x0_4, I0_4, L0_4⟩ => (if x0_4 = 0 then (if 1 ≤ dp then ((kf_15 n (dp - 1) e 0 I0_4 L0_4 (-1)).bind (fun ⟨x1_12, I1_12, L1_12⟩ => (some ((x1_12 : Int), I1_12, L1_12)))) else none) else (if 1 ≤ dp then (if -2147483648 ≤ (I0_4 1 8) - 1 ∧ (I0_4 1 8) - 1 ≤ 2147483647 then ((kf_14 n (dp - 1) e 0 I0_4 L0_4 i1 0 ((I0_4 1 8) - 1)).bind (fun ⟨x1_27, I1_27, L1_27⟩ => (if x1_27 = 0 then (if 1 ≤ dp then ((kf_15 n (dp - 1) e 0 I1_27 L1_27 (-2)).bind (fun ⟨x2_36, I2_36, L2_36⟩ => (some ((x2_36 : Int), I2_36, L2_36)))) else none) else (if 0 ≤ i1 ∧ i1 < 4 then (stI (I1_27 5 i1) (fun v_49 => (if 0 ≤ i1 ∧ i1 < 4 then (stI (w2 I1_27 5 i1 i2) (fun I_59 => (if 1 ≤ dp then ((kf_18 n (dp - 1) e 0 I_59 L1_27).bind (fun ⟨I2_64, L2_64⟩ => (if 1 ≤ dp then ((kf_19 n (dp - 1) e 0 I2_64 L2_64 v_49).bind (fun ⟨x3_69, I3_69, L3_69⟩ => (some ((x3_69 : Int), I3_69, L3_69)))) else none))) else none))) else none))) else none)))) else none) else none)))) else none)
    else none
set_option maxRecDepth 100000 in
theorem ke_27_0 (n : Nat) (dp : Nat) (e : EN) (I : JI) (L : JI) (i1 : Int) (i2 : Int) : kf_27 (n + 1) dp e 0 I L i1 i2 = (if 1 ≤ dp then ((kf_14 n (dp - 1) e 0 I L i2 0 15).bind (fun ⟨x0_4, I0_4, L0_4⟩ => (if x0_4 = 0 then (if 1 ≤ dp then ((kf_15 n (dp - 1) e 0 I0_4 L0_4 (-1)).bind (fun ⟨x1_12, I1_12, L1_12⟩ => (some ((x1_12 : Int), I1_12, L1_12)))) else none) else (if 1 ≤ dp then (if -2147483648 ≤ (I0_4 1 8) - 1 ∧ (I0_4 1 8) - 1 ≤ 2147483647 then ((kf_14 n (dp - 1) e 0 I0_4 L0_4 i1 0 ((I0_4 1 8) - 1)).bind (fun ⟨x1_27, I1_27, L1_27⟩ => (if x1_27 = 0 then (if 1 ≤ dp then ((kf_15 n (dp - 1) e 0 I1_27 L1_27 (-2)).bind (fun ⟨x2_36, I2_36, L2_36⟩ => (some ((x2_36 : Int), I2_36, L2_36)))) else none) else (if 0 ≤ i1 ∧ i1 < 4 then (stI (I1_27 5 i1) (fun v_49 => (if 0 ≤ i1 ∧ i1 < 4 then (stI (w2 I1_27 5 i1 i2) (fun I_59 => (if 1 ≤ dp then ((kf_18 n (dp - 1) e 0 I_59 L1_27).bind (fun ⟨I2_64, L2_64⟩ => (if 1 ≤ dp then ((kf_19 n (dp - 1) e 0 I2_64 L2_64 v_49).bind (fun ⟨x3_69, I3_69, L3_69⟩ => (some ((x3_69 : Int), I3_69, L3_69)))) else none))) else none))) else none))) else none)))) else none) else none)))) else none) := by rw [kf_27.eq_2, if_pos (show (0 : Nat) = 0 from rfl)]
set_option maxHeartbeats 8000000 in
set_option maxRecDepth 100000 in
theorem ks_27 : ∀ (n : Nat) (dp : Nat) (e : EN) (lab : Nat) (I : Nat → Nat → Int32) (I' : JI) (L : Nat → Nat → Int64) (L' : JI) (i1 : Int32) (i1' : Int) (i2 : Int32) (i2' : Int), Rli I I' → Rll L L' → Ui i1 i1' → Ui i2 i2' → Sim R3 (g_27 n dp e lab I L i1 i2) (kf_27 n dp e lab I' L' i1' i2') := by
  intro n
  induction n with
  | zero => intros; rw [kf_27.eq_1]; exact Sn
  | succ n ih =>
    intro dp e lab I I' L L' i1 i1' i2 i2' u_I u_L u_i1 u_i2
    rw [g_27.eq_2, kf_27.eq_2]
    refine Sc Iff.rfl (fun _ => ?_) (fun _ => ?_)
    · refine Sc Iff.rfl (fun c1 => ?_) (fun _ => Sn)
      refine Sb3 (ks_14 n (dp - 1) e 0 _ _ _ _ _ _ _ _ _ _ u_I u_L u_i2 (rfl : Ui (0) (0)) (rfl : Ui (15) (15))) (fun x0_4 x0_4' I0_4 I0_4' L0_4 L0_4' u_x0_4 u_I0_4 u_L0_4 => ?_)
      refine Sc (eq_up u_x0_4 (rfl : Ui 0 0)) (fun c2 => ?_) (fun c2 => ?_)
      · refine Sc Iff.rfl (fun c3 => ?_) (fun _ => Sn)
        refine Sb3 (ks_15 n (dp - 1) e 0 _ _ _ _ _ _ u_I0_4 u_L0_4 (rfl : Ui (-1) (-1))) (fun x1_12 x1_12' I1_12 I1_12' L1_12 L1_12' u_x1_12 u_I1_12 u_L1_12 => ?_)
        exact Sr ⟨u_x1_12, u_I1_12, u_L1_12⟩
      · refine Sc Iff.rfl (fun c4 => ?_) (fun _ => Sn)
        refine Sg (fun g5 => ?_)
        refine Sb3 (ks_14 n (dp - 1) e 0 _ _ _ _ _ _ _ _ _ _ u_I0_4 u_L0_4 u_i1 (rfl : Ui (0) (0)) (ui_sub (u_I0_4 1 8) (rfl : Ui (1) (1)) g5)) (fun x1_27 x1_27' I1_27 I1_27' L1_27 L1_27' u_x1_27 u_I1_27 u_L1_27 => ?_)
        refine Sc (eq_up u_x1_27 (rfl : Ui 0 0)) (fun c6 => ?_) (fun c6 => ?_)
        · refine Sc Iff.rfl (fun c7 => ?_) (fun _ => Sn)
          refine Sb3 (ks_15 n (dp - 1) e 0 _ _ _ _ _ _ u_I1_27 u_L1_27 (rfl : Ui (-2) (-2))) (fun x2_36 x2_36' I2_36 I2_36' L2_36 L2_36' u_x2_36 u_I2_36 u_L2_36 => ?_)
          exact Sr ⟨u_x2_36, u_I2_36, u_L2_36⟩
        · refine Sc (ix_up u_i1) (fun c8 => ?_) (fun _ => Sn)
          refine SsI (ui_rd (a := 5) u_I1_27 u_i1 c8.1) (fun v_49 v_49' u_v_49 => ?_)
          refine Sc (ix_up u_i1) (fun c9 => ?_) (fun _ => Sn)
          refine SsJ (ri_up u_I1_27 (kc_up u_i1 c9.1) u_i2) (fun I_59 I_59' u_I_59 => ?_)
          refine Sc Iff.rfl (fun c10 => ?_) (fun _ => Sn)
          refine Sb2 (ks_18 n (dp - 1) e 0 _ _ _ _ u_I_59 u_L1_27) (fun I2_64 I2_64' L2_64 L2_64' u_I2_64 u_L2_64 => ?_)
          refine Sc Iff.rfl (fun c11 => ?_) (fun _ => Sn)
          refine Sb3 (ks_19 n (dp - 1) e 0 _ _ _ _ _ _ u_I2_64 u_L2_64 u_v_49) (fun x3_69 x3_69' I3_69 I3_69' L3_69 L3_69' u_x3_69 u_I3_69 u_L3_69 => ?_)
          exact Sr ⟨u_x3_69, u_I3_69, u_L3_69⟩
    exact Sn
set_option maxHeartbeats 4000000 in
set_option maxRecDepth 100000 in
def kf_28 : Nat → Nat → EN → Nat → JI → JI → Int → Int → Option (Int × JI × JI)
  | 0, _, _, _, _, _, _, _ => none
  | n + 1, dp, e, lab, I, L, i1, i2 =>
    if lab = 0 then (if 1 ≤ dp then ((kf_14 n (dp - 1) e 0 I L i1 0 1).bind (fun ⟨x0_3, I0_3, L0_3⟩ => (if x0_3 = 0 then (if 1 ≤ dp then ((kf_15 n (dp - 1) e 0 I0_3 L0_3 (-1)).bind (fun ⟨x1_30, I1_30, L1_30⟩ => (some ((x1_30 : Int), I1_30, L1_30)))) else none) else (if i1 = 0 then (if 1 ≤ dp then ((kf_14 n (dp - 1) e 0 I0_3 L0_3 i2 0 99).bind (fun ⟨x1_22, I1_22, L1_22⟩ => (if x1_22 = 0 then (if 1 ≤ dp then ((kf_15 n (dp - 1) e 0 I1_22 L1_22 (-1)).bind (fun ⟨x2_30, I2_30, L2_30⟩ => (some ((x2_30 : Int), I2_30, L2_30)))) else none) else (if i1 = 1 then (stI (w2 I1_22 1 12 i2) (fun I_52 => (if 1 ≤ dp then ((kf_19 n (dp - 1) e 0 I_52 L1_22 (I1_22 1 12)).bind (fun ⟨x2_57, I2_57, L2_57⟩ => (some ((x2_57 : Int), I2_57, L2_57)))) else none))) else (stI (w2 I1_22 1 11 i2) (fun I_74 => (if 1 ≤ dp then ((kf_21 n (dp - 1) e 0 I_74 L1_22).bind (fun ⟨I2_78, L2_78⟩ => (if 1 ≤ dp then ((kf_19 n (dp - 1) e 0 I2_78 L2_78 (I1_22 1 11)).bind (fun ⟨x3_83, I3_83, L3_83⟩ => (some ((x3_83 : Int), I3_83, L3_83)))) else none))) else none))))))) else none) else (if 1 ≤ dp then ((kf_14 n (dp - 1) e 0 I0_3 L0_3 i2 0 100).bind (fun ⟨x1_22, I1_22, L1_22⟩ => (if x1_22 = 0 then (if 1 ≤ dp then ((kf_15 n (dp - 1) e 0 I1_22 L1_22 (-1)).bind (fun ⟨x2_30, I2_30, L2_30⟩ => (some ((x2_30 : Int), I2_30, L2_30)))) else none) else (if i1 = 1 then (stI (w2 I1_22 1 12 i2) (fun I_52 => (if 1 ≤ dp then ((kf_19 n (dp - 1) e 0 I_52 L1_22 (I1_22 1 12)).bind (fun ⟨x2_57, I2_57, L2_57⟩ => (some ((x2_57 : Int), I2_57, L2_57)))) else none))) else (stI (w2 I1_22 1 11 i2) (fun I_74 => (if 1 ≤ dp then ((kf_21 n (dp - 1) e 0 I_74 L1_22).bind (fun ⟨I2_78, L2_78⟩ => (if 1 ≤ dp then ((kf_19 n (dp - 1) e 0 I2_78 L2_78 (I1_22 1 11)).bind (fun ⟨x3_83, I3_83, L3_83⟩ => (some ((x3_83 : Int), I3_83, L3_83)))) else none))) else none))))))) else none))))) else none)
    else none
set_option maxRecDepth 100000 in
theorem ke_28_0 (n : Nat) (dp : Nat) (e : EN) (I : JI) (L : JI) (i1 : Int) (i2 : Int) : kf_28 (n + 1) dp e 0 I L i1 i2 = (if 1 ≤ dp then ((kf_14 n (dp - 1) e 0 I L i1 0 1).bind (fun ⟨x0_3, I0_3, L0_3⟩ => (if x0_3 = 0 then (if 1 ≤ dp then ((kf_15 n (dp - 1) e 0 I0_3 L0_3 (-1)).bind (fun ⟨x1_30, I1_30, L1_30⟩ => (some ((x1_30 : Int), I1_30, L1_30)))) else none) else (if i1 = 0 then (if 1 ≤ dp then ((kf_14 n (dp - 1) e 0 I0_3 L0_3 i2 0 99).bind (fun ⟨x1_22, I1_22, L1_22⟩ => (if x1_22 = 0 then (if 1 ≤ dp then ((kf_15 n (dp - 1) e 0 I1_22 L1_22 (-1)).bind (fun ⟨x2_30, I2_30, L2_30⟩ => (some ((x2_30 : Int), I2_30, L2_30)))) else none) else (if i1 = 1 then (stI (w2 I1_22 1 12 i2) (fun I_52 => (if 1 ≤ dp then ((kf_19 n (dp - 1) e 0 I_52 L1_22 (I1_22 1 12)).bind (fun ⟨x2_57, I2_57, L2_57⟩ => (some ((x2_57 : Int), I2_57, L2_57)))) else none))) else (stI (w2 I1_22 1 11 i2) (fun I_74 => (if 1 ≤ dp then ((kf_21 n (dp - 1) e 0 I_74 L1_22).bind (fun ⟨I2_78, L2_78⟩ => (if 1 ≤ dp then ((kf_19 n (dp - 1) e 0 I2_78 L2_78 (I1_22 1 11)).bind (fun ⟨x3_83, I3_83, L3_83⟩ => (some ((x3_83 : Int), I3_83, L3_83)))) else none))) else none))))))) else none) else (if 1 ≤ dp then ((kf_14 n (dp - 1) e 0 I0_3 L0_3 i2 0 100).bind (fun ⟨x1_22, I1_22, L1_22⟩ => (if x1_22 = 0 then (if 1 ≤ dp then ((kf_15 n (dp - 1) e 0 I1_22 L1_22 (-1)).bind (fun ⟨x2_30, I2_30, L2_30⟩ => (some ((x2_30 : Int), I2_30, L2_30)))) else none) else (if i1 = 1 then (stI (w2 I1_22 1 12 i2) (fun I_52 => (if 1 ≤ dp then ((kf_19 n (dp - 1) e 0 I_52 L1_22 (I1_22 1 12)).bind (fun ⟨x2_57, I2_57, L2_57⟩ => (some ((x2_57 : Int), I2_57, L2_57)))) else none))) else (stI (w2 I1_22 1 11 i2) (fun I_74 => (if 1 ≤ dp then ((kf_21 n (dp - 1) e 0 I_74 L1_22).bind (fun ⟨I2_78, L2_78⟩ => (if 1 ≤ dp then ((kf_19 n (dp - 1) e 0 I2_78 L2_78 (I1_22 1 11)).bind (fun ⟨x3_83, I3_83, L3_83⟩ => (some ((x3_83 : Int), I3_83, L3_83)))) else none))) else none))))))) else none))))) else none) := by rw [kf_28.eq_2, if_pos (show (0 : Nat) = 0 from rfl)]
set_option maxHeartbeats 8000000 in
set_option maxRecDepth 100000 in
theorem ks_28 : ∀ (n : Nat) (dp : Nat) (e : EN) (lab : Nat) (I : Nat → Nat → Int32) (I' : JI) (L : Nat → Nat → Int64) (L' : JI) (i1 : Int32) (i1' : Int) (i2 : Int32) (i2' : Int), Rli I I' → Rll L L' → Ui i1 i1' → Ui i2 i2' → Sim R3 (g_28 n dp e lab I L i1 i2) (kf_28 n dp e lab I' L' i1' i2') := by
  intro n
  induction n with
  | zero => intros; rw [kf_28.eq_1]; exact Sn
  | succ n ih =>
    intro dp e lab I I' L L' i1 i1' i2 i2' u_I u_L u_i1 u_i2
    rw [g_28.eq_2, kf_28.eq_2]
    refine Sc Iff.rfl (fun _ => ?_) (fun _ => ?_)
    · refine Sc Iff.rfl (fun c1 => ?_) (fun _ => Sn)
      refine Sb3 (ks_14 n (dp - 1) e 0 _ _ _ _ _ _ _ _ _ _ u_I u_L u_i1 (rfl : Ui (0) (0)) (rfl : Ui (1) (1))) (fun x0_3 x0_3' I0_3 I0_3' L0_3 L0_3' u_x0_3 u_I0_3 u_L0_3 => ?_)
      refine Sc (eq_up u_x0_3 (rfl : Ui 0 0)) (fun c2 => ?_) (fun c2 => ?_)
      · refine Sc Iff.rfl (fun c3 => ?_) (fun _ => Sn)
        refine Sb3 (ks_15 n (dp - 1) e 0 _ _ _ _ _ _ u_I0_3 u_L0_3 (rfl : Ui (-1) (-1))) (fun x1_30 x1_30' I1_30 I1_30' L1_30 L1_30' u_x1_30 u_I1_30 u_L1_30 => ?_)
        exact Sr ⟨u_x1_30, u_I1_30, u_L1_30⟩
      · refine Sc (eq_up u_i1 (rfl : Ui 0 0)) (fun c4 => ?_) (fun c4 => ?_)
        · refine Sc Iff.rfl (fun c5 => ?_) (fun _ => Sn)
          refine Sb3 (ks_14 n (dp - 1) e 0 _ _ _ _ _ _ _ _ _ _ u_I0_3 u_L0_3 u_i2 (rfl : Ui (0) (0)) (rfl : Ui (99) (99))) (fun x1_22 x1_22' I1_22 I1_22' L1_22 L1_22' u_x1_22 u_I1_22 u_L1_22 => ?_)
          refine Sc (eq_up u_x1_22 (rfl : Ui 0 0)) (fun c6 => ?_) (fun c6 => ?_)
          · refine Sc Iff.rfl (fun c7 => ?_) (fun _ => Sn)
            refine Sb3 (ks_15 n (dp - 1) e 0 _ _ _ _ _ _ u_I1_22 u_L1_22 (rfl : Ui (-1) (-1))) (fun x2_30 x2_30' I2_30 I2_30' L2_30 L2_30' u_x2_30 u_I2_30 u_L2_30 => ?_)
            exact Sr ⟨u_x2_30, u_I2_30, u_L2_30⟩
          · refine Sc (eq_up u_i1 (rfl : Ui (1) (1))) (fun c8 => ?_) (fun c8 => ?_)
            · refine SsJ (ri_up u_I1_22 (rfl : ((12 : Nat) : Int) = 12) u_i2) (fun I_52 I_52' u_I_52 => ?_)
              refine Sc Iff.rfl (fun c9 => ?_) (fun _ => Sn)
              refine Sb3 (ks_19 n (dp - 1) e 0 _ _ _ _ _ _ u_I_52 u_L1_22 (u_I1_22 1 12)) (fun x2_57 x2_57' I2_57 I2_57' L2_57 L2_57' u_x2_57 u_I2_57 u_L2_57 => ?_)
              exact Sr ⟨u_x2_57, u_I2_57, u_L2_57⟩
            · refine SsJ (ri_up u_I1_22 (rfl : ((11 : Nat) : Int) = 11) u_i2) (fun I_74 I_74' u_I_74 => ?_)
              refine Sc Iff.rfl (fun c10 => ?_) (fun _ => Sn)
              refine Sb2 (ks_21 n (dp - 1) e 0 _ _ _ _ u_I_74 u_L1_22) (fun I2_78 I2_78' L2_78 L2_78' u_I2_78 u_L2_78 => ?_)
              refine Sc Iff.rfl (fun c11 => ?_) (fun _ => Sn)
              refine Sb3 (ks_19 n (dp - 1) e 0 _ _ _ _ _ _ u_I2_78 u_L2_78 (u_I1_22 1 11)) (fun x3_83 x3_83' I3_83 I3_83' L3_83 L3_83' u_x3_83 u_I3_83 u_L3_83 => ?_)
              exact Sr ⟨u_x3_83, u_I3_83, u_L3_83⟩
        · refine Sc Iff.rfl (fun c12 => ?_) (fun _ => Sn)
          refine Sb3 (ks_14 n (dp - 1) e 0 _ _ _ _ _ _ _ _ _ _ u_I0_3 u_L0_3 u_i2 (rfl : Ui (0) (0)) (rfl : Ui (100) (100))) (fun x1_22 x1_22' I1_22 I1_22' L1_22 L1_22' u_x1_22 u_I1_22 u_L1_22 => ?_)
          refine Sc (eq_up u_x1_22 (rfl : Ui 0 0)) (fun c13 => ?_) (fun c13 => ?_)
          · refine Sc Iff.rfl (fun c14 => ?_) (fun _ => Sn)
            refine Sb3 (ks_15 n (dp - 1) e 0 _ _ _ _ _ _ u_I1_22 u_L1_22 (rfl : Ui (-1) (-1))) (fun x2_30 x2_30' I2_30 I2_30' L2_30 L2_30' u_x2_30 u_I2_30 u_L2_30 => ?_)
            exact Sr ⟨u_x2_30, u_I2_30, u_L2_30⟩
          · refine Sc (eq_up u_i1 (rfl : Ui (1) (1))) (fun c15 => ?_) (fun c15 => ?_)
            · refine SsJ (ri_up u_I1_22 (rfl : ((12 : Nat) : Int) = 12) u_i2) (fun I_52 I_52' u_I_52 => ?_)
              refine Sc Iff.rfl (fun c16 => ?_) (fun _ => Sn)
              refine Sb3 (ks_19 n (dp - 1) e 0 _ _ _ _ _ _ u_I_52 u_L1_22 (u_I1_22 1 12)) (fun x2_57 x2_57' I2_57 I2_57' L2_57 L2_57' u_x2_57 u_I2_57 u_L2_57 => ?_)
              exact Sr ⟨u_x2_57, u_I2_57, u_L2_57⟩
            · refine SsJ (ri_up u_I1_22 (rfl : ((11 : Nat) : Int) = 11) u_i2) (fun I_74 I_74' u_I_74 => ?_)
              refine Sc Iff.rfl (fun c17 => ?_) (fun _ => Sn)
              refine Sb2 (ks_21 n (dp - 1) e 0 _ _ _ _ u_I_74 u_L1_22) (fun I2_78 I2_78' L2_78 L2_78' u_I2_78 u_L2_78 => ?_)
              refine Sc Iff.rfl (fun c18 => ?_) (fun _ => Sn)
              refine Sb3 (ks_19 n (dp - 1) e 0 _ _ _ _ _ _ u_I2_78 u_L2_78 (u_I1_22 1 11)) (fun x3_83 x3_83' I3_83 I3_83' L3_83 L3_83' u_x3_83 u_I3_83 u_L3_83 => ?_)
              exact Sr ⟨u_x3_83, u_I3_83, u_L3_83⟩
    exact Sn
set_option maxHeartbeats 4000000 in
set_option maxRecDepth 100000 in
def kf_30 : Nat → Nat → EN → Nat → JI → JI → Int → Int → Option (JI × JI)
  | 0, _, _, _, _, _, _, _ => none
  | n + 1, dp, e, lab, I, L, i1, i2 =>
    if lab = 0 then (kf_30 n dp e 1 I L i1 24)
    else if lab = 1 then (if i2 < 0 then (some (I, L)) else (if 400 ≤ (I 0 13) then (some (I, L)) else (if 0 ≤ (I 0 13) ∧ (I 0 13) < 400 then (stI (w2 I 89 (I 0 13) (bA (bU i1 i2) 255)) (fun I_32 => (if -2147483648 ≤ (I_32 0 13) + 1 ∧ (I_32 0 13) + 1 ≤ 2147483647 then (stI (w2 I_32 0 13 ((I_32 0 13) + 1)) (fun I_40 => (if -2147483648 ≤ i2 + (-8) ∧ i2 + (-8) ≤ 2147483647 then (kf_30 n dp e 1 I_40 L i1 (i2 + (-8))) else none))) else none))) else none)))
    else none
set_option maxRecDepth 100000 in
theorem ke_30_0 (n : Nat) (dp : Nat) (e : EN) (I : JI) (L : JI) (i1 : Int) (i2 : Int) : kf_30 (n + 1) dp e 0 I L i1 i2 = (kf_30 n dp e 1 I L i1 24) := by rw [kf_30.eq_2, if_pos (show (0 : Nat) = 0 from rfl)]
set_option maxRecDepth 100000 in
theorem ke_30_1 (n : Nat) (dp : Nat) (e : EN) (I : JI) (L : JI) (i1 : Int) (i2 : Int) : kf_30 (n + 1) dp e 1 I L i1 i2 = (if i2 < 0 then (some (I, L)) else (if 400 ≤ (I 0 13) then (some (I, L)) else (if 0 ≤ (I 0 13) ∧ (I 0 13) < 400 then (stI (w2 I 89 (I 0 13) (bA (bU i1 i2) 255)) (fun I_32 => (if -2147483648 ≤ (I_32 0 13) + 1 ∧ (I_32 0 13) + 1 ≤ 2147483647 then (stI (w2 I_32 0 13 ((I_32 0 13) + 1)) (fun I_40 => (if -2147483648 ≤ i2 + (-8) ∧ i2 + (-8) ≤ 2147483647 then (kf_30 n dp e 1 I_40 L i1 (i2 + (-8))) else none))) else none))) else none))) := by rw [kf_30.eq_2, if_neg (show ¬ ((1 : Nat) = 0) by decide), if_pos (show (1 : Nat) = 1 from rfl)]
set_option maxHeartbeats 8000000 in
set_option maxRecDepth 100000 in
theorem ks_30 : ∀ (n : Nat) (dp : Nat) (e : EN) (lab : Nat) (I : Nat → Nat → Int32) (I' : JI) (L : Nat → Nat → Int64) (L' : JI) (i1 : Int32) (i1' : Int) (i2 : Int32) (i2' : Int), Rli I I' → Rll L L' → Ui i1 i1' → Ui i2 i2' → Sim R2 (g_30 n dp e lab I L i1 i2) (kf_30 n dp e lab I' L' i1' i2') := by
  intro n
  induction n with
  | zero => intros; rw [kf_30.eq_1]; exact Sn
  | succ n ih =>
    intro dp e lab I I' L L' i1 i1' i2 i2' u_I u_L u_i1 u_i2
    rw [g_30.eq_2, kf_30.eq_2]
    refine Sc Iff.rfl (fun _ => ?_) (fun _ => ?_)
    · exact (ih dp e 1 _ _ _ _ _ _ _ _ u_I u_L u_i1 (rfl : Ui (24) (24)))
    refine Sc Iff.rfl (fun _ => ?_) (fun _ => ?_)
    · refine Sc (lt_up u_i2 (rfl : Ui 0 0)) (fun c1 => ?_) (fun c1 => ?_)
      · exact Sr ⟨u_I, u_L⟩
      · refine Sc (le_up (rfl : Ui (400) (400)) (u_I 0 13)) (fun c2 => ?_) (fun c2 => ?_)
        · exact Sr ⟨u_I, u_L⟩
        · refine Sc (ix_up (u_I 0 13)) (fun c3 => ?_) (fun _ => Sn)
          refine SsJ (ri_up u_I (kc_up (u_I 0 13) c3.1) (ui_and (ui_ushr u_i1 u_i2) (rfl : Ui (255) (255)))) (fun I_32 I_32' u_I_32 => ?_)
          refine Sg (fun g4 => ?_)
          refine SsJ (ri_up u_I_32 (rfl : ((13 : Nat) : Int) = 13) (ui_add (u_I_32 0 13) (rfl : Ui (1) (1)) g4)) (fun I_40 I_40' u_I_40 => ?_)
          refine Sg (fun g5 => ?_)
          exact (ih dp e 1 _ _ _ _ _ _ _ _ u_I_40 u_L u_i1 (ui_add u_i2 (rfl : Ui (Int32.ofInt (-8)) (-8)) g5))
    exact Sn
set_option maxHeartbeats 4000000 in
set_option maxRecDepth 100000 in
def kf_29 : Nat → Nat → EN → Nat → JI → JI → Int → Int → Int → Int → Int → Option (Int × JI × JI)
  | 0, _, _, _, _, _, _, _, _, _, _ => none
  | n + 1, dp, e, lab, I, L, i1, i2, i3, i4, i5 =>
    if lab = 0 then (if (I 0 13) ≤ 380 then (if 1 ≤ dp then ((kf_30 n (dp - 1) e 0 I L i1 0).bind (fun ⟨I0_14, L0_14⟩ => (if 1 ≤ dp then ((kf_30 n (dp - 1) e 0 I0_14 L0_14 i2 0).bind (fun ⟨I1_19, L1_19⟩ => (if 1 ≤ dp then ((kf_30 n (dp - 1) e 0 I1_19 L1_19 i3 0).bind (fun ⟨I2_24, L2_24⟩ => (if 1 ≤ dp then ((kf_30 n (dp - 1) e 0 I2_24 L2_24 i4 0).bind (fun ⟨I3_30, L3_30⟩ => (if 1 ≤ dp then ((kf_30 n (dp - 1) e 0 I3_30 L3_30 i5 0).bind (fun ⟨I4_36, L4_36⟩ => (some (((I4_36 0 13) : Int), I4_36, L4_36)))) else none))) else none))) else none))) else none))) else none) else (some (((-1) : Int), I, L)))
    else none
set_option maxRecDepth 100000 in
theorem ke_29_0 (n : Nat) (dp : Nat) (e : EN) (I : JI) (L : JI) (i1 : Int) (i2 : Int) (i3 : Int) (i4 : Int) (i5 : Int) : kf_29 (n + 1) dp e 0 I L i1 i2 i3 i4 i5 = (if (I 0 13) ≤ 380 then (if 1 ≤ dp then ((kf_30 n (dp - 1) e 0 I L i1 0).bind (fun ⟨I0_14, L0_14⟩ => (if 1 ≤ dp then ((kf_30 n (dp - 1) e 0 I0_14 L0_14 i2 0).bind (fun ⟨I1_19, L1_19⟩ => (if 1 ≤ dp then ((kf_30 n (dp - 1) e 0 I1_19 L1_19 i3 0).bind (fun ⟨I2_24, L2_24⟩ => (if 1 ≤ dp then ((kf_30 n (dp - 1) e 0 I2_24 L2_24 i4 0).bind (fun ⟨I3_30, L3_30⟩ => (if 1 ≤ dp then ((kf_30 n (dp - 1) e 0 I3_30 L3_30 i5 0).bind (fun ⟨I4_36, L4_36⟩ => (some (((I4_36 0 13) : Int), I4_36, L4_36)))) else none))) else none))) else none))) else none))) else none) else (some (((-1) : Int), I, L))) := by rw [kf_29.eq_2, if_pos (show (0 : Nat) = 0 from rfl)]
set_option maxHeartbeats 8000000 in
set_option maxRecDepth 100000 in
theorem ks_29 : ∀ (n : Nat) (dp : Nat) (e : EN) (lab : Nat) (I : Nat → Nat → Int32) (I' : JI) (L : Nat → Nat → Int64) (L' : JI) (i1 : Int32) (i1' : Int) (i2 : Int32) (i2' : Int) (i3 : Int32) (i3' : Int) (i4 : Int32) (i4' : Int) (i5 : Int32) (i5' : Int), Rli I I' → Rll L L' → Ui i1 i1' → Ui i2 i2' → Ui i3 i3' → Ui i4 i4' → Ui i5 i5' → Sim R3 (g_29 n dp e lab I L i1 i2 i3 i4 i5) (kf_29 n dp e lab I' L' i1' i2' i3' i4' i5') := by
  intro n
  induction n with
  | zero => intros; rw [kf_29.eq_1]; exact Sn
  | succ n ih =>
    intro dp e lab I I' L L' i1 i1' i2 i2' i3 i3' i4 i4' i5 i5' u_I u_L u_i1 u_i2 u_i3 u_i4 u_i5
    rw [g_29.eq_2, kf_29.eq_2]
    refine Sc Iff.rfl (fun _ => ?_) (fun _ => ?_)
    · refine Sc (le_up (u_I 0 13) (rfl : Ui (380) (380))) (fun c1 => ?_) (fun c1 => ?_)
      · refine Sc Iff.rfl (fun c2 => ?_) (fun _ => Sn)
        refine Sb2 (ks_30 n (dp - 1) e 0 _ _ _ _ _ _ _ _ u_I u_L u_i1 (rfl : Ui 0 0)) (fun I0_14 I0_14' L0_14 L0_14' u_I0_14 u_L0_14 => ?_)
        refine Sc Iff.rfl (fun c3 => ?_) (fun _ => Sn)
        refine Sb2 (ks_30 n (dp - 1) e 0 _ _ _ _ _ _ _ _ u_I0_14 u_L0_14 u_i2 (rfl : Ui 0 0)) (fun I1_19 I1_19' L1_19 L1_19' u_I1_19 u_L1_19 => ?_)
        refine Sc Iff.rfl (fun c4 => ?_) (fun _ => Sn)
        refine Sb2 (ks_30 n (dp - 1) e 0 _ _ _ _ _ _ _ _ u_I1_19 u_L1_19 u_i3 (rfl : Ui 0 0)) (fun I2_24 I2_24' L2_24 L2_24' u_I2_24 u_L2_24 => ?_)
        refine Sc Iff.rfl (fun c5 => ?_) (fun _ => Sn)
        refine Sb2 (ks_30 n (dp - 1) e 0 _ _ _ _ _ _ _ _ u_I2_24 u_L2_24 u_i4 (rfl : Ui 0 0)) (fun I3_30 I3_30' L3_30 L3_30' u_I3_30 u_L3_30 => ?_)
        refine Sc Iff.rfl (fun c6 => ?_) (fun _ => Sn)
        refine Sb2 (ks_30 n (dp - 1) e 0 _ _ _ _ _ _ _ _ u_I3_30 u_L3_30 u_i5 (rfl : Ui 0 0)) (fun I4_36 I4_36' L4_36 L4_36' u_I4_36 u_L4_36 => ?_)
        exact Sr ⟨(u_I4_36 0 13), u_I4_36, u_L4_36⟩
      · exact Sr ⟨(rfl : Ui (-1) (-1)), u_I, u_L⟩
    exact Sn
set_option maxHeartbeats 4000000 in
set_option maxRecDepth 100000 in
def kf_31 : Nat → Nat → EN → Nat → JI → JI → Int → Option (Int × JI × JI)
  | 0, _, _, _, _, _, _ => none
  | n + 1, dp, e, lab, I, L, i1 =>
    if lab = 0 then (if 1 ≤ dp then ((kf_14 n (dp - 1) e 0 I L i1 0 (I 0 13)).bind (fun ⟨x0_6, I0_6, L0_6⟩ => (if x0_6 = 0 then (some (((-1) : Int), I0_6, L0_6)) else (stI (w2 I0_6 0 13 i1) (fun I_16 => (some ((i1 : Int), I_16, L0_6))))))) else none)
    else none
set_option maxRecDepth 100000 in
theorem ke_31_0 (n : Nat) (dp : Nat) (e : EN) (I : JI) (L : JI) (i1 : Int) : kf_31 (n + 1) dp e 0 I L i1 = (if 1 ≤ dp then ((kf_14 n (dp - 1) e 0 I L i1 0 (I 0 13)).bind (fun ⟨x0_6, I0_6, L0_6⟩ => (if x0_6 = 0 then (some (((-1) : Int), I0_6, L0_6)) else (stI (w2 I0_6 0 13 i1) (fun I_16 => (some ((i1 : Int), I_16, L0_6))))))) else none) := by rw [kf_31.eq_2, if_pos (show (0 : Nat) = 0 from rfl)]
set_option maxHeartbeats 8000000 in
set_option maxRecDepth 100000 in
theorem ks_31 : ∀ (n : Nat) (dp : Nat) (e : EN) (lab : Nat) (I : Nat → Nat → Int32) (I' : JI) (L : Nat → Nat → Int64) (L' : JI) (i1 : Int32) (i1' : Int), Rli I I' → Rll L L' → Ui i1 i1' → Sim R3 (g_31 n dp e lab I L i1) (kf_31 n dp e lab I' L' i1') := by
  intro n
  induction n with
  | zero => intros; rw [kf_31.eq_1]; exact Sn
  | succ n ih =>
    intro dp e lab I I' L L' i1 i1' u_I u_L u_i1
    rw [g_31.eq_2, kf_31.eq_2]
    refine Sc Iff.rfl (fun _ => ?_) (fun _ => ?_)
    · refine Sc Iff.rfl (fun c1 => ?_) (fun _ => Sn)
      refine Sb3 (ks_14 n (dp - 1) e 0 _ _ _ _ _ _ _ _ _ _ u_I u_L u_i1 (rfl : Ui (0) (0)) (u_I 0 13)) (fun x0_6 x0_6' I0_6 I0_6' L0_6 L0_6' u_x0_6 u_I0_6 u_L0_6 => ?_)
      refine Sc (eq_up u_x0_6 (rfl : Ui 0 0)) (fun c2 => ?_) (fun c2 => ?_)
      · exact Sr ⟨(rfl : Ui (-1) (-1)), u_I0_6, u_L0_6⟩
      · refine SsJ (ri_up u_I0_6 (rfl : ((13 : Nat) : Int) = 13) u_i1) (fun I_16 I_16' u_I_16 => ?_)
        exact Sr ⟨u_i1, u_I_16, u_L0_6⟩
    exact Sn
set_option maxHeartbeats 4000000 in
set_option maxRecDepth 100000 in
def kf_36 : Nat → Nat → EN → Nat → JI → JI → Int → Int → Int → Nat → Option (JI × JI)
  | 0, _, _, _, _, _, _, _, _, _ => none
  | n + 1, dp, e, lab, I, L, i1, i2, i3, a0 =>
    if lab = 0 then (if (a0 < e.1) ∧ ((e.2.1 a0).1 = 13) then (if (e.2.1 a0).2 < 2147483648 then (kf_36 n dp e 1 I L i1 0 (((e.2.1 a0).2 : Nat) : Int) a0) else none) else none)
    else if lab = 1 then (if i3 ≤ i2 then (some (I, L)) else (if ((a0 < e.1) ∧ (((e.2.1 a0).1 = 13) ∧ ((e.2.1 a0).2 < (2 ^ 31)))) ∧ (0 ≤ i2 ∧ i2 < (((e.2.1 a0).2 : Nat) : Int)) then (stI (w2 I a0 i2 i1) (fun I_13 => (if -2147483648 ≤ i2 + 1 ∧ i2 + 1 ≤ 2147483647 then (kf_36 n dp e 1 I_13 L i1 (i2 + 1) i3 a0) else none))) else none))
    else none
set_option maxRecDepth 100000 in
theorem ke_36_0 (n : Nat) (dp : Nat) (e : EN) (I : JI) (L : JI) (i1 : Int) (i2 : Int) (i3 : Int) (a0 : Nat) : kf_36 (n + 1) dp e 0 I L i1 i2 i3 a0 = (if (a0 < e.1) ∧ ((e.2.1 a0).1 = 13) then (if (e.2.1 a0).2 < 2147483648 then (kf_36 n dp e 1 I L i1 0 (((e.2.1 a0).2 : Nat) : Int) a0) else none) else none) := by rw [kf_36.eq_2, if_pos (show (0 : Nat) = 0 from rfl)]
set_option maxRecDepth 100000 in
theorem ke_36_1 (n : Nat) (dp : Nat) (e : EN) (I : JI) (L : JI) (i1 : Int) (i2 : Int) (i3 : Int) (a0 : Nat) : kf_36 (n + 1) dp e 1 I L i1 i2 i3 a0 = (if i3 ≤ i2 then (some (I, L)) else (if ((a0 < e.1) ∧ (((e.2.1 a0).1 = 13) ∧ ((e.2.1 a0).2 < (2 ^ 31)))) ∧ (0 ≤ i2 ∧ i2 < (((e.2.1 a0).2 : Nat) : Int)) then (stI (w2 I a0 i2 i1) (fun I_13 => (if -2147483648 ≤ i2 + 1 ∧ i2 + 1 ≤ 2147483647 then (kf_36 n dp e 1 I_13 L i1 (i2 + 1) i3 a0) else none))) else none)) := by rw [kf_36.eq_2, if_neg (show ¬ ((1 : Nat) = 0) by decide), if_pos (show (1 : Nat) = 1 from rfl)]
set_option maxHeartbeats 8000000 in
set_option maxRecDepth 100000 in
theorem ks_36 : ∀ (n : Nat) (dp : Nat) (e : EN) (lab : Nat) (I : Nat → Nat → Int32) (I' : JI) (L : Nat → Nat → Int64) (L' : JI) (i1 : Int32) (i1' : Int) (i2 : Int32) (i2' : Int) (i3 : Int32) (i3' : Int) (a0 : Nat), Rli I I' → Rll L L' → Ui i1 i1' → Ui i2 i2' → Ui i3 i3' → Sim R2 (g_36 n dp e lab I L i1 i2 i3 a0) (kf_36 n dp e lab I' L' i1' i2' i3' a0) := by
  intro n
  induction n with
  | zero => intros; rw [kf_36.eq_1]; exact Sn
  | succ n ih =>
    intro dp e lab I I' L L' i1 i1' i2 i2' i3 i3' a0 u_I u_L u_i1 u_i2 u_i3
    rw [g_36.eq_2, kf_36.eq_2]
    refine Sc Iff.rfl (fun _ => ?_) (fun _ => ?_)
    · refine Sc Iff.rfl (fun c1 => ?_) (fun _ => Sn)
      refine Sg (fun g2 => ?_)
      exact (ih dp e 1 _ _ _ _ _ _ _ _ _ _ a0 u_I u_L u_i1 (rfl : Ui (0) (0)) (ui_nI g2))
    refine Sc Iff.rfl (fun _ => ?_) (fun _ => ?_)
    · refine Sc (le_up u_i3 u_i2) (fun c1 => ?_) (fun c1 => ?_)
      · exact Sr ⟨u_I, u_L⟩
      · refine Sc (and_congr Iff.rfl (ix_up u_i2)) (fun c2 => ?_) (fun _ => Sn)
        refine SsJ (ri_up u_I (kc_up u_i2 c2.2.1) u_i1) (fun I_13 I_13' u_I_13 => ?_)
        refine Sg (fun g3 => ?_)
        exact (ih dp e 1 _ _ _ _ _ _ _ _ _ _ a0 u_I_13 u_L u_i1 (ui_add u_i2 (rfl : Ui (Int32.ofInt (1)) (1)) g3) u_i3)
    exact Sn
set_option maxHeartbeats 4000000 in
set_option maxRecDepth 100000 in
def kf_35 : Nat → Nat → EN → Nat → JI → JI → Nat → Option (JI × JI)
  | 0, _, _, _, _, _, _ => none
  | n + 1, dp, e, lab, I, L, a0 =>
    if lab = 0 then (if (a0 < e.1) ∧ ((e.2.1 a0).1 = 10) then ((e.2.2 a0 7).bind (fun b_1 => (if 1 ≤ dp then ((kf_36 n (dp - 1) e 0 I L 0 0 0 b_1).bind (fun ⟨I0_5, L0_5⟩ => (if (a0 < e.1) ∧ ((e.2.1 a0).1 = 10) then (stI (w2 I0_5 a0 10 0) (fun I_10 => (if (a0 < e.1) ∧ ((e.2.1 a0).1 = 10) then (stI (w2 I_10 a0 11 0) (fun I_15 => (if (a0 < e.1) ∧ ((e.2.1 a0).1 = 10) then (stI (w2 I_15 a0 12 0) (fun I_20 => (some (I_20, L0_5)))) else none))) else none))) else none))) else none))) else none)
    else none
set_option maxRecDepth 100000 in
theorem ke_35_0 (n : Nat) (dp : Nat) (e : EN) (I : JI) (L : JI) (a0 : Nat) : kf_35 (n + 1) dp e 0 I L a0 = (if (a0 < e.1) ∧ ((e.2.1 a0).1 = 10) then ((e.2.2 a0 7).bind (fun b_1 => (if 1 ≤ dp then ((kf_36 n (dp - 1) e 0 I L 0 0 0 b_1).bind (fun ⟨I0_5, L0_5⟩ => (if (a0 < e.1) ∧ ((e.2.1 a0).1 = 10) then (stI (w2 I0_5 a0 10 0) (fun I_10 => (if (a0 < e.1) ∧ ((e.2.1 a0).1 = 10) then (stI (w2 I_10 a0 11 0) (fun I_15 => (if (a0 < e.1) ∧ ((e.2.1 a0).1 = 10) then (stI (w2 I_15 a0 12 0) (fun I_20 => (some (I_20, L0_5)))) else none))) else none))) else none))) else none))) else none) := by rw [kf_35.eq_2, if_pos (show (0 : Nat) = 0 from rfl)]
set_option maxHeartbeats 8000000 in
set_option maxRecDepth 100000 in
theorem ks_35 : ∀ (n : Nat) (dp : Nat) (e : EN) (lab : Nat) (I : Nat → Nat → Int32) (I' : JI) (L : Nat → Nat → Int64) (L' : JI) (a0 : Nat), Rli I I' → Rll L L' → Sim R2 (g_35 n dp e lab I L a0) (kf_35 n dp e lab I' L' a0) := by
  intro n
  induction n with
  | zero => intros; rw [kf_35.eq_1]; exact Sn
  | succ n ih =>
    intro dp e lab I I' L L' a0 u_I u_L
    rw [g_35.eq_2, kf_35.eq_2]
    refine Sc Iff.rfl (fun _ => ?_) (fun _ => ?_)
    · refine Sc Iff.rfl (fun c1 => ?_) (fun _ => Sn)
      refine SbE rfl (fun b_1 => ?_)
      refine Sc Iff.rfl (fun c2 => ?_) (fun _ => Sn)
      refine Sb2 (ks_36 n (dp - 1) e 0 _ _ _ _ _ _ _ _ _ _ b_1 u_I u_L (rfl : Ui (0) (0)) (rfl : Ui 0 0) (rfl : Ui 0 0)) (fun I0_5 I0_5' L0_5 L0_5' u_I0_5 u_L0_5 => ?_)
      refine Sc Iff.rfl (fun c3 => ?_) (fun _ => Sn)
      refine SsJ (ri_up u_I0_5 (rfl : ((10 : Nat) : Int) = 10) (rfl : Ui (0) (0))) (fun I_10 I_10' u_I_10 => ?_)
      refine Sc Iff.rfl (fun c4 => ?_) (fun _ => Sn)
      refine SsJ (ri_up u_I_10 (rfl : ((11 : Nat) : Int) = 11) (rfl : Ui (0) (0))) (fun I_15 I_15' u_I_15 => ?_)
      refine Sc Iff.rfl (fun c5 => ?_) (fun _ => Sn)
      refine SsJ (ri_up u_I_15 (rfl : ((12 : Nat) : Int) = 12) (rfl : Ui (0) (0))) (fun I_20 I_20' u_I_20 => ?_)
      exact Sr ⟨u_I_20, u_L0_5⟩
    exact Sn
set_option maxHeartbeats 4000000 in
set_option maxRecDepth 100000 in
def kf_38 : Nat → Nat → EN → Nat → JI → JI → Int → Option (Int × JI × JI)
  | 0, _, _, _, _, _, _ => none
  | n + 1, dp, e, lab, I, L, i0 =>
    if lab = 0 then (if i0 < 97 then (some ((0 : Int), I, L)) else (if 122 < i0 then (some ((0 : Int), I, L)) else (some ((1 : Int), I, L))))
    else none
set_option maxRecDepth 100000 in
theorem ke_38_0 (n : Nat) (dp : Nat) (e : EN) (I : JI) (L : JI) (i0 : Int) : kf_38 (n + 1) dp e 0 I L i0 = (if i0 < 97 then (some ((0 : Int), I, L)) else (if 122 < i0 then (some ((0 : Int), I, L)) else (some ((1 : Int), I, L)))) := by rw [kf_38.eq_2, if_pos (show (0 : Nat) = 0 from rfl)]
set_option maxHeartbeats 8000000 in
set_option maxRecDepth 100000 in
theorem ks_38 : ∀ (n : Nat) (dp : Nat) (e : EN) (lab : Nat) (I : Nat → Nat → Int32) (I' : JI) (L : Nat → Nat → Int64) (L' : JI) (i0 : Int32) (i0' : Int), Rli I I' → Rll L L' → Ui i0 i0' → Sim R3 (g_38 n dp e lab I L i0) (kf_38 n dp e lab I' L' i0') := by
  intro n
  induction n with
  | zero => intros; rw [kf_38.eq_1]; exact Sn
  | succ n ih =>
    intro dp e lab I I' L L' i0 i0' u_I u_L u_i0
    rw [g_38.eq_2, kf_38.eq_2]
    refine Sc Iff.rfl (fun _ => ?_) (fun _ => ?_)
    · refine Sc (lt_up u_i0 (rfl : Ui (97) (97))) (fun c1 => ?_) (fun c1 => ?_)
      · exact Sr ⟨(rfl : Ui (0) (0)), u_I, u_L⟩
      · refine Sc (lt_up (rfl : Ui (122) (122)) u_i0) (fun c2 => ?_) (fun c2 => ?_)
        · exact Sr ⟨(rfl : Ui (0) (0)), u_I, u_L⟩
        · exact Sr ⟨(rfl : Ui (1) (1)), u_I, u_L⟩
    exact Sn
set_option maxHeartbeats 4000000 in
set_option maxRecDepth 100000 in
def kf_39 : Nat → Nat → EN → Nat → JI → JI → Int → Option (Int × JI × JI)
  | 0, _, _, _, _, _, _ => none
  | n + 1, dp, e, lab, I, L, i0 =>
    if lab = 0 then (if i0 < 48 then (some ((0 : Int), I, L)) else (if 57 < i0 then (some ((0 : Int), I, L)) else (some ((1 : Int), I, L))))
    else none
set_option maxRecDepth 100000 in
theorem ke_39_0 (n : Nat) (dp : Nat) (e : EN) (I : JI) (L : JI) (i0 : Int) : kf_39 (n + 1) dp e 0 I L i0 = (if i0 < 48 then (some ((0 : Int), I, L)) else (if 57 < i0 then (some ((0 : Int), I, L)) else (some ((1 : Int), I, L)))) := by rw [kf_39.eq_2, if_pos (show (0 : Nat) = 0 from rfl)]
set_option maxHeartbeats 8000000 in
set_option maxRecDepth 100000 in
theorem ks_39 : ∀ (n : Nat) (dp : Nat) (e : EN) (lab : Nat) (I : Nat → Nat → Int32) (I' : JI) (L : Nat → Nat → Int64) (L' : JI) (i0 : Int32) (i0' : Int), Rli I I' → Rll L L' → Ui i0 i0' → Sim R3 (g_39 n dp e lab I L i0) (kf_39 n dp e lab I' L' i0') := by
  intro n
  induction n with
  | zero => intros; rw [kf_39.eq_1]; exact Sn
  | succ n ih =>
    intro dp e lab I I' L L' i0 i0' u_I u_L u_i0
    rw [g_39.eq_2, kf_39.eq_2]
    refine Sc Iff.rfl (fun _ => ?_) (fun _ => ?_)
    · refine Sc (lt_up u_i0 (rfl : Ui (48) (48))) (fun c1 => ?_) (fun c1 => ?_)
      · exact Sr ⟨(rfl : Ui (0) (0)), u_I, u_L⟩
      · refine Sc (lt_up (rfl : Ui (57) (57)) u_i0) (fun c2 => ?_) (fun c2 => ?_)
        · exact Sr ⟨(rfl : Ui (0) (0)), u_I, u_L⟩
        · exact Sr ⟨(rfl : Ui (1) (1)), u_I, u_L⟩
    exact Sn
set_option maxHeartbeats 4000000 in
set_option maxRecDepth 100000 in
def kf_37 : Nat → Nat → EN → Nat → JI → JI → Int → Option (JI × JI)
  | 0, _, _, _, _, _, _ => none
  | n + 1, dp, e, lab, I, L, i1 =>
    if lab = 0 then (kf_37 n dp e 1 I L (I 104 5))
    else if lab = 1 then (if (I 104 2) ≤ i1 then (kf_37 n dp e 2 I L i1) else (if 0 ≤ i1 ∧ i1 < 400 then (if (I 89 i1) = 32 then (if -2147483648 ≤ i1 + 1 ∧ i1 + 1 ≤ 2147483647 then (kf_37 n dp e 1 I L (i1 + 1)) else none) else (kf_37 n dp e 2 I L i1)) else none))
    else if lab = 2 then (stI (w2 I 104 4 i1) (fun I_32 => (if i1 < (I_32 104 2) then (if 0 ≤ i1 ∧ i1 < 400 then (if 1 ≤ dp then ((kf_38 n (dp - 1) e 0 I_32 L (I_32 89 i1)).bind (fun ⟨x0_57, I0_57, L0_57⟩ => (if x0_57 = 0 then (if 0 ≤ i1 ∧ i1 < 400 then (if 1 ≤ dp then ((kf_39 n (dp - 1) e 0 I0_57 L0_57 (I0_57 89 i1)).bind (fun ⟨x1_100, I1_100, L1_100⟩ => (if x1_100 = 0 then (stI (w2 I1_100 104 3 3) (fun I_170 => (if -2147483648 ≤ i1 + 1 ∧ i1 + 1 ≤ 2147483647 then (stI (w2 I_170 104 5 (i1 + 1)) (fun I_178 => (some (I_178, L1_100)))) else none))) else (stI (w2 I1_100 104 3 2) (fun I_108 => (stI (w2 I_108 104 6 0) (fun I_113 => (kf_37 n dp e 4 I_113 L1_100 i1)))))))) else none) else none) else (stI (w2 I0_57 104 3 1) (fun I_65 => (kf_37 n dp e 3 I_65 L0_57 i1)))))) else none) else none) else (stI (w2 I_32 104 3 0) (fun I_45 => (stI (w2 I_45 104 5 i1) (fun I_178 => (some (I_178, L)))))))))
    else if lab = 3 then (if (I 104 2) ≤ i1 then (stI (w2 I 104 5 i1) (fun I_178 => (some (I_178, L)))) else (if 0 ≤ i1 ∧ i1 < 400 then (if 1 ≤ dp then ((kf_38 n (dp - 1) e 0 I L (I 89 i1)).bind (fun ⟨x0_82, I0_82, L0_82⟩ => (if x0_82 = 0 then (stI (w2 I0_82 104 5 i1) (fun I_178 => (some (I_178, L0_82)))) else (if -2147483648 ≤ i1 + 1 ∧ i1 + 1 ≤ 2147483647 then (kf_37 n dp e 3 I0_82 L0_82 (i1 + 1)) else none)))) else none) else none))
    else if lab = 4 then (if (I 104 2) ≤ i1 then (stI (w2 I 104 5 i1) (fun I_178 => (some (I_178, L)))) else (if 0 ≤ i1 ∧ i1 < 400 then (if 1 ≤ dp then ((kf_39 n (dp - 1) e 0 I L (I 89 i1)).bind (fun ⟨x0_130, I0_130, L0_130⟩ => (if x0_130 = 0 then (stI (w2 I0_130 104 5 i1) (fun I_178 => (some (I_178, L0_130)))) else (if 0 ≤ i1 ∧ i1 < 400 then (if 1 ≤ dp then (if (-2147483648 ≤ (I0_130 104 6) * 10 ∧ (I0_130 104 6) * 10 ≤ 2147483647) ∧ (-2147483648 ≤ ((I0_130 104 6) * 10) + (I0_130 89 i1) ∧ ((I0_130 104 6) * 10) + (I0_130 89 i1) ≤ 2147483647) ∧ (-2147483648 ≤ (((I0_130 104 6) * 10) + (I0_130 89 i1)) - 48 ∧ (((I0_130 104 6) * 10) + (I0_130 89 i1)) - 48 ≤ 2147483647) then (stI (w2 I0_130 104 6 (min ((((I0_130 104 6) * 10) + (I0_130 89 i1)) - 48) 100000)) (fun I_159 => (if -2147483648 ≤ i1 + 1 ∧ i1 + 1 ≤ 2147483647 then (kf_37 n dp e 4 I_159 L0_130 (i1 + 1)) else none))) else none) else none) else none)))) else none) else none))
    else none
set_option maxRecDepth 100000 in
theorem ke_37_0 (n : Nat) (dp : Nat) (e : EN) (I : JI) (L : JI) (i1 : Int) : kf_37 (n + 1) dp e 0 I L i1 = (kf_37 n dp e 1 I L (I 104 5)) := by rw [kf_37.eq_2, if_pos (show (0 : Nat) = 0 from rfl)]
set_option maxRecDepth 100000 in
theorem ke_37_1 (n : Nat) (dp : Nat) (e : EN) (I : JI) (L : JI) (i1 : Int) : kf_37 (n + 1) dp e 1 I L i1 = (if (I 104 2) ≤ i1 then (kf_37 n dp e 2 I L i1) else (if 0 ≤ i1 ∧ i1 < 400 then (if (I 89 i1) = 32 then (if -2147483648 ≤ i1 + 1 ∧ i1 + 1 ≤ 2147483647 then (kf_37 n dp e 1 I L (i1 + 1)) else none) else (kf_37 n dp e 2 I L i1)) else none)) := by rw [kf_37.eq_2, if_neg (show ¬ ((1 : Nat) = 0) by decide), if_pos (show (1 : Nat) = 1 from rfl)]
set_option maxRecDepth 100000 in
theorem ke_37_2 (n : Nat) (dp : Nat) (e : EN) (I : JI) (L : JI) (i1 : Int) : kf_37 (n + 1) dp e 2 I L i1 = (stI (w2 I 104 4 i1) (fun I_32 => (if i1 < (I_32 104 2) then (if 0 ≤ i1 ∧ i1 < 400 then (if 1 ≤ dp then ((kf_38 n (dp - 1) e 0 I_32 L (I_32 89 i1)).bind (fun ⟨x0_57, I0_57, L0_57⟩ => (if x0_57 = 0 then (if 0 ≤ i1 ∧ i1 < 400 then (if 1 ≤ dp then ((kf_39 n (dp - 1) e 0 I0_57 L0_57 (I0_57 89 i1)).bind (fun ⟨x1_100, I1_100, L1_100⟩ => (if x1_100 = 0 then (stI (w2 I1_100 104 3 3) (fun I_170 => (if -2147483648 ≤ i1 + 1 ∧ i1 + 1 ≤ 2147483647 then (stI (w2 I_170 104 5 (i1 + 1)) (fun I_178 => (some (I_178, L1_100)))) else none))) else (stI (w2 I1_100 104 3 2) (fun I_108 => (stI (w2 I_108 104 6 0) (fun I_113 => (kf_37 n dp e 4 I_113 L1_100 i1)))))))) else none) else none) else (stI (w2 I0_57 104 3 1) (fun I_65 => (kf_37 n dp e 3 I_65 L0_57 i1)))))) else none) else none) else (stI (w2 I_32 104 3 0) (fun I_45 => (stI (w2 I_45 104 5 i1) (fun I_178 => (some (I_178, L))))))))) := by rw [kf_37.eq_2, if_neg (show ¬ ((2 : Nat) = 0) by decide), if_neg (show ¬ ((2 : Nat) = 1) by decide), if_pos (show (2 : Nat) = 2 from rfl)]
set_option maxRecDepth 100000 in
theorem ke_37_3 (n : Nat) (dp : Nat) (e : EN) (I : JI) (L : JI) (i1 : Int) : kf_37 (n + 1) dp e 3 I L i1 = (if (I 104 2) ≤ i1 then (stI (w2 I 104 5 i1) (fun I_178 => (some (I_178, L)))) else (if 0 ≤ i1 ∧ i1 < 400 then (if 1 ≤ dp then ((kf_38 n (dp - 1) e 0 I L (I 89 i1)).bind (fun ⟨x0_82, I0_82, L0_82⟩ => (if x0_82 = 0 then (stI (w2 I0_82 104 5 i1) (fun I_178 => (some (I_178, L0_82)))) else (if -2147483648 ≤ i1 + 1 ∧ i1 + 1 ≤ 2147483647 then (kf_37 n dp e 3 I0_82 L0_82 (i1 + 1)) else none)))) else none) else none)) := by rw [kf_37.eq_2, if_neg (show ¬ ((3 : Nat) = 0) by decide), if_neg (show ¬ ((3 : Nat) = 1) by decide), if_neg (show ¬ ((3 : Nat) = 2) by decide), if_pos (show (3 : Nat) = 3 from rfl)]
set_option maxRecDepth 100000 in
theorem ke_37_4 (n : Nat) (dp : Nat) (e : EN) (I : JI) (L : JI) (i1 : Int) : kf_37 (n + 1) dp e 4 I L i1 = (if (I 104 2) ≤ i1 then (stI (w2 I 104 5 i1) (fun I_178 => (some (I_178, L)))) else (if 0 ≤ i1 ∧ i1 < 400 then (if 1 ≤ dp then ((kf_39 n (dp - 1) e 0 I L (I 89 i1)).bind (fun ⟨x0_130, I0_130, L0_130⟩ => (if x0_130 = 0 then (stI (w2 I0_130 104 5 i1) (fun I_178 => (some (I_178, L0_130)))) else (if 0 ≤ i1 ∧ i1 < 400 then (if 1 ≤ dp then (if (-2147483648 ≤ (I0_130 104 6) * 10 ∧ (I0_130 104 6) * 10 ≤ 2147483647) ∧ (-2147483648 ≤ ((I0_130 104 6) * 10) + (I0_130 89 i1) ∧ ((I0_130 104 6) * 10) + (I0_130 89 i1) ≤ 2147483647) ∧ (-2147483648 ≤ (((I0_130 104 6) * 10) + (I0_130 89 i1)) - 48 ∧ (((I0_130 104 6) * 10) + (I0_130 89 i1)) - 48 ≤ 2147483647) then (stI (w2 I0_130 104 6 (min ((((I0_130 104 6) * 10) + (I0_130 89 i1)) - 48) 100000)) (fun I_159 => (if -2147483648 ≤ i1 + 1 ∧ i1 + 1 ≤ 2147483647 then (kf_37 n dp e 4 I_159 L0_130 (i1 + 1)) else none))) else none) else none) else none)))) else none) else none)) := by rw [kf_37.eq_2, if_neg (show ¬ ((4 : Nat) = 0) by decide), if_neg (show ¬ ((4 : Nat) = 1) by decide), if_neg (show ¬ ((4 : Nat) = 2) by decide), if_neg (show ¬ ((4 : Nat) = 3) by decide), if_pos (show (4 : Nat) = 4 from rfl)]
set_option maxHeartbeats 8000000 in
set_option maxRecDepth 100000 in
theorem ks_37 : ∀ (n : Nat) (dp : Nat) (e : EN) (lab : Nat) (I : Nat → Nat → Int32) (I' : JI) (L : Nat → Nat → Int64) (L' : JI) (i1 : Int32) (i1' : Int), Rli I I' → Rll L L' → Ui i1 i1' → Sim R2 (g_37 n dp e lab I L i1) (kf_37 n dp e lab I' L' i1') := by
  intro n
  induction n with
  | zero => intros; rw [kf_37.eq_1]; exact Sn
  | succ n ih =>
    intro dp e lab I I' L L' i1 i1' u_I u_L u_i1
    rw [g_37.eq_2, kf_37.eq_2]
    refine Sc Iff.rfl (fun _ => ?_) (fun _ => ?_)
    · exact (ih dp e 1 _ _ _ _ _ _ u_I u_L (u_I 104 5))
    refine Sc Iff.rfl (fun _ => ?_) (fun _ => ?_)
    · refine Sc (le_up (u_I 104 2) u_i1) (fun c1 => ?_) (fun c1 => ?_)
      · exact (ih dp e 2 _ _ _ _ _ _ u_I u_L u_i1)
      · refine Sc (ix_up u_i1) (fun c2 => ?_) (fun _ => Sn)
        refine Sc (eq_up (ui_rd (a := 89) u_I u_i1 c2.1) (rfl : Ui (32) (32))) (fun c3 => ?_) (fun c3 => ?_)
        · refine Sg (fun g4 => ?_)
          exact (ih dp e 1 _ _ _ _ _ _ u_I u_L (ui_add u_i1 (rfl : Ui (Int32.ofInt (1)) (1)) g4))
        · exact (ih dp e 2 _ _ _ _ _ _ u_I u_L u_i1)
    refine Sc Iff.rfl (fun _ => ?_) (fun _ => ?_)
    · refine SsJ (ri_up u_I (rfl : ((4 : Nat) : Int) = 4) u_i1) (fun I_32 I_32' u_I_32 => ?_)
      refine Sc (lt_up u_i1 (u_I_32 104 2)) (fun c1 => ?_) (fun c1 => ?_)
      · refine Sc (ix_up u_i1) (fun c2 => ?_) (fun _ => Sn)
        refine Sc Iff.rfl (fun c3 => ?_) (fun _ => Sn)
        refine Sb3 (ks_38 n (dp - 1) e 0 _ _ _ _ _ _ u_I_32 u_L (ui_rd (a := 89) u_I_32 u_i1 c2.1)) (fun x0_57 x0_57' I0_57 I0_57' L0_57 L0_57' u_x0_57 u_I0_57 u_L0_57 => ?_)
        refine Sc (eq_up u_x0_57 (rfl : Ui 0 0)) (fun c4 => ?_) (fun c4 => ?_)
        · refine Sc (ix_up u_i1) (fun c5 => ?_) (fun _ => Sn)
          refine Sc Iff.rfl (fun c6 => ?_) (fun _ => Sn)
          refine Sb3 (ks_39 n (dp - 1) e 0 _ _ _ _ _ _ u_I0_57 u_L0_57 (ui_rd (a := 89) u_I0_57 u_i1 c5.1)) (fun x1_100 x1_100' I1_100 I1_100' L1_100 L1_100' u_x1_100 u_I1_100 u_L1_100 => ?_)
          refine Sc (eq_up u_x1_100 (rfl : Ui 0 0)) (fun c7 => ?_) (fun c7 => ?_)
          · refine SsJ (ri_up u_I1_100 (rfl : ((3 : Nat) : Int) = 3) (rfl : Ui (3) (3))) (fun I_170 I_170' u_I_170 => ?_)
            refine Sg (fun g8 => ?_)
            refine SsJ (ri_up u_I_170 (rfl : ((5 : Nat) : Int) = 5) (ui_add u_i1 (rfl : Ui (Int32.ofInt (1)) (1)) g8)) (fun I_178 I_178' u_I_178 => ?_)
            exact Sr ⟨u_I_178, u_L1_100⟩
          · refine SsJ (ri_up u_I1_100 (rfl : ((3 : Nat) : Int) = 3) (rfl : Ui (2) (2))) (fun I_108 I_108' u_I_108 => ?_)
            refine SsJ (ri_up u_I_108 (rfl : ((6 : Nat) : Int) = 6) (rfl : Ui (0) (0))) (fun I_113 I_113' u_I_113 => ?_)
            exact (ih dp e 4 _ _ _ _ _ _ u_I_113 u_L1_100 u_i1)
        · refine SsJ (ri_up u_I0_57 (rfl : ((3 : Nat) : Int) = 3) (rfl : Ui (1) (1))) (fun I_65 I_65' u_I_65 => ?_)
          exact (ih dp e 3 _ _ _ _ _ _ u_I_65 u_L0_57 u_i1)
      · refine SsJ (ri_up u_I_32 (rfl : ((3 : Nat) : Int) = 3) (rfl : Ui (0) (0))) (fun I_45 I_45' u_I_45 => ?_)
        refine SsJ (ri_up u_I_45 (rfl : ((5 : Nat) : Int) = 5) u_i1) (fun I_178 I_178' u_I_178 => ?_)
        exact Sr ⟨u_I_178, u_L⟩
    refine Sc Iff.rfl (fun _ => ?_) (fun _ => ?_)
    · refine Sc (le_up (u_I 104 2) u_i1) (fun c1 => ?_) (fun c1 => ?_)
      · refine SsJ (ri_up u_I (rfl : ((5 : Nat) : Int) = 5) u_i1) (fun I_178 I_178' u_I_178 => ?_)
        exact Sr ⟨u_I_178, u_L⟩
      · refine Sc (ix_up u_i1) (fun c2 => ?_) (fun _ => Sn)
        refine Sc Iff.rfl (fun c3 => ?_) (fun _ => Sn)
        refine Sb3 (ks_38 n (dp - 1) e 0 _ _ _ _ _ _ u_I u_L (ui_rd (a := 89) u_I u_i1 c2.1)) (fun x0_82 x0_82' I0_82 I0_82' L0_82 L0_82' u_x0_82 u_I0_82 u_L0_82 => ?_)
        refine Sc (eq_up u_x0_82 (rfl : Ui 0 0)) (fun c4 => ?_) (fun c4 => ?_)
        · refine SsJ (ri_up u_I0_82 (rfl : ((5 : Nat) : Int) = 5) u_i1) (fun I_178 I_178' u_I_178 => ?_)
          exact Sr ⟨u_I_178, u_L0_82⟩
        · refine Sg (fun g5 => ?_)
          exact (ih dp e 3 _ _ _ _ _ _ u_I0_82 u_L0_82 (ui_add u_i1 (rfl : Ui (Int32.ofInt (1)) (1)) g5))
    refine Sc Iff.rfl (fun _ => ?_) (fun _ => ?_)
    · refine Sc (le_up (u_I 104 2) u_i1) (fun c1 => ?_) (fun c1 => ?_)
      · refine SsJ (ri_up u_I (rfl : ((5 : Nat) : Int) = 5) u_i1) (fun I_178 I_178' u_I_178 => ?_)
        exact Sr ⟨u_I_178, u_L⟩
      · refine Sc (ix_up u_i1) (fun c2 => ?_) (fun _ => Sn)
        refine Sc Iff.rfl (fun c3 => ?_) (fun _ => Sn)
        refine Sb3 (ks_39 n (dp - 1) e 0 _ _ _ _ _ _ u_I u_L (ui_rd (a := 89) u_I u_i1 c2.1)) (fun x0_130 x0_130' I0_130 I0_130' L0_130 L0_130' u_x0_130 u_I0_130 u_L0_130 => ?_)
        refine Sc (eq_up u_x0_130 (rfl : Ui 0 0)) (fun c4 => ?_) (fun c4 => ?_)
        · refine SsJ (ri_up u_I0_130 (rfl : ((5 : Nat) : Int) = 5) u_i1) (fun I_178 I_178' u_I_178 => ?_)
          exact Sr ⟨u_I_178, u_L0_130⟩
        · refine Sc (ix_up u_i1) (fun c5 => ?_) (fun _ => Sn)
          refine Sc Iff.rfl (fun c6 => ?_) (fun _ => Sn)
          refine Sg (fun g7 => ?_)
          refine SsJ (ri_up u_I0_130 (rfl : ((6 : Nat) : Int) = 6) (ui_min (ui_sub (ui_add (ui_mul (u_I0_130 104 6) (rfl : Ui (10) (10)) g7.1) (ui_rd (a := 89) u_I0_130 u_i1 c5.1) g7.2.1) (rfl : Ui (48) (48)) g7.2.2) (rfl : Ui (100000) (100000)))) (fun I_159 I_159' u_I_159 => ?_)
          refine Sg (fun g8 => ?_)
          exact (ih dp e 4 _ _ _ _ _ _ u_I_159 u_L0_130 (ui_add u_i1 (rfl : Ui (Int32.ofInt (1)) (1)) g8))
    exact Sn
set_option maxHeartbeats 4000000 in
set_option maxRecDepth 100000 in
def kf_54 : Nat → Nat → EN → Nat → JI → JI → Int → Int → Option (Int × JI × JI)
  | 0, _, _, _, _, _, _, _ => none
  | n + 1, dp, e, lab, I, L, i1, i2 =>
    if lab = 0 then (if (I 104 3) = 2 then (if (I 104 6) < i1 then (some ((0 : Int), I, L)) else (if i2 < (I 104 6) then (some ((0 : Int), I, L)) else (some ((1 : Int), I, L)))) else (some ((0 : Int), I, L)))
    else none
set_option maxRecDepth 100000 in
theorem ke_54_0 (n : Nat) (dp : Nat) (e : EN) (I : JI) (L : JI) (i1 : Int) (i2 : Int) : kf_54 (n + 1) dp e 0 I L i1 i2 = (if (I 104 3) = 2 then (if (I 104 6) < i1 then (some ((0 : Int), I, L)) else (if i2 < (I 104 6) then (some ((0 : Int), I, L)) else (some ((1 : Int), I, L)))) else (some ((0 : Int), I, L))) := by rw [kf_54.eq_2, if_pos (show (0 : Nat) = 0 from rfl)]
set_option maxHeartbeats 8000000 in
set_option maxRecDepth 100000 in
theorem ks_54 : ∀ (n : Nat) (dp : Nat) (e : EN) (lab : Nat) (I : Nat → Nat → Int32) (I' : JI) (L : Nat → Nat → Int64) (L' : JI) (i1 : Int32) (i1' : Int) (i2 : Int32) (i2' : Int), Rli I I' → Rll L L' → Ui i1 i1' → Ui i2 i2' → Sim R3 (g_54 n dp e lab I L i1 i2) (kf_54 n dp e lab I' L' i1' i2') := by
  intro n
  induction n with
  | zero => intros; rw [kf_54.eq_1]; exact Sn
  | succ n ih =>
    intro dp e lab I I' L L' i1 i1' i2 i2' u_I u_L u_i1 u_i2
    rw [g_54.eq_2, kf_54.eq_2]
    refine Sc Iff.rfl (fun _ => ?_) (fun _ => ?_)
    · refine Sc (eq_up (u_I 104 3) (rfl : Ui (2) (2))) (fun c1 => ?_) (fun c1 => ?_)
      · refine Sc (lt_up (u_I 104 6) u_i1) (fun c2 => ?_) (fun c2 => ?_)
        · exact Sr ⟨(rfl : Ui (0) (0)), u_I, u_L⟩
        · refine Sc (lt_up u_i2 (u_I 104 6)) (fun c3 => ?_) (fun c3 => ?_)
          · exact Sr ⟨(rfl : Ui (0) (0)), u_I, u_L⟩
          · exact Sr ⟨(rfl : Ui (1) (1)), u_I, u_L⟩
      · exact Sr ⟨(rfl : Ui (0) (0)), u_I, u_L⟩
    exact Sn
set_option maxHeartbeats 4000000 in
set_option maxRecDepth 100000 in
def kf_55 : Nat → Nat → EN → Nat → JI → JI → Int → Option (Int × JI × JI)
  | 0, _, _, _, _, _, _ => none
  | n + 1, dp, e, lab, I, L, i1 =>
    if lab = 0 then (if 1 ≤ dp then ((kf_37 n (dp - 1) e 0 I L 0).bind (fun ⟨I0_1, L0_1⟩ => (if 1 ≤ dp then ((kf_54 n (dp - 1) e 0 I0_1 L0_1 1 9).bind (fun ⟨x1_8, I1_8, L1_8⟩ => (if x1_8 = 0 then (some ((0 : Int), I1_8, L1_8)) else (if 1 ≤ dp then ((kf_37 n (dp - 1) e 0 I1_8 L1_8 0).bind (fun ⟨I2_22, L2_22⟩ => ((e.2.2 104 1).bind (fun b_27 => (if (b_27 < e.1) ∧ ((e.2.1 b_27).1 = 10) then ((e.2.2 b_27 5).bind (fun b_30 => (if ((b_30 < e.1) ∧ (((e.2.1 b_30).1 = 13) ∧ ((e.2.1 b_30).2 < (2 ^ 31)))) ∧ (0 ≤ i1 ∧ i1 < (((e.2.1 b_30).2 : Nat) : Int)) then (if 1 ≤ dp then (if -2147483648 ≤ (I2_22 b_30 i1) + 1 ∧ (I2_22 b_30 i1) + 1 ≤ 2147483647 then ((kf_54 n (dp - 1) e 0 I2_22 L2_22 ((I2_22 b_30 i1) + 1) 9).bind (fun ⟨x3_39, I3_39, L3_39⟩ => (if x3_39 = 0 then (some ((0 : Int), I3_39, L3_39)) else ((e.2.2 104 1).bind (fun b_48 => (if (b_48 < e.1) ∧ ((e.2.1 b_48).1 = 10) then ((e.2.2 b_48 7).bind (fun b_51 => (if (-2147483648 ≤ i1 * 10 ∧ i1 * 10 ≤ 2147483647) ∧ (-2147483648 ≤ (i1 * 10) + (I3_39 104 6) ∧ (i1 * 10) + (I3_39 104 6) ≤ 2147483647) then (if ((b_51 < e.1) ∧ (((e.2.1 b_51).1 = 13) ∧ ((e.2.1 b_51).2 < (2 ^ 31)))) ∧ (0 ≤ ((i1 * 10) + (I3_39 104 6)) ∧ ((i1 * 10) + (I3_39 104 6)) < (((e.2.1 b_51).2 : Nat) : Int)) then (if ((b_51 < e.1) ∧ (((e.2.1 b_51).1 = 13) ∧ ((e.2.1 b_51).2 < (2 ^ 31)))) ∧ (0 ≤ ((i1 * 10) + (I3_39 104 6)) ∧ ((i1 * 10) + (I3_39 104 6)) < (((e.2.1 b_51).2 : Nat) : Int)) then (if -2147483648 ≤ (I3_39 b_51 ((i1 * 10) + (I3_39 104 6))) + (I1_8 104 6) ∧ (I3_39 b_51 ((i1 * 10) + (I3_39 104 6))) + (I1_8 104 6) ≤ 2147483647 then (stI (w2 I3_39 b_51 ((i1 * 10) + (I3_39 104 6)) ((I3_39 b_51 ((i1 * 10) + (I3_39 104 6))) + (I1_8 104 6))) (fun I_67 => (if 1 ≤ dp then ((kf_37 n (dp - 1) e 0 I_67 L3_39 0).bind (fun ⟨I4_69, L4_69⟩ => (some ((1 : Int), I4_69, L4_69)))) else none))) else none) else none) else none) else none))) else none)))))) else none) else none) else none))) else none))))) else none)))) else none))) else none)
    else none
set_option maxRecDepth 100000 in
theorem ke_55_0 (n : Nat) (dp : Nat) (e : EN) (I : JI) (L : JI) (i1 : Int) : kf_55 (n + 1) dp e 0 I L i1 = (if 1 ≤ dp then ((kf_37 n (dp - 1) e 0 I L 0).bind (fun ⟨I0_1, L0_1⟩ => (if 1 ≤ dp then ((kf_54 n (dp - 1) e 0 I0_1 L0_1 1 9).bind (fun ⟨x1_8, I1_8, L1_8⟩ => (if x1_8 = 0 then (some ((0 : Int), I1_8, L1_8)) else (if 1 ≤ dp then ((kf_37 n (dp - 1) e 0 I1_8 L1_8 0).bind (fun ⟨I2_22, L2_22⟩ => ((e.2.2 104 1).bind (fun b_27 => (if (b_27 < e.1) ∧ ((e.2.1 b_27).1 = 10) then ((e.2.2 b_27 5).bind (fun b_30 => (if ((b_30 < e.1) ∧ (((e.2.1 b_30).1 = 13) ∧ ((e.2.1 b_30).2 < (2 ^ 31)))) ∧ (0 ≤ i1 ∧ i1 < (((e.2.1 b_30).2 : Nat) : Int)) then (if 1 ≤ dp then (if -2147483648 ≤ (I2_22 b_30 i1) + 1 ∧ (I2_22 b_30 i1) + 1 ≤ 2147483647 then ((kf_54 n (dp - 1) e 0 I2_22 L2_22 ((I2_22 b_30 i1) + 1) 9).bind (fun ⟨x3_39, I3_39, L3_39⟩ => (if x3_39 = 0 then (some ((0 : Int), I3_39, L3_39)) else ((e.2.2 104 1).bind (fun b_48 => (if (b_48 < e.1) ∧ ((e.2.1 b_48).1 = 10) then ((e.2.2 b_48 7).bind (fun b_51 => (if (-2147483648 ≤ i1 * 10 ∧ i1 * 10 ≤ 2147483647) ∧ (-2147483648 ≤ (i1 * 10) + (I3_39 104 6) ∧ (i1 * 10) + (I3_39 104 6) ≤ 2147483647) then (if ((b_51 < e.1) ∧ (((e.2.1 b_51).1 = 13) ∧ ((e.2.1 b_51).2 < (2 ^ 31)))) ∧ (0 ≤ ((i1 * 10) + (I3_39 104 6)) ∧ ((i1 * 10) + (I3_39 104 6)) < (((e.2.1 b_51).2 : Nat) : Int)) then (if ((b_51 < e.1) ∧ (((e.2.1 b_51).1 = 13) ∧ ((e.2.1 b_51).2 < (2 ^ 31)))) ∧ (0 ≤ ((i1 * 10) + (I3_39 104 6)) ∧ ((i1 * 10) + (I3_39 104 6)) < (((e.2.1 b_51).2 : Nat) : Int)) then (if -2147483648 ≤ (I3_39 b_51 ((i1 * 10) + (I3_39 104 6))) + (I1_8 104 6) ∧ (I3_39 b_51 ((i1 * 10) + (I3_39 104 6))) + (I1_8 104 6) ≤ 2147483647 then (stI (w2 I3_39 b_51 ((i1 * 10) + (I3_39 104 6)) ((I3_39 b_51 ((i1 * 10) + (I3_39 104 6))) + (I1_8 104 6))) (fun I_67 => (if 1 ≤ dp then ((kf_37 n (dp - 1) e 0 I_67 L3_39 0).bind (fun ⟨I4_69, L4_69⟩ => (some ((1 : Int), I4_69, L4_69)))) else none))) else none) else none) else none) else none))) else none)))))) else none) else none) else none))) else none))))) else none)))) else none))) else none) := by rw [kf_55.eq_2, if_pos (show (0 : Nat) = 0 from rfl)]
set_option maxHeartbeats 8000000 in
set_option maxRecDepth 100000 in
theorem ks_55 : ∀ (n : Nat) (dp : Nat) (e : EN) (lab : Nat) (I : Nat → Nat → Int32) (I' : JI) (L : Nat → Nat → Int64) (L' : JI) (i1 : Int32) (i1' : Int), Rli I I' → Rll L L' → Ui i1 i1' → Sim R3 (g_55 n dp e lab I L i1) (kf_55 n dp e lab I' L' i1') := by
  intro n
  induction n with
  | zero => intros; rw [kf_55.eq_1]; exact Sn
  | succ n ih =>
    intro dp e lab I I' L L' i1 i1' u_I u_L u_i1
    rw [g_55.eq_2, kf_55.eq_2]
    refine Sc Iff.rfl (fun _ => ?_) (fun _ => ?_)
    · refine Sc Iff.rfl (fun c1 => ?_) (fun _ => Sn)
      refine Sb2 (ks_37 n (dp - 1) e 0 _ _ _ _ _ _ u_I u_L (rfl : Ui 0 0)) (fun I0_1 I0_1' L0_1 L0_1' u_I0_1 u_L0_1 => ?_)
      refine Sc Iff.rfl (fun c2 => ?_) (fun _ => Sn)
      refine Sb3 (ks_54 n (dp - 1) e 0 _ _ _ _ _ _ _ _ u_I0_1 u_L0_1 (rfl : Ui (1) (1)) (rfl : Ui (9) (9))) (fun x1_8 x1_8' I1_8 I1_8' L1_8 L1_8' u_x1_8 u_I1_8 u_L1_8 => ?_)
      refine Sc (eq_up u_x1_8 (rfl : Ui 0 0)) (fun c3 => ?_) (fun c3 => ?_)
      · exact Sr ⟨(rfl : Ui (0) (0)), u_I1_8, u_L1_8⟩
      · refine Sc Iff.rfl (fun c4 => ?_) (fun _ => Sn)
        refine Sb2 (ks_37 n (dp - 1) e 0 _ _ _ _ _ _ u_I1_8 u_L1_8 (rfl : Ui 0 0)) (fun I2_22 I2_22' L2_22 L2_22' u_I2_22 u_L2_22 => ?_)
        refine SbE rfl (fun b_27 => ?_)
        refine Sc Iff.rfl (fun c5 => ?_) (fun _ => Sn)
        refine SbE rfl (fun b_30 => ?_)
        refine Sc (and_congr Iff.rfl (ix_up u_i1)) (fun c6 => ?_) (fun _ => Sn)
        refine Sc Iff.rfl (fun c7 => ?_) (fun _ => Sn)
        refine Sg (fun g8 => ?_)
        refine Sb3 (ks_54 n (dp - 1) e 0 _ _ _ _ _ _ _ _ u_I2_22 u_L2_22 (ui_add (ui_rd (a := b_30) u_I2_22 u_i1 c6.2.1) (rfl : Ui (1) (1)) g8) (rfl : Ui (9) (9))) (fun x3_39 x3_39' I3_39 I3_39' L3_39 L3_39' u_x3_39 u_I3_39 u_L3_39 => ?_)
        refine Sc (eq_up u_x3_39 (rfl : Ui 0 0)) (fun c9 => ?_) (fun c9 => ?_)
        · exact Sr ⟨(rfl : Ui (0) (0)), u_I3_39, u_L3_39⟩
        · refine SbE rfl (fun b_48 => ?_)
          refine Sc Iff.rfl (fun c10 => ?_) (fun _ => Sn)
          refine SbE rfl (fun b_51 => ?_)
          refine Sg (fun g11 => ?_)
          refine Sc (and_congr Iff.rfl (ix_up (ui_add (ui_mul u_i1 (rfl : Ui (10) (10)) g11.1) (u_I3_39 104 6) g11.2))) (fun c12 => ?_) (fun _ => Sn)
          refine Sc (and_congr Iff.rfl (ix_up (ui_add (ui_mul u_i1 (rfl : Ui (10) (10)) g11.1) (u_I3_39 104 6) g11.2))) (fun c13 => ?_) (fun _ => Sn)
          refine Sg (fun g14 => ?_)
          refine SsJ (ri_up u_I3_39 (kc_up (ui_add (ui_mul u_i1 (rfl : Ui (10) (10)) g11.1) (u_I3_39 104 6) g11.2) c13.2.1) (ui_add (ui_rd (a := b_51) u_I3_39 (ui_add (ui_mul u_i1 (rfl : Ui (10) (10)) g11.1) (u_I3_39 104 6) g11.2) c13.2.1) (u_I1_8 104 6) g14)) (fun I_67 I_67' u_I_67 => ?_)
          refine Sc Iff.rfl (fun c15 => ?_) (fun _ => Sn)
          refine Sb2 (ks_37 n (dp - 1) e 0 _ _ _ _ _ _ u_I_67 u_L3_39 (rfl : Ui 0 0)) (fun I4_69 I4_69' L4_69 L4_69' u_I4_69 u_L4_69 => ?_)
          exact Sr ⟨(rfl : Ui (1) (1)), u_I4_69, u_L4_69⟩
    exact Sn
set_option maxHeartbeats 4000000 in
set_option maxRecDepth 100000 in
def kf_59 : Nat → Nat → EN → Nat → JI → JI → Int → Option (Int × JI × JI)
  | 0, _, _, _, _, _, _ => none
  | n + 1, dp, e, lab, I, L, i1 =>
    if lab = 0 then (if (I 104 3) = 3 then (if 0 ≤ (I 104 4) ∧ (I 104 4) < 400 then (if (I 89 (I 104 4)) = i1 then (some ((1 : Int), I, L)) else (some ((0 : Int), I, L))) else none) else (some ((0 : Int), I, L)))
    else none
set_option maxRecDepth 100000 in
theorem ke_59_0 (n : Nat) (dp : Nat) (e : EN) (I : JI) (L : JI) (i1 : Int) : kf_59 (n + 1) dp e 0 I L i1 = (if (I 104 3) = 3 then (if 0 ≤ (I 104 4) ∧ (I 104 4) < 400 then (if (I 89 (I 104 4)) = i1 then (some ((1 : Int), I, L)) else (some ((0 : Int), I, L))) else none) else (some ((0 : Int), I, L))) := by rw [kf_59.eq_2, if_pos (show (0 : Nat) = 0 from rfl)]
set_option maxHeartbeats 8000000 in
set_option maxRecDepth 100000 in
theorem ks_59 : ∀ (n : Nat) (dp : Nat) (e : EN) (lab : Nat) (I : Nat → Nat → Int32) (I' : JI) (L : Nat → Nat → Int64) (L' : JI) (i1 : Int32) (i1' : Int), Rli I I' → Rll L L' → Ui i1 i1' → Sim R3 (g_59 n dp e lab I L i1) (kf_59 n dp e lab I' L' i1') := by
  intro n
  induction n with
  | zero => intros; rw [kf_59.eq_1]; exact Sn
  | succ n ih =>
    intro dp e lab I I' L L' i1 i1' u_I u_L u_i1
    rw [g_59.eq_2, kf_59.eq_2]
    refine Sc Iff.rfl (fun _ => ?_) (fun _ => ?_)
    · refine Sc (eq_up (u_I 104 3) (rfl : Ui (3) (3))) (fun c1 => ?_) (fun c1 => ?_)
      · refine Sc (ix_up (u_I 104 4)) (fun c2 => ?_) (fun _ => Sn)
        refine Sc (eq_up (ui_rd (a := 89) u_I (u_I 104 4) c2.1) u_i1) (fun c3 => ?_) (fun c3 => ?_)
        · exact Sr ⟨(rfl : Ui (1) (1)), u_I, u_L⟩
        · exact Sr ⟨(rfl : Ui (0) (0)), u_I, u_L⟩
      · exact Sr ⟨(rfl : Ui (0) (0)), u_I, u_L⟩
    exact Sn
set_option maxHeartbeats 4000000 in
set_option maxRecDepth 100000 in
def kf_61 : Nat → Nat → EN → Nat → JI → JI → Int → Int → Nat → Option (Int × JI × JI)
  | 0, _, _, _, _, _, _, _, _ => none
  | n + 1, dp, e, lab, I, L, i1, i2, a0 =>
    if lab = 0 then (if (a0 < e.1) ∧ ((e.2.1 a0).1 = 10) then (if 1 ≤ dp then (stI (min 399 (I a0 12)) (fun v_10 => (if (a0 < e.1) ∧ ((e.2.1 a0).1 = 10) then ((e.2.2 a0 8).bind (fun b_12 => (if ((b_12 < e.1) ∧ (((e.2.1 b_12).1 = 13) ∧ ((e.2.1 b_12).2 < (2 ^ 31)))) ∧ (0 ≤ v_10 ∧ v_10 < (((e.2.1 b_12).2 : Nat) : Int)) then (stI (w2 I b_12 v_10 i1) (fun I_17 => (if (a0 < e.1) ∧ ((e.2.1 a0).1 = 10) then ((e.2.2 a0 9).bind (fun b_19 => (if ((b_19 < e.1) ∧ (((e.2.1 b_19).1 = 13) ∧ ((e.2.1 b_19).2 < (2 ^ 31)))) ∧ (0 ≤ v_10 ∧ v_10 < (((e.2.1 b_19).2 : Nat) : Int)) then (stI (w2 I_17 b_19 v_10 i2) (fun I_24 => (if (a0 < e.1) ∧ ((e.2.1 a0).1 = 10) then (if -2147483648 ≤ v_10 + 1 ∧ v_10 + 1 ≤ 2147483647 then (stI (w2 I_24 a0 12 (v_10 + 1)) (fun I_29 => (some ((v_10 : Int), I_29, L)))) else none) else none))) else none))) else none))) else none))) else none))) else none) else none)
    else none
set_option maxRecDepth 100000 in
theorem ke_61_0 (n : Nat) (dp : Nat) (e : EN) (I : JI) (L : JI) (i1 : Int) (i2 : Int) (a0 : Nat) : kf_61 (n + 1) dp e 0 I L i1 i2 a0 = (if (a0 < e.1) ∧ ((e.2.1 a0).1 = 10) then (if 1 ≤ dp then (stI (min 399 (I a0 12)) (fun v_10 => (if (a0 < e.1) ∧ ((e.2.1 a0).1 = 10) then ((e.2.2 a0 8).bind (fun b_12 => (if ((b_12 < e.1) ∧ (((e.2.1 b_12).1 = 13) ∧ ((e.2.1 b_12).2 < (2 ^ 31)))) ∧ (0 ≤ v_10 ∧ v_10 < (((e.2.1 b_12).2 : Nat) : Int)) then (stI (w2 I b_12 v_10 i1) (fun I_17 => (if (a0 < e.1) ∧ ((e.2.1 a0).1 = 10) then ((e.2.2 a0 9).bind (fun b_19 => (if ((b_19 < e.1) ∧ (((e.2.1 b_19).1 = 13) ∧ ((e.2.1 b_19).2 < (2 ^ 31)))) ∧ (0 ≤ v_10 ∧ v_10 < (((e.2.1 b_19).2 : Nat) : Int)) then (stI (w2 I_17 b_19 v_10 i2) (fun I_24 => (if (a0 < e.1) ∧ ((e.2.1 a0).1 = 10) then (if -2147483648 ≤ v_10 + 1 ∧ v_10 + 1 ≤ 2147483647 then (stI (w2 I_24 a0 12 (v_10 + 1)) (fun I_29 => (some ((v_10 : Int), I_29, L)))) else none) else none))) else none))) else none))) else none))) else none))) else none) else none) := by rw [kf_61.eq_2, if_pos (show (0 : Nat) = 0 from rfl)]
set_option maxHeartbeats 8000000 in
set_option maxRecDepth 100000 in
theorem ks_61 : ∀ (n : Nat) (dp : Nat) (e : EN) (lab : Nat) (I : Nat → Nat → Int32) (I' : JI) (L : Nat → Nat → Int64) (L' : JI) (i1 : Int32) (i1' : Int) (i2 : Int32) (i2' : Int) (a0 : Nat), Rli I I' → Rll L L' → Ui i1 i1' → Ui i2 i2' → Sim R3 (g_61 n dp e lab I L i1 i2 a0) (kf_61 n dp e lab I' L' i1' i2' a0) := by
  intro n
  induction n with
  | zero => intros; rw [kf_61.eq_1]; exact Sn
  | succ n ih =>
    intro dp e lab I I' L L' i1 i1' i2 i2' a0 u_I u_L u_i1 u_i2
    rw [g_61.eq_2, kf_61.eq_2]
    refine Sc Iff.rfl (fun _ => ?_) (fun _ => ?_)
    · refine Sc Iff.rfl (fun c1 => ?_) (fun _ => Sn)
      refine Sc Iff.rfl (fun c2 => ?_) (fun _ => Sn)
      refine SsI (ui_min (rfl : Ui (399) (399)) (u_I a0 12)) (fun v_10 v_10' u_v_10 => ?_)
      refine Sc Iff.rfl (fun c3 => ?_) (fun _ => Sn)
      refine SbE rfl (fun b_12 => ?_)
      refine Sc (and_congr Iff.rfl (ix_up u_v_10)) (fun c4 => ?_) (fun _ => Sn)
      refine SsJ (ri_up u_I (kc_up u_v_10 c4.2.1) u_i1) (fun I_17 I_17' u_I_17 => ?_)
      refine Sc Iff.rfl (fun c5 => ?_) (fun _ => Sn)
      refine SbE rfl (fun b_19 => ?_)
      refine Sc (and_congr Iff.rfl (ix_up u_v_10)) (fun c6 => ?_) (fun _ => Sn)
      refine SsJ (ri_up u_I_17 (kc_up u_v_10 c6.2.1) u_i2) (fun I_24 I_24' u_I_24 => ?_)
      refine Sc Iff.rfl (fun c7 => ?_) (fun _ => Sn)
      refine Sg (fun g8 => ?_)
      refine SsJ (ri_up u_I_24 (rfl : ((12 : Nat) : Int) = 12) (ui_add u_v_10 (rfl : Ui (1) (1)) g8)) (fun I_29 I_29' u_I_29 => ?_)
      exact Sr ⟨u_v_10, u_I_29, u_L⟩
    exact Sn
set_option maxHeartbeats 4000000 in
set_option maxRecDepth 100000 in
def kf_67 : Nat → Nat → EN → Nat → JI → JI → Option (Int × JI × JI)
  | 0, _, _, _, _, _ => none
  | n + 1, dp, e, lab, I, L =>
    if lab = 0 then (some (((I 0 15) : Int), I, L))
    else none
set_option maxRecDepth 100000 in
theorem ke_67_0 (n : Nat) (dp : Nat) (e : EN) (I : JI) (L : JI) : kf_67 (n + 1) dp e 0 I L = (some (((I 0 15) : Int), I, L)) := by rw [kf_67.eq_2, if_pos (show (0 : Nat) = 0 from rfl)]
set_option maxHeartbeats 8000000 in
set_option maxRecDepth 100000 in
theorem ks_67 : ∀ (n : Nat) (dp : Nat) (e : EN) (lab : Nat) (I : Nat → Nat → Int32) (I' : JI) (L : Nat → Nat → Int64) (L' : JI), Rli I I' → Rll L L' → Sim R3 (g_67 n dp e lab I L) (kf_67 n dp e lab I' L') := by
  intro n
  induction n with
  | zero => intros; rw [kf_67.eq_1]; exact Sn
  | succ n ih =>
    intro dp e lab I I' L L' u_I u_L
    rw [g_67.eq_2, kf_67.eq_2]
    refine Sc Iff.rfl (fun _ => ?_) (fun _ => ?_)
    · exact Sr ⟨(u_I 0 15), u_I, u_L⟩
    exact Sn
set_option maxHeartbeats 4000000 in
set_option maxRecDepth 100000 in
def kf_68 : Nat → Nat → EN → Nat → JI → JI → Int → Int → Option (Int × JI × JI)
  | 0, _, _, _, _, _, _, _ => none
  | n + 1, dp, e, lab, I, L, i1, i2 =>
    if lab = 0 then ((e.2.2 1 7).bind (fun b_4 => (if (b_4 < e.1) ∧ ((e.2.1 b_4).1 = 10) then (if 1 ≤ dp then (if -2147483648 ≤ (I b_4 11) - 1 ∧ (I b_4 11) - 1 ≤ 2147483647 then ((kf_14 n (dp - 1) e 0 I L i1 0 ((I b_4 11) - 1)).bind (fun ⟨x0_16, I0_16, L0_16⟩ => (if x0_16 = 0 then (some (((-1) : Int), I0_16, L0_16)) else (if i2 = 0 then (if (b_4 < e.1) ∧ ((e.2.1 b_4).1 = 10) then ((e.2.2 b_4 5).bind (fun b_29 => (if ((b_29 < e.1) ∧ (((e.2.1 b_29).1 = 13) ∧ ((e.2.1 b_29).2 < (2 ^ 31)))) ∧ (0 ≤ i1 ∧ i1 < (((e.2.1 b_29).2 : Nat) : Int)) then (some (((I0_16 b_29 i1) : Int), I0_16, L0_16)) else none))) else none) else (if 1 ≤ dp then ((kf_14 n (dp - 1) e 0 I0_16 L0_16 i2 10 19).bind (fun ⟨x1_40, I1_40, L1_40⟩ => (if x1_40 = 0 then (some (((-1) : Int), I1_40, L1_40)) else (if (b_4 < e.1) ∧ ((e.2.1 b_4).1 = 10) then ((e.2.2 b_4 7).bind (fun b_47 => (if (-2147483648 ≤ i1 * 10 ∧ i1 * 10 ≤ 2147483647) ∧ (-2147483648 ≤ (i1 * 10) + i2 ∧ (i1 * 10) + i2 ≤ 2147483647) ∧ (-2147483648 ≤ ((i1 * 10) + i2) - 10 ∧ ((i1 * 10) + i2) - 10 ≤ 2147483647) then (if ((b_47 < e.1) ∧ (((e.2.1 b_47).1 = 13) ∧ ((e.2.1 b_47).2 < (2 ^ 31)))) ∧ (0 ≤ (((i1 * 10) + i2) - 10) ∧ (((i1 * 10) + i2) - 10) < (((e.2.1 b_47).2 : Nat) : Int)) then (some (((I1_40 b_47 (((i1 * 10) + i2) - 10)) : Int), I1_40, L1_40)) else none) else none))) else none)))) else none))))) else none) else none) else none)))
    else none
set_option maxRecDepth 100000 in
theorem ke_68_0 (n : Nat) (dp : Nat) (e : EN) (I : JI) (L : JI) (i1 : Int) (i2 : Int) : kf_68 (n + 1) dp e 0 I L i1 i2 = ((e.2.2 1 7).bind (fun b_4 => (if (b_4 < e.1) ∧ ((e.2.1 b_4).1 = 10) then (if 1 ≤ dp then (if -2147483648 ≤ (I b_4 11) - 1 ∧ (I b_4 11) - 1 ≤ 2147483647 then ((kf_14 n (dp - 1) e 0 I L i1 0 ((I b_4 11) - 1)).bind (fun ⟨x0_16, I0_16, L0_16⟩ => (if x0_16 = 0 then (some (((-1) : Int), I0_16, L0_16)) else (if i2 = 0 then (if (b_4 < e.1) ∧ ((e.2.1 b_4).1 = 10) then ((e.2.2 b_4 5).bind (fun b_29 => (if ((b_29 < e.1) ∧ (((e.2.1 b_29).1 = 13) ∧ ((e.2.1 b_29).2 < (2 ^ 31)))) ∧ (0 ≤ i1 ∧ i1 < (((e.2.1 b_29).2 : Nat) : Int)) then (some (((I0_16 b_29 i1) : Int), I0_16, L0_16)) else none))) else none) else (if 1 ≤ dp then ((kf_14 n (dp - 1) e 0 I0_16 L0_16 i2 10 19).bind (fun ⟨x1_40, I1_40, L1_40⟩ => (if x1_40 = 0 then (some (((-1) : Int), I1_40, L1_40)) else (if (b_4 < e.1) ∧ ((e.2.1 b_4).1 = 10) then ((e.2.2 b_4 7).bind (fun b_47 => (if (-2147483648 ≤ i1 * 10 ∧ i1 * 10 ≤ 2147483647) ∧ (-2147483648 ≤ (i1 * 10) + i2 ∧ (i1 * 10) + i2 ≤ 2147483647) ∧ (-2147483648 ≤ ((i1 * 10) + i2) - 10 ∧ ((i1 * 10) + i2) - 10 ≤ 2147483647) then (if ((b_47 < e.1) ∧ (((e.2.1 b_47).1 = 13) ∧ ((e.2.1 b_47).2 < (2 ^ 31)))) ∧ (0 ≤ (((i1 * 10) + i2) - 10) ∧ (((i1 * 10) + i2) - 10) < (((e.2.1 b_47).2 : Nat) : Int)) then (some (((I1_40 b_47 (((i1 * 10) + i2) - 10)) : Int), I1_40, L1_40)) else none) else none))) else none)))) else none))))) else none) else none) else none))) := by rw [kf_68.eq_2, if_pos (show (0 : Nat) = 0 from rfl)]
set_option maxHeartbeats 8000000 in
set_option maxRecDepth 100000 in
theorem ks_68 : ∀ (n : Nat) (dp : Nat) (e : EN) (lab : Nat) (I : Nat → Nat → Int32) (I' : JI) (L : Nat → Nat → Int64) (L' : JI) (i1 : Int32) (i1' : Int) (i2 : Int32) (i2' : Int), Rli I I' → Rll L L' → Ui i1 i1' → Ui i2 i2' → Sim R3 (g_68 n dp e lab I L i1 i2) (kf_68 n dp e lab I' L' i1' i2') := by
  intro n
  induction n with
  | zero => intros; rw [kf_68.eq_1]; exact Sn
  | succ n ih =>
    intro dp e lab I I' L L' i1 i1' i2 i2' u_I u_L u_i1 u_i2
    rw [g_68.eq_2, kf_68.eq_2]
    refine Sc Iff.rfl (fun _ => ?_) (fun _ => ?_)
    · refine SbE rfl (fun b_4 => ?_)
      refine Sc Iff.rfl (fun c1 => ?_) (fun _ => Sn)
      refine Sc Iff.rfl (fun c2 => ?_) (fun _ => Sn)
      refine Sg (fun g3 => ?_)
      refine Sb3 (ks_14 n (dp - 1) e 0 _ _ _ _ _ _ _ _ _ _ u_I u_L u_i1 (rfl : Ui (0) (0)) (ui_sub (u_I b_4 11) (rfl : Ui (1) (1)) g3)) (fun x0_16 x0_16' I0_16 I0_16' L0_16 L0_16' u_x0_16 u_I0_16 u_L0_16 => ?_)
      refine Sc (eq_up u_x0_16 (rfl : Ui 0 0)) (fun c4 => ?_) (fun c4 => ?_)
      · exact Sr ⟨(rfl : Ui (-1) (-1)), u_I0_16, u_L0_16⟩
      · refine Sc (eq_up u_i2 (rfl : Ui 0 0)) (fun c5 => ?_) (fun c5 => ?_)
        · refine Sc Iff.rfl (fun c6 => ?_) (fun _ => Sn)
          refine SbE rfl (fun b_29 => ?_)
          refine Sc (and_congr Iff.rfl (ix_up u_i1)) (fun c7 => ?_) (fun _ => Sn)
          exact Sr ⟨(ui_rd (a := b_29) u_I0_16 u_i1 c7.2.1), u_I0_16, u_L0_16⟩
        · refine Sc Iff.rfl (fun c8 => ?_) (fun _ => Sn)
          refine Sb3 (ks_14 n (dp - 1) e 0 _ _ _ _ _ _ _ _ _ _ u_I0_16 u_L0_16 u_i2 (rfl : Ui (10) (10)) (rfl : Ui (19) (19))) (fun x1_40 x1_40' I1_40 I1_40' L1_40 L1_40' u_x1_40 u_I1_40 u_L1_40 => ?_)
          refine Sc (eq_up u_x1_40 (rfl : Ui 0 0)) (fun c9 => ?_) (fun c9 => ?_)
          · exact Sr ⟨(rfl : Ui (-1) (-1)), u_I1_40, u_L1_40⟩
          · refine Sc Iff.rfl (fun c10 => ?_) (fun _ => Sn)
            refine SbE rfl (fun b_47 => ?_)
            refine Sg (fun g11 => ?_)
            refine Sc (and_congr Iff.rfl (ix_up (ui_sub (ui_add (ui_mul u_i1 (rfl : Ui (10) (10)) g11.1) u_i2 g11.2.1) (rfl : Ui (10) (10)) g11.2.2))) (fun c12 => ?_) (fun _ => Sn)
            exact Sr ⟨(ui_rd (a := b_47) u_I1_40 (ui_sub (ui_add (ui_mul u_i1 (rfl : Ui (10) (10)) g11.1) u_i2 g11.2.1) (rfl : Ui (10) (10)) g11.2.2) c12.2.1), u_I1_40, u_L1_40⟩
    exact Sn
set_option maxHeartbeats 4000000 in
set_option maxRecDepth 100000 in
def kf_72 : Nat → Nat → EN → Nat → JI → JI → Int → Int → Option (Int × JI × JI)
  | 0, _, _, _, _, _, _, _ => none
  | n + 1, dp, e, lab, I, L, i1, i2 =>
    if lab = 0 then (if (-2147483648 ≤ i1 * 3 ∧ i1 * 3 ≤ 2147483647) ∧ (-2147483648 ≤ (i1 * 3) + i2 ∧ (i1 * 3) + i2 ≤ 2147483647) then (if 0 ≤ ((i1 * 3) + i2) ∧ ((i1 * 3) + i2) < 30 then (some (((I 3 ((i1 * 3) + i2)) : Int), I, L)) else none) else none)
    else none
set_option maxRecDepth 100000 in
theorem ke_72_0 (n : Nat) (dp : Nat) (e : EN) (I : JI) (L : JI) (i1 : Int) (i2 : Int) : kf_72 (n + 1) dp e 0 I L i1 i2 = (if (-2147483648 ≤ i1 * 3 ∧ i1 * 3 ≤ 2147483647) ∧ (-2147483648 ≤ (i1 * 3) + i2 ∧ (i1 * 3) + i2 ≤ 2147483647) then (if 0 ≤ ((i1 * 3) + i2) ∧ ((i1 * 3) + i2) < 30 then (some (((I 3 ((i1 * 3) + i2)) : Int), I, L)) else none) else none) := by rw [kf_72.eq_2, if_pos (show (0 : Nat) = 0 from rfl)]
set_option maxHeartbeats 8000000 in
set_option maxRecDepth 100000 in
theorem ks_72 : ∀ (n : Nat) (dp : Nat) (e : EN) (lab : Nat) (I : Nat → Nat → Int32) (I' : JI) (L : Nat → Nat → Int64) (L' : JI) (i1 : Int32) (i1' : Int) (i2 : Int32) (i2' : Int), Rli I I' → Rll L L' → Ui i1 i1' → Ui i2 i2' → Sim R3 (g_72 n dp e lab I L i1 i2) (kf_72 n dp e lab I' L' i1' i2') := by
  intro n
  induction n with
  | zero => intros; rw [kf_72.eq_1]; exact Sn
  | succ n ih =>
    intro dp e lab I I' L L' i1 i1' i2 i2' u_I u_L u_i1 u_i2
    rw [g_72.eq_2, kf_72.eq_2]
    refine Sc Iff.rfl (fun _ => ?_) (fun _ => ?_)
    · refine Sg (fun g1 => ?_)
      refine Sc (ix_up (ui_add (ui_mul u_i1 (rfl : Ui (3) (3)) g1.1) u_i2 g1.2)) (fun c2 => ?_) (fun _ => Sn)
      exact Sr ⟨(ui_rd (a := 3) u_I (ui_add (ui_mul u_i1 (rfl : Ui (3) (3)) g1.1) u_i2 g1.2) c2.1), u_I, u_L⟩
    exact Sn
set_option maxHeartbeats 4000000 in
set_option maxRecDepth 100000 in
def kf_71 : Nat → Nat → EN → Nat → JI → JI → Int → Int → Option (JI × JI)
  | 0, _, _, _, _, _, _, _ => none
  | n + 1, dp, e, lab, I, L, i1, i2 =>
    if lab = 0 then ((e.2.2 1 7).bind (fun b_4 => (if (b_4 < e.1) ∧ ((e.2.1 b_4).1 = 10) then ((e.2.2 b_4 5).bind (fun b_7 => (if ((b_7 < e.1) ∧ (((e.2.1 b_7).1 = 13) ∧ ((e.2.1 b_7).2 < (2 ^ 31)))) ∧ (0 ≤ i1 ∧ i1 < (((e.2.1 b_7).2 : Nat) : Int)) then (stI (I b_7 i1) (fun v_12 => (stI (w2 I 22 0 i2) (fun I_19 => (stI (w2 I_19 22 1 v_12) (fun I_26 => (stI (w2 I_26 22 2 i1) (fun I_33 => (stI (w2 I_33 22 3 (I_33 1 11)) (fun I_46 => (if 1 ≤ dp then ((kf_72 n (dp - 1) e 0 I_46 L v_12 i2).bind (fun ⟨x0_58, I0_58, L0_58⟩ => (stI (w2 I0_58 22 4 x0_58) (fun I_61 => (some (I_61, L0_58)))))) else none))))))))))) else none))) else none)))
    else none
set_option maxRecDepth 100000 in
theorem ke_71_0 (n : Nat) (dp : Nat) (e : EN) (I : JI) (L : JI) (i1 : Int) (i2 : Int) : kf_71 (n + 1) dp e 0 I L i1 i2 = ((e.2.2 1 7).bind (fun b_4 => (if (b_4 < e.1) ∧ ((e.2.1 b_4).1 = 10) then ((e.2.2 b_4 5).bind (fun b_7 => (if ((b_7 < e.1) ∧ (((e.2.1 b_7).1 = 13) ∧ ((e.2.1 b_7).2 < (2 ^ 31)))) ∧ (0 ≤ i1 ∧ i1 < (((e.2.1 b_7).2 : Nat) : Int)) then (stI (I b_7 i1) (fun v_12 => (stI (w2 I 22 0 i2) (fun I_19 => (stI (w2 I_19 22 1 v_12) (fun I_26 => (stI (w2 I_26 22 2 i1) (fun I_33 => (stI (w2 I_33 22 3 (I_33 1 11)) (fun I_46 => (if 1 ≤ dp then ((kf_72 n (dp - 1) e 0 I_46 L v_12 i2).bind (fun ⟨x0_58, I0_58, L0_58⟩ => (stI (w2 I0_58 22 4 x0_58) (fun I_61 => (some (I_61, L0_58)))))) else none))))))))))) else none))) else none))) := by rw [kf_71.eq_2, if_pos (show (0 : Nat) = 0 from rfl)]
set_option maxHeartbeats 8000000 in
set_option maxRecDepth 100000 in
theorem ks_71 : ∀ (n : Nat) (dp : Nat) (e : EN) (lab : Nat) (I : Nat → Nat → Int32) (I' : JI) (L : Nat → Nat → Int64) (L' : JI) (i1 : Int32) (i1' : Int) (i2 : Int32) (i2' : Int), Rli I I' → Rll L L' → Ui i1 i1' → Ui i2 i2' → Sim R2 (g_71 n dp e lab I L i1 i2) (kf_71 n dp e lab I' L' i1' i2') := by
  intro n
  induction n with
  | zero => intros; rw [kf_71.eq_1]; exact Sn
  | succ n ih =>
    intro dp e lab I I' L L' i1 i1' i2 i2' u_I u_L u_i1 u_i2
    rw [g_71.eq_2, kf_71.eq_2]
    refine Sc Iff.rfl (fun _ => ?_) (fun _ => ?_)
    · refine SbE rfl (fun b_4 => ?_)
      refine Sc Iff.rfl (fun c1 => ?_) (fun _ => Sn)
      refine SbE rfl (fun b_7 => ?_)
      refine Sc (and_congr Iff.rfl (ix_up u_i1)) (fun c2 => ?_) (fun _ => Sn)
      refine SsI (ui_rd (a := b_7) u_I u_i1 c2.2.1) (fun v_12 v_12' u_v_12 => ?_)
      refine SsJ (ri_up u_I (rfl : ((0 : Nat) : Int) = 0) u_i2) (fun I_19 I_19' u_I_19 => ?_)
      refine SsJ (ri_up u_I_19 (rfl : ((1 : Nat) : Int) = 1) u_v_12) (fun I_26 I_26' u_I_26 => ?_)
      refine SsJ (ri_up u_I_26 (rfl : ((2 : Nat) : Int) = 2) u_i1) (fun I_33 I_33' u_I_33 => ?_)
      refine SsJ (ri_up u_I_33 (rfl : ((3 : Nat) : Int) = 3) (u_I_33 1 11)) (fun I_46 I_46' u_I_46 => ?_)
      refine Sc Iff.rfl (fun c3 => ?_) (fun _ => Sn)
      refine Sb3 (ks_72 n (dp - 1) e 0 _ _ _ _ _ _ _ _ u_I_46 u_L u_v_12 u_i2) (fun x0_58 x0_58' I0_58 I0_58' L0_58 L0_58' u_x0_58 u_I0_58 u_L0_58 => ?_)
      refine SsJ (ri_up u_I0_58 (rfl : ((4 : Nat) : Int) = 4) u_x0_58) (fun I_61 I_61' u_I_61 => ?_)
      exact Sr ⟨u_I_61, u_L0_58⟩
    exact Sn
set_option maxHeartbeats 4000000 in
set_option maxRecDepth 100000 in
def kf_76 : Nat → Nat → EN → Nat → JI → JI → Int → Int → Int → Option (Int × JI × JI)
  | 0, _, _, _, _, _, _, _, _ => none
  | n + 1, dp, e, lab, I, L, i0, j1, j3 =>
    if lab = 0 then (if i0 = 2 then (if -9223372036854775808 ≤ j1 + j3 ∧ j1 + j3 ≤ 9223372036854775807 then (some (((j1 + j3) : Int), I, L)) else none) else (if i0 = 3 then (if -9223372036854775808 ≤ j1 - j3 ∧ j1 - j3 ≤ 9223372036854775807 then (some (((j1 - j3) : Int), I, L)) else none) else (if i0 = 4 then (if -9223372036854775808 ≤ j1 * j3 ∧ j1 * j3 ≤ 9223372036854775807 then (some (((j1 * j3) : Int), I, L)) else none) else (if i0 = 5 then (if j3 = 0 then (some ((1000000001 : Int), I, L)) else (if ¬ (j3 = 0) then (if -9223372036854775807 ≤ j1 then (some (((Int.tdiv j1 j3) : Int), I, L)) else none) else none)) else (if i0 = 6 then (if j3 ≤ j1 then (some ((0 : Int), I, L)) else (some ((1 : Int), I, L))) else (if i0 = 7 then (if j1 ≤ j3 then (some ((0 : Int), I, L)) else (some ((1 : Int), I, L))) else (if j1 = j3 then (some ((1 : Int), I, L)) else (some ((0 : Int), I, L)))))))))
    else none
set_option maxRecDepth 100000 in
theorem ke_76_0 (n : Nat) (dp : Nat) (e : EN) (I : JI) (L : JI) (i0 : Int) (j1 : Int) (j3 : Int) : kf_76 (n + 1) dp e 0 I L i0 j1 j3 = (if i0 = 2 then (if -9223372036854775808 ≤ j1 + j3 ∧ j1 + j3 ≤ 9223372036854775807 then (some (((j1 + j3) : Int), I, L)) else none) else (if i0 = 3 then (if -9223372036854775808 ≤ j1 - j3 ∧ j1 - j3 ≤ 9223372036854775807 then (some (((j1 - j3) : Int), I, L)) else none) else (if i0 = 4 then (if -9223372036854775808 ≤ j1 * j3 ∧ j1 * j3 ≤ 9223372036854775807 then (some (((j1 * j3) : Int), I, L)) else none) else (if i0 = 5 then (if j3 = 0 then (some ((1000000001 : Int), I, L)) else (if ¬ (j3 = 0) then (if -9223372036854775807 ≤ j1 then (some (((Int.tdiv j1 j3) : Int), I, L)) else none) else none)) else (if i0 = 6 then (if j3 ≤ j1 then (some ((0 : Int), I, L)) else (some ((1 : Int), I, L))) else (if i0 = 7 then (if j1 ≤ j3 then (some ((0 : Int), I, L)) else (some ((1 : Int), I, L))) else (if j1 = j3 then (some ((1 : Int), I, L)) else (some ((0 : Int), I, L))))))))) := by rw [kf_76.eq_2, if_pos (show (0 : Nat) = 0 from rfl)]
set_option maxHeartbeats 8000000 in
set_option maxRecDepth 100000 in
theorem ks_76 : ∀ (n : Nat) (dp : Nat) (e : EN) (lab : Nat) (I : Nat → Nat → Int32) (I' : JI) (L : Nat → Nat → Int64) (L' : JI) (i0 : Int32) (i0' : Int) (j1 : Int64) (j1' : Int) (j3 : Int64) (j3' : Int), Rli I I' → Rll L L' → Ui i0 i0' → Ul j1 j1' → Ul j3 j3' → Sim R3l (g_76 n dp e lab I L i0 j1 j3) (kf_76 n dp e lab I' L' i0' j1' j3') := by
  intro n
  induction n with
  | zero => intros; rw [kf_76.eq_1]; exact Sn
  | succ n ih =>
    intro dp e lab I I' L L' i0 i0' j1 j1' j3 j3' u_I u_L u_i0 u_j1 u_j3
    rw [g_76.eq_2, kf_76.eq_2]
    refine Sc Iff.rfl (fun _ => ?_) (fun _ => ?_)
    · refine Sc (eq_up u_i0 (rfl : Ui (2) (2))) (fun c1 => ?_) (fun c1 => ?_)
      · refine Sg (fun g2 => ?_)
        exact Sr ⟨(ul_add u_j1 u_j3 g2), u_I, u_L⟩
      · refine Sc (eq_up u_i0 (rfl : Ui (3) (3))) (fun c3 => ?_) (fun c3 => ?_)
        · refine Sg (fun g4 => ?_)
          exact Sr ⟨(ul_sub u_j1 u_j3 g4), u_I, u_L⟩
        · refine Sc (eq_up u_i0 (rfl : Ui (4) (4))) (fun c5 => ?_) (fun c5 => ?_)
          · refine Sg (fun g6 => ?_)
            exact Sr ⟨(ul_mul u_j1 u_j3 g6), u_I, u_L⟩
          · refine Sc (eq_up u_i0 (rfl : Ui (5) (5))) (fun c7 => ?_) (fun c7 => ?_)
            · refine Sc (lce_up u_j3 (rfl : Ul (0) (0))) (fun c8 => ?_) (fun c8 => ?_)
              · exact Sr ⟨(rfl : Ul (1000000001) (1000000001)), u_I, u_L⟩
              · refine Sc (not_congr (leq_up u_j3 (rfl : Ul 0 0))) (fun c9 => ?_) (fun _ => Sn)
                refine Sg (fun g10 => ?_)
                exact Sr ⟨(ul_div u_j1 u_j3 g10), u_I, u_L⟩
            · refine Sc (eq_up u_i0 (rfl : Ui (6) (6))) (fun c11 => ?_) (fun c11 => ?_)
              · refine Sc (lcge_up u_j1 u_j3) (fun c12 => ?_) (fun c12 => ?_)
                · exact Sr ⟨(rfl : Ul (0) (0)), u_I, u_L⟩
                · exact Sr ⟨(rfl : Ul (1) (1)), u_I, u_L⟩
              · refine Sc (eq_up u_i0 (rfl : Ui (7) (7))) (fun c13 => ?_) (fun c13 => ?_)
                · refine Sc (lcle_up u_j1 u_j3) (fun c14 => ?_) (fun c14 => ?_)
                  · exact Sr ⟨(rfl : Ul (0) (0)), u_I, u_L⟩
                  · exact Sr ⟨(rfl : Ul (1) (1)), u_I, u_L⟩
                · refine Sc (lce_up u_j1 u_j3) (fun c15 => ?_) (fun c15 => ?_)
                  · exact Sr ⟨(rfl : Ul (1) (1)), u_I, u_L⟩
                  · exact Sr ⟨(rfl : Ul (0) (0)), u_I, u_L⟩
    exact Sn
