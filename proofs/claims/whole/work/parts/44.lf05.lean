/-! lifted functions 05, printed by lift.py -/
set_option maxHeartbeats 4000000 in
set_option maxRecDepth 100000 in
def kf_173 : Nat → Nat → EN → Nat → JI → JI → Int → Int → Option (Int × JI × JI)
  | 0, _, _, _, _, _, _, _ => none
  | n + 1, dp, e, lab, I, L, i1, i2 =>
    if lab = 0 then (if 1 ≤ dp then ((kf_14 n (dp - 1) e 0 I L i1 0 255).bind (fun ⟨x0_5, I0_5, L0_5⟩ => (if x0_5 = 0 then (some (((-1) : Int), I0_5, L0_5)) else (if 1 ≤ dp then (if -2147483648 ≤ (I0_5 1 9) - 1 ∧ (I0_5 1 9) - 1 ≤ 2147483647 then ((kf_14 n (dp - 1) e 0 I0_5 L0_5 i2 (-1) ((I0_5 1 9) - 1)).bind (fun ⟨x1_22, I1_22, L1_22⟩ => (if x1_22 = 0 then (some (((-1) : Int), I1_22, L1_22)) else (if i2 = (-1) then (if 1 ≤ dp then ((kf_174 n (dp - 1) e 0 I1_22 L1_22 i1 0 0).bind (fun ⟨x2_40, I2_40, L2_40⟩ => (some ((x2_40 : Int), I2_40, L2_40)))) else none) else (if 1 ≤ dp then ((kf_178 n (dp - 1) e 0 I1_22 L1_22 i1 i2).bind (fun ⟨x2_52, I2_52, L2_52⟩ => (some ((x2_52 : Int), I2_52, L2_52)))) else none))))) else none) else none)))) else none)
    else none
set_option maxRecDepth 100000 in
theorem ke_173_0 (n : Nat) (dp : Nat) (e : EN) (I : JI) (L : JI) (i1 : Int) (i2 : Int) : kf_173 (n + 1) dp e 0 I L i1 i2 = (if 1 ≤ dp then ((kf_14 n (dp - 1) e 0 I L i1 0 255).bind (fun ⟨x0_5, I0_5, L0_5⟩ => (if x0_5 = 0 then (some (((-1) : Int), I0_5, L0_5)) else (if 1 ≤ dp then (if -2147483648 ≤ (I0_5 1 9) - 1 ∧ (I0_5 1 9) - 1 ≤ 2147483647 then ((kf_14 n (dp - 1) e 0 I0_5 L0_5 i2 (-1) ((I0_5 1 9) - 1)).bind (fun ⟨x1_22, I1_22, L1_22⟩ => (if x1_22 = 0 then (some (((-1) : Int), I1_22, L1_22)) else (if i2 = (-1) then (if 1 ≤ dp then ((kf_174 n (dp - 1) e 0 I1_22 L1_22 i1 0 0).bind (fun ⟨x2_40, I2_40, L2_40⟩ => (some ((x2_40 : Int), I2_40, L2_40)))) else none) else (if 1 ≤ dp then ((kf_178 n (dp - 1) e 0 I1_22 L1_22 i1 i2).bind (fun ⟨x2_52, I2_52, L2_52⟩ => (some ((x2_52 : Int), I2_52, L2_52)))) else none))))) else none) else none)))) else none) := by rw [kf_173.eq_2, if_pos (show (0 : Nat) = 0 from rfl)]
set_option maxHeartbeats 8000000 in
set_option maxRecDepth 100000 in
theorem ks_173 : ∀ (n : Nat) (dp : Nat) (e : EN) (lab : Nat) (I : Nat → Nat → Int32) (I' : JI) (L : Nat → Nat → Int64) (L' : JI) (i1 : Int32) (i1' : Int) (i2 : Int32) (i2' : Int), Rli I I' → Rll L L' → Ui i1 i1' → Ui i2 i2' → Sim R3 (g_173 n dp e lab I L i1 i2) (kf_173 n dp e lab I' L' i1' i2') := by
  intro n
  induction n with
  | zero => intros; rw [kf_173.eq_1]; exact Sn
  | succ n ih =>
    intro dp e lab I I' L L' i1 i1' i2 i2' u_I u_L u_i1 u_i2
    rw [g_173.eq_2, kf_173.eq_2]
    refine Sc Iff.rfl (fun _ => ?_) (fun _ => ?_)
    · refine Sc Iff.rfl (fun c1 => ?_) (fun _ => Sn)
      refine Sb3 (ks_14 n (dp - 1) e 0 _ _ _ _ _ _ _ _ _ _ u_I u_L u_i1 (rfl : Ui (0) (0)) (rfl : Ui (255) (255))) (fun x0_5 x0_5' I0_5 I0_5' L0_5 L0_5' u_x0_5 u_I0_5 u_L0_5 => ?_)
      refine Sc (eq_up u_x0_5 (rfl : Ui 0 0)) (fun c2 => ?_) (fun c2 => ?_)
      · exact Sr ⟨(rfl : Ui (-1) (-1)), u_I0_5, u_L0_5⟩
      · refine Sc Iff.rfl (fun c3 => ?_) (fun _ => Sn)
        refine Sg (fun g4 => ?_)
        refine Sb3 (ks_14 n (dp - 1) e 0 _ _ _ _ _ _ _ _ _ _ u_I0_5 u_L0_5 u_i2 (rfl : Ui (-1) (-1)) (ui_sub (u_I0_5 1 9) (rfl : Ui (1) (1)) g4)) (fun x1_22 x1_22' I1_22 I1_22' L1_22 L1_22' u_x1_22 u_I1_22 u_L1_22 => ?_)
        refine Sc (eq_up u_x1_22 (rfl : Ui 0 0)) (fun c5 => ?_) (fun c5 => ?_)
        · exact Sr ⟨(rfl : Ui (-1) (-1)), u_I1_22, u_L1_22⟩
        · refine Sc (eq_up u_i2 (rfl : Ui (-1) (-1))) (fun c6 => ?_) (fun c6 => ?_)
          · refine Sc Iff.rfl (fun c7 => ?_) (fun _ => Sn)
            refine Sb3 (ks_174 n (dp - 1) e 0 _ _ _ _ _ _ _ _ _ _ u_I1_22 u_L1_22 u_i1 (rfl : Ui 0 0) (rfl : Ui 0 0)) (fun x2_40 x2_40' I2_40 I2_40' L2_40 L2_40' u_x2_40 u_I2_40 u_L2_40 => ?_)
            exact Sr ⟨u_x2_40, u_I2_40, u_L2_40⟩
          · refine Sc Iff.rfl (fun c8 => ?_) (fun _ => Sn)
            refine Sb3 (ks_178 n (dp - 1) e 0 _ _ _ _ _ _ _ _ u_I1_22 u_L1_22 u_i1 u_i2) (fun x2_52 x2_52' I2_52 I2_52' L2_52 L2_52' u_x2_52 u_I2_52 u_L2_52 => ?_)
            exact Sr ⟨u_x2_52, u_I2_52, u_L2_52⟩
    exact Sn
set_option maxHeartbeats 4000000 in
set_option maxRecDepth 100000 in
def kf_179 : Nat → Nat → EN → Nat → JI → JI → Int → Int → Option (Int × JI × JI)
  | 0, _, _, _, _, _, _, _ => none
  | n + 1, dp, e, lab, I, L, i1, i2 =>
    if lab = 0 then (if 1 ≤ dp then ((kf_14 n (dp - 1) e 0 I L i1 0 999).bind (fun ⟨x0_5, I0_5, L0_5⟩ => (if x0_5 = 0 then (if 1 ≤ dp then ((kf_15 n (dp - 1) e 0 I0_5 L0_5 (-1)).bind (fun ⟨x1_24, I1_24, L1_24⟩ => (some ((x1_24 : Int), I1_24, L1_24)))) else none) else (if 1 ≤ dp then ((kf_14 n (dp - 1) e 0 I0_5 L0_5 i2 0 999).bind (fun ⟨x1_16, I1_16, L1_16⟩ => (if x1_16 = 0 then (if 1 ≤ dp then ((kf_15 n (dp - 1) e 0 I1_16 L1_16 (-1)).bind (fun ⟨x2_24, I2_24, L2_24⟩ => (some ((x2_24 : Int), I2_24, L2_24)))) else none) else (if (I1_16 1 10) < 40 then (if 0 ≤ (I1_16 1 10) ∧ (I1_16 1 10) < 40 then (if -2147483648 ≤ i1 - i2 ∧ i1 - i2 ≤ 2147483647 then (stI (w2 I1_16 8 (I1_16 1 10) (i1 - i2)) (fun I_60 => (if -2147483648 ≤ (I1_16 1 10) + 1 ∧ (I1_16 1 10) + 1 ≤ 2147483647 then (stI (w2 I_60 1 10 ((I1_16 1 10) + 1)) (fun I_68 => (if 1 ≤ dp then ((kf_19 n (dp - 1) e 0 I_68 L1_16 ((I1_16 1 10) + 1)).bind (fun ⟨x2_75, I2_75, L2_75⟩ => (some ((x2_75 : Int), I2_75, L2_75)))) else none))) else none))) else none) else none) else (if 1 ≤ dp then ((kf_15 n (dp - 1) e 0 I1_16 L1_16 (-5)).bind (fun ⟨x2_45, I2_45, L2_45⟩ => (some ((x2_45 : Int), I2_45, L2_45)))) else none))))) else none)))) else none)
    else none
set_option maxRecDepth 100000 in
theorem ke_179_0 (n : Nat) (dp : Nat) (e : EN) (I : JI) (L : JI) (i1 : Int) (i2 : Int) : kf_179 (n + 1) dp e 0 I L i1 i2 = (if 1 ≤ dp then ((kf_14 n (dp - 1) e 0 I L i1 0 999).bind (fun ⟨x0_5, I0_5, L0_5⟩ => (if x0_5 = 0 then (if 1 ≤ dp then ((kf_15 n (dp - 1) e 0 I0_5 L0_5 (-1)).bind (fun ⟨x1_24, I1_24, L1_24⟩ => (some ((x1_24 : Int), I1_24, L1_24)))) else none) else (if 1 ≤ dp then ((kf_14 n (dp - 1) e 0 I0_5 L0_5 i2 0 999).bind (fun ⟨x1_16, I1_16, L1_16⟩ => (if x1_16 = 0 then (if 1 ≤ dp then ((kf_15 n (dp - 1) e 0 I1_16 L1_16 (-1)).bind (fun ⟨x2_24, I2_24, L2_24⟩ => (some ((x2_24 : Int), I2_24, L2_24)))) else none) else (if (I1_16 1 10) < 40 then (if 0 ≤ (I1_16 1 10) ∧ (I1_16 1 10) < 40 then (if -2147483648 ≤ i1 - i2 ∧ i1 - i2 ≤ 2147483647 then (stI (w2 I1_16 8 (I1_16 1 10) (i1 - i2)) (fun I_60 => (if -2147483648 ≤ (I1_16 1 10) + 1 ∧ (I1_16 1 10) + 1 ≤ 2147483647 then (stI (w2 I_60 1 10 ((I1_16 1 10) + 1)) (fun I_68 => (if 1 ≤ dp then ((kf_19 n (dp - 1) e 0 I_68 L1_16 ((I1_16 1 10) + 1)).bind (fun ⟨x2_75, I2_75, L2_75⟩ => (some ((x2_75 : Int), I2_75, L2_75)))) else none))) else none))) else none) else none) else (if 1 ≤ dp then ((kf_15 n (dp - 1) e 0 I1_16 L1_16 (-5)).bind (fun ⟨x2_45, I2_45, L2_45⟩ => (some ((x2_45 : Int), I2_45, L2_45)))) else none))))) else none)))) else none) := by rw [kf_179.eq_2, if_pos (show (0 : Nat) = 0 from rfl)]
set_option maxHeartbeats 8000000 in
set_option maxRecDepth 100000 in
theorem ks_179 : ∀ (n : Nat) (dp : Nat) (e : EN) (lab : Nat) (I : Nat → Nat → Int32) (I' : JI) (L : Nat → Nat → Int64) (L' : JI) (i1 : Int32) (i1' : Int) (i2 : Int32) (i2' : Int), Rli I I' → Rll L L' → Ui i1 i1' → Ui i2 i2' → Sim R3 (g_179 n dp e lab I L i1 i2) (kf_179 n dp e lab I' L' i1' i2') := by
  intro n
  induction n with
  | zero => intros; rw [kf_179.eq_1]; exact Sn
  | succ n ih =>
    intro dp e lab I I' L L' i1 i1' i2 i2' u_I u_L u_i1 u_i2
    rw [g_179.eq_2, kf_179.eq_2]
    refine Sc Iff.rfl (fun _ => ?_) (fun _ => ?_)
    · refine Sc Iff.rfl (fun c1 => ?_) (fun _ => Sn)
      refine Sb3 (ks_14 n (dp - 1) e 0 _ _ _ _ _ _ _ _ _ _ u_I u_L u_i1 (rfl : Ui (0) (0)) (rfl : Ui (999) (999))) (fun x0_5 x0_5' I0_5 I0_5' L0_5 L0_5' u_x0_5 u_I0_5 u_L0_5 => ?_)
      refine Sc (eq_up u_x0_5 (rfl : Ui 0 0)) (fun c2 => ?_) (fun c2 => ?_)
      · refine Sc Iff.rfl (fun c3 => ?_) (fun _ => Sn)
        refine Sb3 (ks_15 n (dp - 1) e 0 _ _ _ _ _ _ u_I0_5 u_L0_5 (rfl : Ui (-1) (-1))) (fun x1_24 x1_24' I1_24 I1_24' L1_24 L1_24' u_x1_24 u_I1_24 u_L1_24 => ?_)
        exact Sr ⟨u_x1_24, u_I1_24, u_L1_24⟩
      · refine Sc Iff.rfl (fun c4 => ?_) (fun _ => Sn)
        refine Sb3 (ks_14 n (dp - 1) e 0 _ _ _ _ _ _ _ _ _ _ u_I0_5 u_L0_5 u_i2 (rfl : Ui (0) (0)) (rfl : Ui (999) (999))) (fun x1_16 x1_16' I1_16 I1_16' L1_16 L1_16' u_x1_16 u_I1_16 u_L1_16 => ?_)
        refine Sc (eq_up u_x1_16 (rfl : Ui 0 0)) (fun c5 => ?_) (fun c5 => ?_)
        · refine Sc Iff.rfl (fun c6 => ?_) (fun _ => Sn)
          refine Sb3 (ks_15 n (dp - 1) e 0 _ _ _ _ _ _ u_I1_16 u_L1_16 (rfl : Ui (-1) (-1))) (fun x2_24 x2_24' I2_24 I2_24' L2_24 L2_24' u_x2_24 u_I2_24 u_L2_24 => ?_)
          exact Sr ⟨u_x2_24, u_I2_24, u_L2_24⟩
        · refine Sc (lt_up (u_I1_16 1 10) (rfl : Ui (40) (40))) (fun c7 => ?_) (fun c7 => ?_)
          · refine Sc (ix_up (u_I1_16 1 10)) (fun c8 => ?_) (fun _ => Sn)
            refine Sg (fun g9 => ?_)
            refine SsJ (ri_up u_I1_16 (kc_up (u_I1_16 1 10) c8.1) (ui_sub u_i1 u_i2 g9)) (fun I_60 I_60' u_I_60 => ?_)
            refine Sg (fun g10 => ?_)
            refine SsJ (ri_up u_I_60 (rfl : ((10 : Nat) : Int) = 10) (ui_add (u_I1_16 1 10) (rfl : Ui (1) (1)) g10)) (fun I_68 I_68' u_I_68 => ?_)
            refine Sc Iff.rfl (fun c11 => ?_) (fun _ => Sn)
            refine Sb3 (ks_19 n (dp - 1) e 0 _ _ _ _ _ _ u_I_68 u_L1_16 (ui_add (u_I1_16 1 10) (rfl : Ui (1) (1)) g10)) (fun x2_75 x2_75' I2_75 I2_75' L2_75 L2_75' u_x2_75 u_I2_75 u_L2_75 => ?_)
            exact Sr ⟨u_x2_75, u_I2_75, u_L2_75⟩
          · refine Sc Iff.rfl (fun c12 => ?_) (fun _ => Sn)
            refine Sb3 (ks_15 n (dp - 1) e 0 _ _ _ _ _ _ u_I1_16 u_L1_16 (rfl : Ui (-5) (-5))) (fun x2_45 x2_45' I2_45 I2_45' L2_45 L2_45' u_x2_45 u_I2_45 u_L2_45 => ?_)
            exact Sr ⟨u_x2_45, u_I2_45, u_L2_45⟩
    exact Sn
set_option maxHeartbeats 4000000 in
set_option maxRecDepth 100000 in
def kf_180 : Nat → Nat → EN → Nat → JI → JI → Int → Int → Int → Int → Int → Int → Int → Option (Int × JI × JI)
  | 0, _, _, _, _, _, _, _, _, _, _, _, _ => none
  | n + 1, dp, e, lab, I, L, i1, i2, i3, i4, i5, i6, i7 =>
    if lab = 0 then (if 1 ≤ dp then ((kf_14 n (dp - 1) e 0 I L i1 0 99).bind (fun ⟨x0_4, I0_4, L0_4⟩ => (if x0_4 = 0 then (some (((-1) : Int), I0_4, L0_4)) else (if 1 ≤ dp then ((kf_14 n (dp - 1) e 0 I0_4 L0_4 i2 0 9999).bind (fun ⟨x1_15, I1_15, L1_15⟩ => (if x1_15 = 0 then (some (((-1) : Int), I1_15, L1_15)) else (if 1 ≤ dp then ((kf_14 n (dp - 1) e 0 I1_15 L1_15 i3 0 1).bind (fun ⟨x2_24, I2_24, L2_24⟩ => (if x2_24 = 0 then (some (((-1) : Int), I2_24, L2_24)) else (kf_180 n dp e 1 I2_24 L2_24 i1 i2 i3 0 0 (-1) 0)))) else none)))) else none)))) else none)
    else if lab = 1 then (if (I 1 10) ≤ i7 then (if i3 = 0 then (some ((i6 : Int), I, L)) else (some ((i5 : Int), I, L))) else (if 0 ≤ i7 ∧ i7 < 40 then (if 1 ≤ dp then (if (-2147483648 ≤ i4 + (I 8 i7) ∧ i4 + (I 8 i7) ≤ 2147483647) ∧ (-2147483648 ≤ (i4 + (I 8 i7)) - i1 ∧ (i4 + (I 8 i7)) - i1 ≤ 2147483647) then (stI (max 0 ((i4 + (I 8 i7)) - i1)) (fun v_75 => (if 1 ≤ dp then (stI (max i5 v_75) (fun v_84 => (if i6 = (-1) then (if v_75 ≤ i2 then (kf_180 n dp e 2 I L i1 i2 i3 v_75 v_84 i6 i7) else (kf_180 n dp e 2 I L i1 i2 i3 v_75 v_84 i7 i7)) else (kf_180 n dp e 2 I L i1 i2 i3 v_75 v_84 i6 i7)))) else none))) else none) else none) else none))
    else if lab = 2 then (if -2147483648 ≤ i7 + 1 ∧ i7 + 1 ≤ 2147483647 then (kf_180 n dp e 1 I L i1 i2 i3 i4 i5 i6 (i7 + 1)) else none)
    else none
set_option maxRecDepth 100000 in
theorem ke_180_0 (n : Nat) (dp : Nat) (e : EN) (I : JI) (L : JI) (i1 : Int) (i2 : Int) (i3 : Int) (i4 : Int) (i5 : Int) (i6 : Int) (i7 : Int) : kf_180 (n + 1) dp e 0 I L i1 i2 i3 i4 i5 i6 i7 = (if 1 ≤ dp then ((kf_14 n (dp - 1) e 0 I L i1 0 99).bind (fun ⟨x0_4, I0_4, L0_4⟩ => (if x0_4 = 0 then (some (((-1) : Int), I0_4, L0_4)) else (if 1 ≤ dp then ((kf_14 n (dp - 1) e 0 I0_4 L0_4 i2 0 9999).bind (fun ⟨x1_15, I1_15, L1_15⟩ => (if x1_15 = 0 then (some (((-1) : Int), I1_15, L1_15)) else (if 1 ≤ dp then ((kf_14 n (dp - 1) e 0 I1_15 L1_15 i3 0 1).bind (fun ⟨x2_24, I2_24, L2_24⟩ => (if x2_24 = 0 then (some (((-1) : Int), I2_24, L2_24)) else (kf_180 n dp e 1 I2_24 L2_24 i1 i2 i3 0 0 (-1) 0)))) else none)))) else none)))) else none) := by rw [kf_180.eq_2, if_pos (show (0 : Nat) = 0 from rfl)]
set_option maxRecDepth 100000 in
theorem ke_180_1 (n : Nat) (dp : Nat) (e : EN) (I : JI) (L : JI) (i1 : Int) (i2 : Int) (i3 : Int) (i4 : Int) (i5 : Int) (i6 : Int) (i7 : Int) : kf_180 (n + 1) dp e 1 I L i1 i2 i3 i4 i5 i6 i7 = (if (I 1 10) ≤ i7 then (if i3 = 0 then (some ((i6 : Int), I, L)) else (some ((i5 : Int), I, L))) else (if 0 ≤ i7 ∧ i7 < 40 then (if 1 ≤ dp then (if (-2147483648 ≤ i4 + (I 8 i7) ∧ i4 + (I 8 i7) ≤ 2147483647) ∧ (-2147483648 ≤ (i4 + (I 8 i7)) - i1 ∧ (i4 + (I 8 i7)) - i1 ≤ 2147483647) then (stI (max 0 ((i4 + (I 8 i7)) - i1)) (fun v_75 => (if 1 ≤ dp then (stI (max i5 v_75) (fun v_84 => (if i6 = (-1) then (if v_75 ≤ i2 then (kf_180 n dp e 2 I L i1 i2 i3 v_75 v_84 i6 i7) else (kf_180 n dp e 2 I L i1 i2 i3 v_75 v_84 i7 i7)) else (kf_180 n dp e 2 I L i1 i2 i3 v_75 v_84 i6 i7)))) else none))) else none) else none) else none)) := by rw [kf_180.eq_2, if_neg (show ¬ ((1 : Nat) = 0) by decide), if_pos (show (1 : Nat) = 1 from rfl)]
set_option maxRecDepth 100000 in
theorem ke_180_2 (n : Nat) (dp : Nat) (e : EN) (I : JI) (L : JI) (i1 : Int) (i2 : Int) (i3 : Int) (i4 : Int) (i5 : Int) (i6 : Int) (i7 : Int) : kf_180 (n + 1) dp e 2 I L i1 i2 i3 i4 i5 i6 i7 = (if -2147483648 ≤ i7 + 1 ∧ i7 + 1 ≤ 2147483647 then (kf_180 n dp e 1 I L i1 i2 i3 i4 i5 i6 (i7 + 1)) else none) := by rw [kf_180.eq_2, if_neg (show ¬ ((2 : Nat) = 0) by decide), if_neg (show ¬ ((2 : Nat) = 1) by decide), if_pos (show (2 : Nat) = 2 from rfl)]
set_option maxHeartbeats 8000000 in
set_option maxRecDepth 100000 in
theorem ks_180 : ∀ (n : Nat) (dp : Nat) (e : EN) (lab : Nat) (I : Nat → Nat → Int32) (I' : JI) (L : Nat → Nat → Int64) (L' : JI) (i1 : Int32) (i1' : Int) (i2 : Int32) (i2' : Int) (i3 : Int32) (i3' : Int) (i4 : Int32) (i4' : Int) (i5 : Int32) (i5' : Int) (i6 : Int32) (i6' : Int) (i7 : Int32) (i7' : Int), Rli I I' → Rll L L' → Ui i1 i1' → Ui i2 i2' → Ui i3 i3' → Ui i4 i4' → Ui i5 i5' → Ui i6 i6' → Ui i7 i7' → Sim R3 (g_180 n dp e lab I L i1 i2 i3 i4 i5 i6 i7) (kf_180 n dp e lab I' L' i1' i2' i3' i4' i5' i6' i7') := by
  intro n
  induction n with
  | zero => intros; rw [kf_180.eq_1]; exact Sn
  | succ n ih =>
    intro dp e lab I I' L L' i1 i1' i2 i2' i3 i3' i4 i4' i5 i5' i6 i6' i7 i7' u_I u_L u_i1 u_i2 u_i3 u_i4 u_i5 u_i6 u_i7
    rw [g_180.eq_2, kf_180.eq_2]
    refine Sc Iff.rfl (fun _ => ?_) (fun _ => ?_)
    · refine Sc Iff.rfl (fun c1 => ?_) (fun _ => Sn)
      refine Sb3 (ks_14 n (dp - 1) e 0 _ _ _ _ _ _ _ _ _ _ u_I u_L u_i1 (rfl : Ui (0) (0)) (rfl : Ui (99) (99))) (fun x0_4 x0_4' I0_4 I0_4' L0_4 L0_4' u_x0_4 u_I0_4 u_L0_4 => ?_)
      refine Sc (eq_up u_x0_4 (rfl : Ui 0 0)) (fun c2 => ?_) (fun c2 => ?_)
      · exact Sr ⟨(rfl : Ui (-1) (-1)), u_I0_4, u_L0_4⟩
      · refine Sc Iff.rfl (fun c3 => ?_) (fun _ => Sn)
        refine Sb3 (ks_14 n (dp - 1) e 0 _ _ _ _ _ _ _ _ _ _ u_I0_4 u_L0_4 u_i2 (rfl : Ui (0) (0)) (rfl : Ui (9999) (9999))) (fun x1_15 x1_15' I1_15 I1_15' L1_15 L1_15' u_x1_15 u_I1_15 u_L1_15 => ?_)
        refine Sc (eq_up u_x1_15 (rfl : Ui 0 0)) (fun c4 => ?_) (fun c4 => ?_)
        · exact Sr ⟨(rfl : Ui (-1) (-1)), u_I1_15, u_L1_15⟩
        · refine Sc Iff.rfl (fun c5 => ?_) (fun _ => Sn)
          refine Sb3 (ks_14 n (dp - 1) e 0 _ _ _ _ _ _ _ _ _ _ u_I1_15 u_L1_15 u_i3 (rfl : Ui (0) (0)) (rfl : Ui (1) (1))) (fun x2_24 x2_24' I2_24 I2_24' L2_24 L2_24' u_x2_24 u_I2_24 u_L2_24 => ?_)
          refine Sc (eq_up u_x2_24 (rfl : Ui 0 0)) (fun c6 => ?_) (fun c6 => ?_)
          · exact Sr ⟨(rfl : Ui (-1) (-1)), u_I2_24, u_L2_24⟩
          · exact (ih dp e 1 _ _ _ _ _ _ _ _ _ _ _ _ _ _ _ _ _ _ u_I2_24 u_L2_24 u_i1 u_i2 u_i3 (rfl : Ui (0) (0)) (rfl : Ui (0) (0)) (rfl : Ui (-1) (-1)) (rfl : Ui (0) (0)))
    refine Sc Iff.rfl (fun _ => ?_) (fun _ => ?_)
    · refine Sc (le_up (u_I 1 10) u_i7) (fun c1 => ?_) (fun c1 => ?_)
      · refine Sc (eq_up u_i3 (rfl : Ui 0 0)) (fun c2 => ?_) (fun c2 => ?_)
        · exact Sr ⟨u_i6, u_I, u_L⟩
        · exact Sr ⟨u_i5, u_I, u_L⟩
      · refine Sc (ix_up u_i7) (fun c3 => ?_) (fun _ => Sn)
        refine Sc Iff.rfl (fun c4 => ?_) (fun _ => Sn)
        refine Sg (fun g5 => ?_)
        refine SsI (ui_max (rfl : Ui (0) (0)) (ui_sub (ui_add u_i4 (ui_rd (a := 8) u_I u_i7 c3.1) g5.1) u_i1 g5.2)) (fun v_75 v_75' u_v_75 => ?_)
        refine Sc Iff.rfl (fun c6 => ?_) (fun _ => Sn)
        refine SsI (ui_max u_i5 u_v_75) (fun v_84 v_84' u_v_84 => ?_)
        refine Sc (eq_up u_i6 (rfl : Ui (-1) (-1))) (fun c7 => ?_) (fun c7 => ?_)
        · refine Sc (le_up u_v_75 u_i2) (fun c8 => ?_) (fun c8 => ?_)
          · exact (ih dp e 2 _ _ _ _ _ _ _ _ _ _ _ _ _ _ _ _ _ _ u_I u_L u_i1 u_i2 u_i3 u_v_75 u_v_84 u_i6 u_i7)
          · exact (ih dp e 2 _ _ _ _ _ _ _ _ _ _ _ _ _ _ _ _ _ _ u_I u_L u_i1 u_i2 u_i3 u_v_75 u_v_84 u_i7 u_i7)
        · exact (ih dp e 2 _ _ _ _ _ _ _ _ _ _ _ _ _ _ _ _ _ _ u_I u_L u_i1 u_i2 u_i3 u_v_75 u_v_84 u_i6 u_i7)
    refine Sc Iff.rfl (fun _ => ?_) (fun _ => ?_)
    · refine Sg (fun g1 => ?_)
      exact (ih dp e 1 _ _ _ _ _ _ _ _ _ _ _ _ _ _ _ _ _ _ u_I u_L u_i1 u_i2 u_i3 u_i4 u_i5 u_i6 (ui_add u_i7 (rfl : Ui (Int32.ofInt (1)) (1)) g1))
    exact Sn
set_option maxHeartbeats 4000000 in
set_option maxRecDepth 100000 in
def kf_182 : Nat → Nat → EN → Nat → JI → JI → Int → Int → Int → Option (JI × JI)
  | 0, _, _, _, _, _, _, _, _ => none
  | n + 1, dp, e, lab, I, L, i1, i2, i3 =>
    if lab = 0 then (kf_182 n dp e 1 I L i1 i1 0)
    else if lab = 1 then (if 15 ≤ i3 then (some (I, L)) else (if (-2147483648 ≤ i2 * 1103 ∧ i2 * 1103 ≤ 2147483647) ∧ (-2147483648 ≤ (i2 * 1103) + 12345 ∧ (i2 * 1103) + 12345 ≤ 2147483647) ∧ (-2147483647 ≤ ((i2 * 1103) + 12345)) then (stI (Int.tmod ((i2 * 1103) + 12345) 1000003) (fun v_23 => (if -2147483647 ≤ i3 then (if 0 ≤ (Int.tmod i3 3) ∧ (Int.tmod i3 3) < 3 then (if -2147483648 ≤ (I 2 (Int.tmod i3 3)) + 1 ∧ (I 2 (Int.tmod i3 3)) + 1 ≤ 2147483647 then (if ¬ (((I 2 (Int.tmod i3 3)) + 1) = 0) then (if 0 ≤ i3 ∧ i3 < 15 then (if -2147483647 ≤ v_23 then (stI (w2 I 90 i3 (Int.tmod v_23 ((I 2 (Int.tmod i3 3)) + 1))) (fun I_44 => (if -2147483648 ≤ i3 + 1 ∧ i3 + 1 ≤ 2147483647 then (kf_182 n dp e 1 I_44 L i1 v_23 (i3 + 1)) else none))) else none) else none) else none) else none) else none) else none))) else none))
    else none
set_option maxRecDepth 100000 in
theorem ke_182_0 (n : Nat) (dp : Nat) (e : EN) (I : JI) (L : JI) (i1 : Int) (i2 : Int) (i3 : Int) : kf_182 (n + 1) dp e 0 I L i1 i2 i3 = (kf_182 n dp e 1 I L i1 i1 0) := by rw [kf_182.eq_2, if_pos (show (0 : Nat) = 0 from rfl)]
set_option maxRecDepth 100000 in
theorem ke_182_1 (n : Nat) (dp : Nat) (e : EN) (I : JI) (L : JI) (i1 : Int) (i2 : Int) (i3 : Int) : kf_182 (n + 1) dp e 1 I L i1 i2 i3 = (if 15 ≤ i3 then (some (I, L)) else (if (-2147483648 ≤ i2 * 1103 ∧ i2 * 1103 ≤ 2147483647) ∧ (-2147483648 ≤ (i2 * 1103) + 12345 ∧ (i2 * 1103) + 12345 ≤ 2147483647) ∧ (-2147483647 ≤ ((i2 * 1103) + 12345)) then (stI (Int.tmod ((i2 * 1103) + 12345) 1000003) (fun v_23 => (if -2147483647 ≤ i3 then (if 0 ≤ (Int.tmod i3 3) ∧ (Int.tmod i3 3) < 3 then (if -2147483648 ≤ (I 2 (Int.tmod i3 3)) + 1 ∧ (I 2 (Int.tmod i3 3)) + 1 ≤ 2147483647 then (if ¬ (((I 2 (Int.tmod i3 3)) + 1) = 0) then (if 0 ≤ i3 ∧ i3 < 15 then (if -2147483647 ≤ v_23 then (stI (w2 I 90 i3 (Int.tmod v_23 ((I 2 (Int.tmod i3 3)) + 1))) (fun I_44 => (if -2147483648 ≤ i3 + 1 ∧ i3 + 1 ≤ 2147483647 then (kf_182 n dp e 1 I_44 L i1 v_23 (i3 + 1)) else none))) else none) else none) else none) else none) else none) else none))) else none)) := by rw [kf_182.eq_2, if_neg (show ¬ ((1 : Nat) = 0) by decide), if_pos (show (1 : Nat) = 1 from rfl)]
set_option maxHeartbeats 8000000 in
set_option maxRecDepth 100000 in
theorem ks_182 : ∀ (n : Nat) (dp : Nat) (e : EN) (lab : Nat) (I : Nat → Nat → Int32) (I' : JI) (L : Nat → Nat → Int64) (L' : JI) (i1 : Int32) (i1' : Int) (i2 : Int32) (i2' : Int) (i3 : Int32) (i3' : Int), Rli I I' → Rll L L' → Ui i1 i1' → Ui i2 i2' → Ui i3 i3' → Sim R2 (g_182 n dp e lab I L i1 i2 i3) (kf_182 n dp e lab I' L' i1' i2' i3') := by
  intro n
  induction n with
  | zero => intros; rw [kf_182.eq_1]; exact Sn
  | succ n ih =>
    intro dp e lab I I' L L' i1 i1' i2 i2' i3 i3' u_I u_L u_i1 u_i2 u_i3
    rw [g_182.eq_2, kf_182.eq_2]
    refine Sc Iff.rfl (fun _ => ?_) (fun _ => ?_)
    · exact (ih dp e 1 _ _ _ _ _ _ _ _ _ _ u_I u_L u_i1 u_i1 (rfl : Ui (0) (0)))
    refine Sc Iff.rfl (fun _ => ?_) (fun _ => ?_)
    · refine Sc (le_up (rfl : Ui (15) (15)) u_i3) (fun c1 => ?_) (fun c1 => ?_)
      · exact Sr ⟨u_I, u_L⟩
      · refine Sg (fun g2 => ?_)
        refine SsI (ui_rem (ui_add (ui_mul u_i2 (rfl : Ui (1103) (1103)) g2.1) (rfl : Ui (12345) (12345)) g2.2.1) (rfl : Ui (1000003) (1000003)) g2.2.2) (fun v_23 v_23' u_v_23 => ?_)
        refine Sg (fun g3 => ?_)
        refine Sc (ix_up (ui_rem u_i3 (rfl : Ui (3) (3)) g3)) (fun c4 => ?_) (fun _ => Sn)
        refine Sg (fun g5 => ?_)
        refine Sc (not_congr (eq_up (ui_add (ui_rd (a := 2) u_I (ui_rem u_i3 (rfl : Ui (3) (3)) g3) c4.1) (rfl : Ui (1) (1)) g5) (rfl : Ui 0 0))) (fun c6 => ?_) (fun _ => Sn)
        refine Sc (ix_up u_i3) (fun c7 => ?_) (fun _ => Sn)
        refine Sg (fun g8 => ?_)
        refine SsJ (ri_up u_I (kc_up u_i3 c7.1) (ui_rem u_v_23 (ui_add (ui_rd (a := 2) u_I (ui_rem u_i3 (rfl : Ui (3) (3)) g3) c4.1) (rfl : Ui (1) (1)) g5) g8)) (fun I_44 I_44' u_I_44 => ?_)
        refine Sg (fun g9 => ?_)
        exact (ih dp e 1 _ _ _ _ _ _ _ _ _ _ u_I_44 u_L u_i1 u_v_23 (ui_add u_i3 (rfl : Ui (Int32.ofInt (1)) (1)) g9))
    exact Sn
set_option maxHeartbeats 4000000 in
set_option maxRecDepth 100000 in
def kf_183 : Nat → Nat → EN → Nat → JI → JI → Int → Int → Option (Int × JI × JI)
  | 0, _, _, _, _, _, _, _ => none
  | n + 1, dp, e, lab, I, L, i1, i2 =>
    if lab = 0 then (if (I 0 17) = 0 then (some (((-1) : Int), I, L)) else (if 1 ≤ dp then ((kf_14 n (dp - 1) e 0 I L i1 0 4).bind (fun ⟨x0_10, I0_10, L0_10⟩ => (if x0_10 = 0 then (some (((-1) : Int), I0_10, L0_10)) else (if 1 ≤ dp then ((kf_14 n (dp - 1) e 0 I0_10 L0_10 i2 0 2).bind (fun ⟨x1_19, I1_19, L1_19⟩ => (if x1_19 = 0 then (some (((-1) : Int), I1_19, L1_19)) else (if (-2147483648 ≤ i1 * 3 ∧ i1 * 3 ≤ 2147483647) ∧ (-2147483648 ≤ (i1 * 3) + i2 ∧ (i1 * 3) + i2 ≤ 2147483647) then (if 0 ≤ ((i1 * 3) + i2) ∧ ((i1 * 3) + i2) < 15 then (some (((I1_19 91 ((i1 * 3) + i2)) : Int), I1_19, L1_19)) else none) else none)))) else none)))) else none))
    else none
set_option maxRecDepth 100000 in
theorem ke_183_0 (n : Nat) (dp : Nat) (e : EN) (I : JI) (L : JI) (i1 : Int) (i2 : Int) : kf_183 (n + 1) dp e 0 I L i1 i2 = (if (I 0 17) = 0 then (some (((-1) : Int), I, L)) else (if 1 ≤ dp then ((kf_14 n (dp - 1) e 0 I L i1 0 4).bind (fun ⟨x0_10, I0_10, L0_10⟩ => (if x0_10 = 0 then (some (((-1) : Int), I0_10, L0_10)) else (if 1 ≤ dp then ((kf_14 n (dp - 1) e 0 I0_10 L0_10 i2 0 2).bind (fun ⟨x1_19, I1_19, L1_19⟩ => (if x1_19 = 0 then (some (((-1) : Int), I1_19, L1_19)) else (if (-2147483648 ≤ i1 * 3 ∧ i1 * 3 ≤ 2147483647) ∧ (-2147483648 ≤ (i1 * 3) + i2 ∧ (i1 * 3) + i2 ≤ 2147483647) then (if 0 ≤ ((i1 * 3) + i2) ∧ ((i1 * 3) + i2) < 15 then (some (((I1_19 91 ((i1 * 3) + i2)) : Int), I1_19, L1_19)) else none) else none)))) else none)))) else none)) := by rw [kf_183.eq_2, if_pos (show (0 : Nat) = 0 from rfl)]
set_option maxHeartbeats 8000000 in
set_option maxRecDepth 100000 in
theorem ks_183 : ∀ (n : Nat) (dp : Nat) (e : EN) (lab : Nat) (I : Nat → Nat → Int32) (I' : JI) (L : Nat → Nat → Int64) (L' : JI) (i1 : Int32) (i1' : Int) (i2 : Int32) (i2' : Int), Rli I I' → Rll L L' → Ui i1 i1' → Ui i2 i2' → Sim R3 (g_183 n dp e lab I L i1 i2) (kf_183 n dp e lab I' L' i1' i2') := by
  intro n
  induction n with
  | zero => intros; rw [kf_183.eq_1]; exact Sn
  | succ n ih =>
    intro dp e lab I I' L L' i1 i1' i2 i2' u_I u_L u_i1 u_i2
    rw [g_183.eq_2, kf_183.eq_2]
    refine Sc Iff.rfl (fun _ => ?_) (fun _ => ?_)
    · refine Sc (eq_up (u_I 0 17) (rfl : Ui 0 0)) (fun c1 => ?_) (fun c1 => ?_)
      · exact Sr ⟨(rfl : Ui (-1) (-1)), u_I, u_L⟩
      · refine Sc Iff.rfl (fun c2 => ?_) (fun _ => Sn)
        refine Sb3 (ks_14 n (dp - 1) e 0 _ _ _ _ _ _ _ _ _ _ u_I u_L u_i1 (rfl : Ui (0) (0)) (rfl : Ui (4) (4))) (fun x0_10 x0_10' I0_10 I0_10' L0_10 L0_10' u_x0_10 u_I0_10 u_L0_10 => ?_)
        refine Sc (eq_up u_x0_10 (rfl : Ui 0 0)) (fun c3 => ?_) (fun c3 => ?_)
        · exact Sr ⟨(rfl : Ui (-1) (-1)), u_I0_10, u_L0_10⟩
        · refine Sc Iff.rfl (fun c4 => ?_) (fun _ => Sn)
          refine Sb3 (ks_14 n (dp - 1) e 0 _ _ _ _ _ _ _ _ _ _ u_I0_10 u_L0_10 u_i2 (rfl : Ui (0) (0)) (rfl : Ui (2) (2))) (fun x1_19 x1_19' I1_19 I1_19' L1_19 L1_19' u_x1_19 u_I1_19 u_L1_19 => ?_)
          refine Sc (eq_up u_x1_19 (rfl : Ui 0 0)) (fun c5 => ?_) (fun c5 => ?_)
          · exact Sr ⟨(rfl : Ui (-1) (-1)), u_I1_19, u_L1_19⟩
          · refine Sg (fun g6 => ?_)
            refine Sc (ix_up (ui_add (ui_mul u_i1 (rfl : Ui (3) (3)) g6.1) u_i2 g6.2)) (fun c7 => ?_) (fun _ => Sn)
            exact Sr ⟨(ui_rd (a := 91) u_I1_19 (ui_add (ui_mul u_i1 (rfl : Ui (3) (3)) g6.1) u_i2 g6.2) c7.1), u_I1_19, u_L1_19⟩
    exact Sn
set_option maxHeartbeats 4000000 in
set_option maxRecDepth 100000 in
def kf_186 : Nat → Nat → EN → Nat → JI → JI → Nat → Nat → Option (JI × JI)
  | 0, _, _, _, _, _, _, _ => none
  | n + 1, dp, e, lab, I, L, a0, a1 =>
    if lab = 0 then (if (a1 < e.1) ∧ ((e.2.1 a1).1 = 10) then ((e.2.2 a1 0).bind (fun b_1 => (if (a0 < e.1) ∧ ((e.2.1 a0).1 = 10) then ((e.2.2 a0 0).bind (fun b_6 => (if (a1 < e.1) ∧ ((e.2.1 a1).1 = 10) then (if (b_1 < e.1) ∧ ((e.2.1 b_1).1 = 13) then (if (b_6 < e.1) ∧ ((e.2.1 b_6).1 = 13) then (if ((¬ ((0 : Int) < 0)) ∧ ((¬ ((0 : Int) < 0)) ∧ ((¬ ((I a1 10) < 0)) ∧ (((0 + (Int.toNat (I a1 10))) ≤ (e.2.1 b_1).2) ∧ ((0 + (Int.toNat (I a1 10))) ≤ (e.2.1 b_6).2))))) ∧ (1 ≤ dp) then (if 0 ≤ (I a1 10) then (stI (cp2 I b_6 b_1 0 0 (I a1 10)) (fun I_14 => (if (a1 < e.1) ∧ ((e.2.1 a1).1 = 10) then ((e.2.2 a1 1).bind (fun b_18 => (if (a0 < e.1) ∧ ((e.2.1 a0).1 = 10) then ((e.2.2 a0 1).bind (fun b_23 => (if (a1 < e.1) ∧ ((e.2.1 a1).1 = 10) then (if (b_18 < e.1) ∧ ((e.2.1 b_18).1 = 13) then (if (b_23 < e.1) ∧ ((e.2.1 b_23).1 = 13) then (if ((¬ ((0 : Int) < 0)) ∧ ((¬ ((0 : Int) < 0)) ∧ ((¬ ((I_14 a1 10) < 0)) ∧ (((0 + (Int.toNat (I_14 a1 10))) ≤ (e.2.1 b_18).2) ∧ ((0 + (Int.toNat (I_14 a1 10))) ≤ (e.2.1 b_23).2))))) ∧ (1 ≤ dp) then (if 0 ≤ (I_14 a1 10) then (stI (cp2 I_14 b_23 b_18 0 0 (I_14 a1 10)) (fun I_31 => (if (a1 < e.1) ∧ ((e.2.1 a1).1 = 10) then ((e.2.2 a1 2).bind (fun b_35 => (if (a0 < e.1) ∧ ((e.2.1 a0).1 = 10) then ((e.2.2 a0 2).bind (fun b_40 => (if (a1 < e.1) ∧ ((e.2.1 a1).1 = 10) then (if (b_35 < e.1) ∧ ((e.2.1 b_35).1 = 13) then (if (b_40 < e.1) ∧ ((e.2.1 b_40).1 = 13) then (if ((¬ ((0 : Int) < 0)) ∧ ((¬ ((0 : Int) < 0)) ∧ ((¬ ((I_31 a1 10) < 0)) ∧ (((0 + (Int.toNat (I_31 a1 10))) ≤ (e.2.1 b_35).2) ∧ ((0 + (Int.toNat (I_31 a1 10))) ≤ (e.2.1 b_40).2))))) ∧ (1 ≤ dp) then (if 0 ≤ (I_31 a1 10) then (stI (cp2 I_31 b_40 b_35 0 0 (I_31 a1 10)) (fun I_48 => (if (a1 < e.1) ∧ ((e.2.1 a1).1 = 10) then ((e.2.2 a1 3).bind (fun b_52 => (if (a0 < e.1) ∧ ((e.2.1 a0).1 = 10) then ((e.2.2 a0 3).bind (fun b_57 => (if (a1 < e.1) ∧ ((e.2.1 a1).1 = 10) then (if (b_52 < e.1) ∧ ((e.2.1 b_52).1 = 13) then (if (b_57 < e.1) ∧ ((e.2.1 b_57).1 = 13) then (if ((¬ ((0 : Int) < 0)) ∧ ((¬ ((0 : Int) < 0)) ∧ ((¬ ((I_48 a1 10) < 0)) ∧ (((0 + (Int.toNat (I_48 a1 10))) ≤ (e.2.1 b_52).2) ∧ ((0 + (Int.toNat (I_48 a1 10))) ≤ (e.2.1 b_57).2))))) ∧ (1 ≤ dp) then (if 0 ≤ (I_48 a1 10) then (stI (cp2 I_48 b_57 b_52 0 0 (I_48 a1 10)) (fun I_65 => (if (a1 < e.1) ∧ ((e.2.1 a1).1 = 10) then ((e.2.2 a1 4).bind (fun b_69 => (if (a0 < e.1) ∧ ((e.2.1 a0).1 = 10) then ((e.2.2 a0 4).bind (fun b_74 => (if (a1 < e.1) ∧ ((e.2.1 a1).1 = 10) then (if (b_69 < e.1) ∧ ((e.2.1 b_69).1 = 13) then (if (b_74 < e.1) ∧ ((e.2.1 b_74).1 = 13) then (if ((¬ ((0 : Int) < 0)) ∧ ((¬ ((0 : Int) < 0)) ∧ ((¬ ((I_65 a1 10) < 0)) ∧ (((0 + (Int.toNat (I_65 a1 10))) ≤ (e.2.1 b_69).2) ∧ ((0 + (Int.toNat (I_65 a1 10))) ≤ (e.2.1 b_74).2))))) ∧ (1 ≤ dp) then (if 0 ≤ (I_65 a1 10) then (stI (cp2 I_65 b_74 b_69 0 0 (I_65 a1 10)) (fun I_82 => (if (a1 < e.1) ∧ ((e.2.1 a1).1 = 10) then ((e.2.2 a1 5).bind (fun b_86 => (if (a0 < e.1) ∧ ((e.2.1 a0).1 = 10) then ((e.2.2 a0 5).bind (fun b_91 => (if (a1 < e.1) ∧ ((e.2.1 a1).1 = 10) then (if (b_86 < e.1) ∧ ((e.2.1 b_86).1 = 13) then (if (b_91 < e.1) ∧ ((e.2.1 b_91).1 = 13) then (if ((¬ ((0 : Int) < 0)) ∧ ((¬ ((0 : Int) < 0)) ∧ ((¬ ((I_82 a1 11) < 0)) ∧ (((0 + (Int.toNat (I_82 a1 11))) ≤ (e.2.1 b_86).2) ∧ ((0 + (Int.toNat (I_82 a1 11))) ≤ (e.2.1 b_91).2))))) ∧ (1 ≤ dp) then (if 0 ≤ (I_82 a1 11) then (stI (cp2 I_82 b_91 b_86 0 0 (I_82 a1 11)) (fun I_99 => (if (a1 < e.1) ∧ ((e.2.1 a1).1 = 10) then ((e.2.2 a1 6).bind (fun b_103 => (if (a0 < e.1) ∧ ((e.2.1 a0).1 = 10) then ((e.2.2 a0 6).bind (fun b_108 => (if (a1 < e.1) ∧ ((e.2.1 a1).1 = 10) then (if (b_103 < e.1) ∧ ((e.2.1 b_103).1 = 13) then (if (b_108 < e.1) ∧ ((e.2.1 b_108).1 = 13) then (if ((¬ ((0 : Int) < 0)) ∧ ((¬ ((0 : Int) < 0)) ∧ ((¬ ((I_99 a1 11) < 0)) ∧ (((0 + (Int.toNat (I_99 a1 11))) ≤ (e.2.1 b_103).2) ∧ ((0 + (Int.toNat (I_99 a1 11))) ≤ (e.2.1 b_108).2))))) ∧ (1 ≤ dp) then (if 0 ≤ (I_99 a1 11) then (stI (cp2 I_99 b_108 b_103 0 0 (I_99 a1 11)) (fun I_116 => (if (a1 < e.1) ∧ ((e.2.1 a1).1 = 10) then ((e.2.2 a1 7).bind (fun b_120 => (if (a0 < e.1) ∧ ((e.2.1 a0).1 = 10) then ((e.2.2 a0 7).bind (fun b_125 => (if (a0 < e.1) ∧ ((e.2.1 a0).1 = 10) then ((e.2.2 a0 7).bind (fun b_130 => (if (b_130 < e.1) ∧ ((e.2.1 b_130).1 = 13) then (if (b_120 < e.1) ∧ ((e.2.1 b_120).1 = 13) then (if (b_125 < e.1) ∧ ((e.2.1 b_125).1 = 13) then (if (e.2.1 b_130).2 < 2147483648 then (if ((¬ ((0 : Int) < 0)) ∧ ((¬ ((0 : Int) < 0)) ∧ ((¬ ((((e.2.1 b_130).2 : Nat) : Int) < 0)) ∧ (((0 + (Int.toNat (((e.2.1 b_130).2 : Nat) : Int))) ≤ (e.2.1 b_120).2) ∧ ((0 + (Int.toNat (((e.2.1 b_130).2 : Nat) : Int))) ≤ (e.2.1 b_125).2))))) ∧ (1 ≤ dp) then (if 0 ≤ (((e.2.1 b_130).2 : Nat) : Int) then (stI (cp2 I_116 b_125 b_120 0 0 (((e.2.1 b_130).2 : Nat) : Int)) (fun I_134 => (if (a1 < e.1) ∧ ((e.2.1 a1).1 = 10) then ((e.2.2 a1 8).bind (fun b_138 => (if (a0 < e.1) ∧ ((e.2.1 a0).1 = 10) then ((e.2.2 a0 8).bind (fun b_143 => (if (a1 < e.1) ∧ ((e.2.1 a1).1 = 10) then (if (b_138 < e.1) ∧ ((e.2.1 b_138).1 = 13) then (if (b_143 < e.1) ∧ ((e.2.1 b_143).1 = 13) then (if ((¬ ((0 : Int) < 0)) ∧ ((¬ ((0 : Int) < 0)) ∧ ((¬ ((I_134 a1 12) < 0)) ∧ (((0 + (Int.toNat (I_134 a1 12))) ≤ (e.2.1 b_138).2) ∧ ((0 + (Int.toNat (I_134 a1 12))) ≤ (e.2.1 b_143).2))))) ∧ (1 ≤ dp) then (if 0 ≤ (I_134 a1 12) then (stI (cp2 I_134 b_143 b_138 0 0 (I_134 a1 12)) (fun I_151 => (if (a1 < e.1) ∧ ((e.2.1 a1).1 = 10) then ((e.2.2 a1 9).bind (fun b_155 => (if (a0 < e.1) ∧ ((e.2.1 a0).1 = 10) then ((e.2.2 a0 9).bind (fun b_160 => (if (a1 < e.1) ∧ ((e.2.1 a1).1 = 10) then (if (b_155 < e.1) ∧ ((e.2.1 b_155).1 = 13) then (if (b_160 < e.1) ∧ ((e.2.1 b_160).1 = 13) then (if ((¬ ((0 : Int) < 0)) ∧ ((¬ ((0 : Int) < 0)) ∧ ((¬ ((I_151 a1 12) < 0)) ∧ (((0 + (Int.toNat (I_151 a1 12))) ≤ (e.2.1 b_155).2) ∧ ((0 + (Int.toNat (I_151 a1 12))) ≤ (e.2.1 b_160).2))))) ∧ (1 ≤ dp) then (if 0 ≤ (I_151 a1 12) then (stI (cp2 I_151 b_160 b_155 0 0 (I_151 a1 12)) (fun I_168 => (if (a1 < e.1) ∧ ((e.2.1 a1).1 = 10) then (if (a0 < e.1) ∧ ((e.2.1 a0).1 = 10) then (stI (w2 I_168 a0 10 (I_168 a1 10)) (fun I_176 => (if (a1 < e.1) ∧ ((e.2.1 a1).1 = 10) then (if (a0 < e.1) ∧ ((e.2.1 a0).1 = 10) then (stI (w2 I_176 a0 11 (I_176 a1 11)) (fun I_184 => (if (a1 < e.1) ∧ ((e.2.1 a1).1 = 10) then (if (a0 < e.1) ∧ ((e.2.1 a0).1 = 10) then (stI (w2 I_184 a0 12 (I_184 a1 12)) (fun I_192 => (if (a1 < e.1) ∧ ((e.2.1 a1).1 = 10) then (if (a0 < e.1) ∧ ((e.2.1 a0).1 = 10) then (stI (w2 I_192 a0 13 (I_192 a1 13)) (fun I_200 => (some (I_200, L)))) else none) else none))) else none) else none))) else none) else none))) else none) else none))) else none) else none) else none) else none) else none))) else none))) else none))) else none) else none) else none) else none) else none))) else none))) else none))) else none) else none) else none) else none) else none) else none))) else none))) else none))) else none))) else none) else none) else none) else none) else none))) else none))) else none))) else none) else none) else none) else none) else none))) else none))) else none))) else none) else none) else none) else none) else none))) else none))) else none))) else none) else none) else none) else none) else none))) else none))) else none))) else none) else none) else none) else none) else none))) else none))) else none))) else none) else none) else none) else none) else none))) else none))) else none))) else none) else none) else none) else none) else none))) else none))) else none)
    else none
set_option maxRecDepth 100000 in
theorem ke_186_0 (n : Nat) (dp : Nat) (e : EN) (I : JI) (L : JI) (a0 : Nat) (a1 : Nat) : kf_186 (n + 1) dp e 0 I L a0 a1 = (if (a1 < e.1) ∧ ((e.2.1 a1).1 = 10) then ((e.2.2 a1 0).bind (fun b_1 => (if (a0 < e.1) ∧ ((e.2.1 a0).1 = 10) then ((e.2.2 a0 0).bind (fun b_6 => (if (a1 < e.1) ∧ ((e.2.1 a1).1 = 10) then (if (b_1 < e.1) ∧ ((e.2.1 b_1).1 = 13) then (if (b_6 < e.1) ∧ ((e.2.1 b_6).1 = 13) then (if ((¬ ((0 : Int) < 0)) ∧ ((¬ ((0 : Int) < 0)) ∧ ((¬ ((I a1 10) < 0)) ∧ (((0 + (Int.toNat (I a1 10))) ≤ (e.2.1 b_1).2) ∧ ((0 + (Int.toNat (I a1 10))) ≤ (e.2.1 b_6).2))))) ∧ (1 ≤ dp) then (if 0 ≤ (I a1 10) then (stI (cp2 I b_6 b_1 0 0 (I a1 10)) (fun I_14 => (if (a1 < e.1) ∧ ((e.2.1 a1).1 = 10) then ((e.2.2 a1 1).bind (fun b_18 => (if (a0 < e.1) ∧ ((e.2.1 a0).1 = 10) then ((e.2.2 a0 1).bind (fun b_23 => (if (a1 < e.1) ∧ ((e.2.1 a1).1 = 10) then (if (b_18 < e.1) ∧ ((e.2.1 b_18).1 = 13) then (if (b_23 < e.1) ∧ ((e.2.1 b_23).1 = 13) then (if ((¬ ((0 : Int) < 0)) ∧ ((¬ ((0 : Int) < 0)) ∧ ((¬ ((I_14 a1 10) < 0)) ∧ (((0 + (Int.toNat (I_14 a1 10))) ≤ (e.2.1 b_18).2) ∧ ((0 + (Int.toNat (I_14 a1 10))) ≤ (e.2.1 b_23).2))))) ∧ (1 ≤ dp) then (if 0 ≤ (I_14 a1 10) then (stI (cp2 I_14 b_23 b_18 0 0 (I_14 a1 10)) (fun I_31 => (if (a1 < e.1) ∧ ((e.2.1 a1).1 = 10) then ((e.2.2 a1 2).bind (fun b_35 => (if (a0 < e.1) ∧ ((e.2.1 a0).1 = 10) then ((e.2.2 a0 2).bind (fun b_40 => (if (a1 < e.1) ∧ ((e.2.1 a1).1 = 10) then (if (b_35 < e.1) ∧ ((e.2.1 b_35).1 = 13) then (if (b_40 < e.1) ∧ ((e.2.1 b_40).1 = 13) then (if ((¬ ((0 : Int) < 0)) ∧ ((¬ ((0 : Int) < 0)) ∧ ((¬ ((I_31 a1 10) < 0)) ∧ (((0 + (Int.toNat (I_31 a1 10))) ≤ (e.2.1 b_35).2) ∧ ((0 + (Int.toNat (I_31 a1 10))) ≤ (e.2.1 b_40).2))))) ∧ (1 ≤ dp) then (if 0 ≤ (I_31 a1 10) then (stI (cp2 I_31 b_40 b_35 0 0 (I_31 a1 10)) (fun I_48 => (if (a1 < e.1) ∧ ((e.2.1 a1).1 = 10) then ((e.2.2 a1 3).bind (fun b_52 => (if (a0 < e.1) ∧ ((e.2.1 a0).1 = 10) then ((e.2.2 a0 3).bind (fun b_57 => (if (a1 < e.1) ∧ ((e.2.1 a1).1 = 10) then (if (b_52 < e.1) ∧ ((e.2.1 b_52).1 = 13) then (if (b_57 < e.1) ∧ ((e.2.1 b_57).1 = 13) then (if ((¬ ((0 : Int) < 0)) ∧ ((¬ ((0 : Int) < 0)) ∧ ((¬ ((I_48 a1 10) < 0)) ∧ (((0 + (Int.toNat (I_48 a1 10))) ≤ (e.2.1 b_52).2) ∧ ((0 + (Int.toNat (I_48 a1 10))) ≤ (e.2.1 b_57).2))))) ∧ (1 ≤ dp) then (if 0 ≤ (I_48 a1 10) then (stI (cp2 I_48 b_57 b_52 0 0 (I_48 a1 10)) (fun I_65 => (if (a1 < e.1) ∧ ((e.2.1 a1).1 = 10) then ((e.2.2 a1 4).bind (fun b_69 => (if (a0 < e.1) ∧ ((e.2.1 a0).1 = 10) then ((e.2.2 a0 4).bind (fun b_74 => (if (a1 < e.1) ∧ ((e.2.1 a1).1 = 10) then (if (b_69 < e.1) ∧ ((e.2.1 b_69).1 = 13) then (if (b_74 < e.1) ∧ ((e.2.1 b_74).1 = 13) then (if ((¬ ((0 : Int) < 0)) ∧ ((¬ ((0 : Int) < 0)) ∧ ((¬ ((I_65 a1 10) < 0)) ∧ (((0 + (Int.toNat (I_65 a1 10))) ≤ (e.2.1 b_69).2) ∧ ((0 + (Int.toNat (I_65 a1 10))) ≤ (e.2.1 b_74).2))))) ∧ (1 ≤ dp) then (if 0 ≤ (I_65 a1 10) then (stI (cp2 I_65 b_74 b_69 0 0 (I_65 a1 10)) (fun I_82 => (if (a1 < e.1) ∧ ((e.2.1 a1).1 = 10) then ((e.2.2 a1 5).bind (fun b_86 => (if (a0 < e.1) ∧ ((e.2.1 a0).1 = 10) then ((e.2.2 a0 5).bind (fun b_91 => (if (a1 < e.1) ∧ ((e.2.1 a1).1 = 10) then (if (b_86 < e.1) ∧ ((e.2.1 b_86).1 = 13) then (if (b_91 < e.1) ∧ ((e.2.1 b_91).1 = 13) then (if ((¬ ((0 : Int) < 0)) ∧ ((¬ ((0 : Int) < 0)) ∧ ((¬ ((I_82 a1 11) < 0)) ∧ (((0 + (Int.toNat (I_82 a1 11))) ≤ (e.2.1 b_86).2) ∧ ((0 + (Int.toNat (I_82 a1 11))) ≤ (e.2.1 b_91).2))))) ∧ (1 ≤ dp) then (if 0 ≤ (I_82 a1 11) then (stI (cp2 I_82 b_91 b_86 0 0 (I_82 a1 11)) (fun I_99 => (if (a1 < e.1) ∧ ((e.2.1 a1).1 = 10) then ((e.2.2 a1 6).bind (fun b_103 => (if (a0 < e.1) ∧ ((e.2.1 a0).1 = 10) then ((e.2.2 a0 6).bind (fun b_108 => (if (a1 < e.1) ∧ ((e.2.1 a1).1 = 10) then (if (b_103 < e.1) ∧ ((e.2.1 b_103).1 = 13) then (if (b_108 < e.1) ∧ ((e.2.1 b_108).1 = 13) then (if ((¬ ((0 : Int) < 0)) ∧ ((¬ ((0 : Int) < 0)) ∧ ((¬ ((I_99 a1 11) < 0)) ∧ (((0 + (Int.toNat (I_99 a1 11))) ≤ (e.2.1 b_103).2) ∧ ((0 + (Int.toNat (I_99 a1 11))) ≤ (e.2.1 b_108).2))))) ∧ (1 ≤ dp) then (if 0 ≤ (I_99 a1 11) then (stI (cp2 I_99 b_108 b_103 0 0 (I_99 a1 11)) (fun I_116 => (if (a1 < e.1) ∧ ((e.2.1 a1).1 = 10) then ((e.2.2 a1 7).bind (fun b_120 => (if (a0 < e.1) ∧ ((e.2.1 a0).1 = 10) then ((e.2.2 a0 7).bind (fun b_125 => (if (a0 < e.1) ∧ ((e.2.1 a0).1 = 10) then ((e.2.2 a0 7).bind (fun b_130 => (if (b_130 < e.1) ∧ ((e.2.1 b_130).1 = 13) then (if (b_120 < e.1) ∧ ((e.2.1 b_120).1 = 13) then (if (b_125 < e.1) ∧ ((e.2.1 b_125).1 = 13) then (if (e.2.1 b_130).2 < 2147483648 then (if ((¬ ((0 : Int) < 0)) ∧ ((¬ ((0 : Int) < 0)) ∧ ((¬ ((((e.2.1 b_130).2 : Nat) : Int) < 0)) ∧ (((0 + (Int.toNat (((e.2.1 b_130).2 : Nat) : Int))) ≤ (e.2.1 b_120).2) ∧ ((0 + (Int.toNat (((e.2.1 b_130).2 : Nat) : Int))) ≤ (e.2.1 b_125).2))))) ∧ (1 ≤ dp) then (if 0 ≤ (((e.2.1 b_130).2 : Nat) : Int) then (stI (cp2 I_116 b_125 b_120 0 0 (((e.2.1 b_130).2 : Nat) : Int)) (fun I_134 => (if (a1 < e.1) ∧ ((e.2.1 a1).1 = 10) then ((e.2.2 a1 8).bind (fun b_138 => (if (a0 < e.1) ∧ ((e.2.1 a0).1 = 10) then ((e.2.2 a0 8).bind (fun b_143 => (if (a1 < e.1) ∧ ((e.2.1 a1).1 = 10) then (if (b_138 < e.1) ∧ ((e.2.1 b_138).1 = 13) then (if (b_143 < e.1) ∧ ((e.2.1 b_143).1 = 13) then (if ((¬ ((0 : Int) < 0)) ∧ ((¬ ((0 : Int) < 0)) ∧ ((¬ ((I_134 a1 12) < 0)) ∧ (((0 + (Int.toNat (I_134 a1 12))) ≤ (e.2.1 b_138).2) ∧ ((0 + (Int.toNat (I_134 a1 12))) ≤ (e.2.1 b_143).2))))) ∧ (1 ≤ dp) then (if 0 ≤ (I_134 a1 12) then (stI (cp2 I_134 b_143 b_138 0 0 (I_134 a1 12)) (fun I_151 => (if (a1 < e.1) ∧ ((e.2.1 a1).1 = 10) then ((e.2.2 a1 9).bind (fun b_155 => (if (a0 < e.1) ∧ ((e.2.1 a0).1 = 10) then ((e.2.2 a0 9).bind (fun b_160 => (if (a1 < e.1) ∧ ((e.2.1 a1).1 = 10) then (if (b_155 < e.1) ∧ ((e.2.1 b_155).1 = 13) then (if (b_160 < e.1) ∧ ((e.2.1 b_160).1 = 13) then (if ((¬ ((0 : Int) < 0)) ∧ ((¬ ((0 : Int) < 0)) ∧ ((¬ ((I_151 a1 12) < 0)) ∧ (((0 + (Int.toNat (I_151 a1 12))) ≤ (e.2.1 b_155).2) ∧ ((0 + (Int.toNat (I_151 a1 12))) ≤ (e.2.1 b_160).2))))) ∧ (1 ≤ dp) then (if 0 ≤ (I_151 a1 12) then (stI (cp2 I_151 b_160 b_155 0 0 (I_151 a1 12)) (fun I_168 => (if (a1 < e.1) ∧ ((e.2.1 a1).1 = 10) then (if (a0 < e.1) ∧ ((e.2.1 a0).1 = 10) then (stI (w2 I_168 a0 10 (I_168 a1 10)) (fun I_176 => (if (a1 < e.1) ∧ ((e.2.1 a1).1 = 10) then (if (a0 < e.1) ∧ ((e.2.1 a0).1 = 10) then (stI (w2 I_176 a0 11 (I_176 a1 11)) (fun I_184 => (if (a1 < e.1) ∧ ((e.2.1 a1).1 = 10) then (if (a0 < e.1) ∧ ((e.2.1 a0).1 = 10) then (stI (w2 I_184 a0 12 (I_184 a1 12)) (fun I_192 => (if (a1 < e.1) ∧ ((e.2.1 a1).1 = 10) then (if (a0 < e.1) ∧ ((e.2.1 a0).1 = 10) then (stI (w2 I_192 a0 13 (I_192 a1 13)) (fun I_200 => (some (I_200, L)))) else none) else none))) else none) else none))) else none) else none))) else none) else none))) else none) else none) else none) else none) else none))) else none))) else none))) else none) else none) else none) else none) else none))) else none))) else none))) else none) else none) else none) else none) else none) else none))) else none))) else none))) else none))) else none) else none) else none) else none) else none))) else none))) else none))) else none) else none) else none) else none) else none))) else none))) else none))) else none) else none) else none) else none) else none))) else none))) else none))) else none) else none) else none) else none) else none))) else none))) else none))) else none) else none) else none) else none) else none))) else none))) else none))) else none) else none) else none) else none) else none))) else none))) else none))) else none) else none) else none) else none) else none))) else none))) else none) := by rw [kf_186.eq_2, if_pos (show (0 : Nat) = 0 from rfl)]
set_option maxHeartbeats 8000000 in
set_option maxRecDepth 100000 in
theorem ks_186 : ∀ (n : Nat) (dp : Nat) (e : EN) (lab : Nat) (I : Nat → Nat → Int32) (I' : JI) (L : Nat → Nat → Int64) (L' : JI) (a0 : Nat) (a1 : Nat), Rli I I' → Rll L L' → Sim R2 (g_186 n dp e lab I L a0 a1) (kf_186 n dp e lab I' L' a0 a1) := by
  intro n
  induction n with
  | zero => intros; rw [kf_186.eq_1]; exact Sn
  | succ n ih =>
    intro dp e lab I I' L L' a0 a1 u_I u_L
    rw [g_186.eq_2, kf_186.eq_2]
    refine Sc Iff.rfl (fun _ => ?_) (fun _ => ?_)
    · refine Sc Iff.rfl (fun c1 => ?_) (fun _ => Sn)
      refine SbE rfl (fun b_1 => ?_)
      refine Sc Iff.rfl (fun c2 => ?_) (fun _ => Sn)
      refine SbE rfl (fun b_6 => ?_)
      refine Sc Iff.rfl (fun c3 => ?_) (fun _ => Sn)
      refine Sc Iff.rfl (fun c4 => ?_) (fun _ => Sn)
      refine Sc Iff.rfl (fun c5 => ?_) (fun _ => Sn)
      refine Sc (and_congr (and_congr (not_congr (lt_up (rfl : Ui (0) (0)) (rfl : Ui 0 0))) (and_congr (not_congr (lt_up (rfl : Ui (0) (0)) (rfl : Ui 0 0))) (and_congr (not_congr (lt_up (u_I a1 10) (rfl : Ui 0 0))) (and_congr (by first | (rw [cl_up (u_I a1 10)]; done) | (rw [cl_up (u_I a1 10)]; exact Iff.rfl)) (by first | (rw [cl_up (u_I a1 10)]; done) | (rw [cl_up (u_I a1 10)]; exact Iff.rfl)))))) Iff.rfl) (fun c6 => ?_) (fun _ => Sn)
      refine Sg (fun g7 => ?_)
      refine SsJ (ri_cp u_I (rfl : Ui (0) (0)) (rfl : Ui (0) (0)) (u_I a1 10) ⟨(show (0 : Int) ≤ 0 from (by decide)), (show (0 : Int) ≤ 0 from (by decide)), g7⟩) (fun I_14 I_14' u_I_14 => ?_)
      refine Sc Iff.rfl (fun c8 => ?_) (fun _ => Sn)
      refine SbE rfl (fun b_18 => ?_)
      refine Sc Iff.rfl (fun c9 => ?_) (fun _ => Sn)
      refine SbE rfl (fun b_23 => ?_)
      refine Sc Iff.rfl (fun c10 => ?_) (fun _ => Sn)
      refine Sc Iff.rfl (fun c11 => ?_) (fun _ => Sn)
      refine Sc Iff.rfl (fun c12 => ?_) (fun _ => Sn)
      refine Sc (and_congr (and_congr (not_congr (lt_up (rfl : Ui (0) (0)) (rfl : Ui 0 0))) (and_congr (not_congr (lt_up (rfl : Ui (0) (0)) (rfl : Ui 0 0))) (and_congr (not_congr (lt_up (u_I_14 a1 10) (rfl : Ui 0 0))) (and_congr (by first | (rw [cl_up (u_I_14 a1 10)]; done) | (rw [cl_up (u_I_14 a1 10)]; exact Iff.rfl)) (by first | (rw [cl_up (u_I_14 a1 10)]; done) | (rw [cl_up (u_I_14 a1 10)]; exact Iff.rfl)))))) Iff.rfl) (fun c13 => ?_) (fun _ => Sn)
      refine Sg (fun g14 => ?_)
      refine SsJ (ri_cp u_I_14 (rfl : Ui (0) (0)) (rfl : Ui (0) (0)) (u_I_14 a1 10) ⟨(show (0 : Int) ≤ 0 from (by decide)), (show (0 : Int) ≤ 0 from (by decide)), g14⟩) (fun I_31 I_31' u_I_31 => ?_)
      refine Sc Iff.rfl (fun c15 => ?_) (fun _ => Sn)
      refine SbE rfl (fun b_35 => ?_)
      refine Sc Iff.rfl (fun c16 => ?_) (fun _ => Sn)
      refine SbE rfl (fun b_40 => ?_)
      refine Sc Iff.rfl (fun c17 => ?_) (fun _ => Sn)
      refine Sc Iff.rfl (fun c18 => ?_) (fun _ => Sn)
      refine Sc Iff.rfl (fun c19 => ?_) (fun _ => Sn)
      refine Sc (and_congr (and_congr (not_congr (lt_up (rfl : Ui (0) (0)) (rfl : Ui 0 0))) (and_congr (not_congr (lt_up (rfl : Ui (0) (0)) (rfl : Ui 0 0))) (and_congr (not_congr (lt_up (u_I_31 a1 10) (rfl : Ui 0 0))) (and_congr (by first | (rw [cl_up (u_I_31 a1 10)]; done) | (rw [cl_up (u_I_31 a1 10)]; exact Iff.rfl)) (by first | (rw [cl_up (u_I_31 a1 10)]; done) | (rw [cl_up (u_I_31 a1 10)]; exact Iff.rfl)))))) Iff.rfl) (fun c20 => ?_) (fun _ => Sn)
      refine Sg (fun g21 => ?_)
      refine SsJ (ri_cp u_I_31 (rfl : Ui (0) (0)) (rfl : Ui (0) (0)) (u_I_31 a1 10) ⟨(show (0 : Int) ≤ 0 from (by decide)), (show (0 : Int) ≤ 0 from (by decide)), g21⟩) (fun I_48 I_48' u_I_48 => ?_)
      refine Sc Iff.rfl (fun c22 => ?_) (fun _ => Sn)
      refine SbE rfl (fun b_52 => ?_)
      refine Sc Iff.rfl (fun c23 => ?_) (fun _ => Sn)
      refine SbE rfl (fun b_57 => ?_)
      refine Sc Iff.rfl (fun c24 => ?_) (fun _ => Sn)
      refine Sc Iff.rfl (fun c25 => ?_) (fun _ => Sn)
      refine Sc Iff.rfl (fun c26 => ?_) (fun _ => Sn)
      refine Sc (and_congr (and_congr (not_congr (lt_up (rfl : Ui (0) (0)) (rfl : Ui 0 0))) (and_congr (not_congr (lt_up (rfl : Ui (0) (0)) (rfl : Ui 0 0))) (and_congr (not_congr (lt_up (u_I_48 a1 10) (rfl : Ui 0 0))) (and_congr (by first | (rw [cl_up (u_I_48 a1 10)]; done) | (rw [cl_up (u_I_48 a1 10)]; exact Iff.rfl)) (by first | (rw [cl_up (u_I_48 a1 10)]; done) | (rw [cl_up (u_I_48 a1 10)]; exact Iff.rfl)))))) Iff.rfl) (fun c27 => ?_) (fun _ => Sn)
      refine Sg (fun g28 => ?_)
      refine SsJ (ri_cp u_I_48 (rfl : Ui (0) (0)) (rfl : Ui (0) (0)) (u_I_48 a1 10) ⟨(show (0 : Int) ≤ 0 from (by decide)), (show (0 : Int) ≤ 0 from (by decide)), g28⟩) (fun I_65 I_65' u_I_65 => ?_)
      refine Sc Iff.rfl (fun c29 => ?_) (fun _ => Sn)
      refine SbE rfl (fun b_69 => ?_)
      refine Sc Iff.rfl (fun c30 => ?_) (fun _ => Sn)
      refine SbE rfl (fun b_74 => ?_)
      refine Sc Iff.rfl (fun c31 => ?_) (fun _ => Sn)
      refine Sc Iff.rfl (fun c32 => ?_) (fun _ => Sn)
      refine Sc Iff.rfl (fun c33 => ?_) (fun _ => Sn)
      refine Sc (and_congr (and_congr (not_congr (lt_up (rfl : Ui (0) (0)) (rfl : Ui 0 0))) (and_congr (not_congr (lt_up (rfl : Ui (0) (0)) (rfl : Ui 0 0))) (and_congr (not_congr (lt_up (u_I_65 a1 10) (rfl : Ui 0 0))) (and_congr (by first | (rw [cl_up (u_I_65 a1 10)]; done) | (rw [cl_up (u_I_65 a1 10)]; exact Iff.rfl)) (by first | (rw [cl_up (u_I_65 a1 10)]; done) | (rw [cl_up (u_I_65 a1 10)]; exact Iff.rfl)))))) Iff.rfl) (fun c34 => ?_) (fun _ => Sn)
      refine Sg (fun g35 => ?_)
      refine SsJ (ri_cp u_I_65 (rfl : Ui (0) (0)) (rfl : Ui (0) (0)) (u_I_65 a1 10) ⟨(show (0 : Int) ≤ 0 from (by decide)), (show (0 : Int) ≤ 0 from (by decide)), g35⟩) (fun I_82 I_82' u_I_82 => ?_)
      refine Sc Iff.rfl (fun c36 => ?_) (fun _ => Sn)
      refine SbE rfl (fun b_86 => ?_)
      refine Sc Iff.rfl (fun c37 => ?_) (fun _ => Sn)
      refine SbE rfl (fun b_91 => ?_)
      refine Sc Iff.rfl (fun c38 => ?_) (fun _ => Sn)
      refine Sc Iff.rfl (fun c39 => ?_) (fun _ => Sn)
      refine Sc Iff.rfl (fun c40 => ?_) (fun _ => Sn)
      refine Sc (and_congr (and_congr (not_congr (lt_up (rfl : Ui (0) (0)) (rfl : Ui 0 0))) (and_congr (not_congr (lt_up (rfl : Ui (0) (0)) (rfl : Ui 0 0))) (and_congr (not_congr (lt_up (u_I_82 a1 11) (rfl : Ui 0 0))) (and_congr (by first | (rw [cl_up (u_I_82 a1 11)]; done) | (rw [cl_up (u_I_82 a1 11)]; exact Iff.rfl)) (by first | (rw [cl_up (u_I_82 a1 11)]; done) | (rw [cl_up (u_I_82 a1 11)]; exact Iff.rfl)))))) Iff.rfl) (fun c41 => ?_) (fun _ => Sn)
      refine Sg (fun g42 => ?_)
      refine SsJ (ri_cp u_I_82 (rfl : Ui (0) (0)) (rfl : Ui (0) (0)) (u_I_82 a1 11) ⟨(show (0 : Int) ≤ 0 from (by decide)), (show (0 : Int) ≤ 0 from (by decide)), g42⟩) (fun I_99 I_99' u_I_99 => ?_)
      refine Sc Iff.rfl (fun c43 => ?_) (fun _ => Sn)
      refine SbE rfl (fun b_103 => ?_)
      refine Sc Iff.rfl (fun c44 => ?_) (fun _ => Sn)
      refine SbE rfl (fun b_108 => ?_)
      refine Sc Iff.rfl (fun c45 => ?_) (fun _ => Sn)
      refine Sc Iff.rfl (fun c46 => ?_) (fun _ => Sn)
      refine Sc Iff.rfl (fun c47 => ?_) (fun _ => Sn)
      refine Sc (and_congr (and_congr (not_congr (lt_up (rfl : Ui (0) (0)) (rfl : Ui 0 0))) (and_congr (not_congr (lt_up (rfl : Ui (0) (0)) (rfl : Ui 0 0))) (and_congr (not_congr (lt_up (u_I_99 a1 11) (rfl : Ui 0 0))) (and_congr (by first | (rw [cl_up (u_I_99 a1 11)]; done) | (rw [cl_up (u_I_99 a1 11)]; exact Iff.rfl)) (by first | (rw [cl_up (u_I_99 a1 11)]; done) | (rw [cl_up (u_I_99 a1 11)]; exact Iff.rfl)))))) Iff.rfl) (fun c48 => ?_) (fun _ => Sn)
      refine Sg (fun g49 => ?_)
      refine SsJ (ri_cp u_I_99 (rfl : Ui (0) (0)) (rfl : Ui (0) (0)) (u_I_99 a1 11) ⟨(show (0 : Int) ≤ 0 from (by decide)), (show (0 : Int) ≤ 0 from (by decide)), g49⟩) (fun I_116 I_116' u_I_116 => ?_)
      refine Sc Iff.rfl (fun c50 => ?_) (fun _ => Sn)
      refine SbE rfl (fun b_120 => ?_)
      refine Sc Iff.rfl (fun c51 => ?_) (fun _ => Sn)
      refine SbE rfl (fun b_125 => ?_)
      refine Sc Iff.rfl (fun c52 => ?_) (fun _ => Sn)
      refine SbE rfl (fun b_130 => ?_)
      refine Sc Iff.rfl (fun c53 => ?_) (fun _ => Sn)
      refine Sc Iff.rfl (fun c54 => ?_) (fun _ => Sn)
      refine Sc Iff.rfl (fun c55 => ?_) (fun _ => Sn)
      refine Sg (fun g56 => ?_)
      refine Sc (and_congr (and_congr (not_congr (lt_up (rfl : Ui (0) (0)) (rfl : Ui 0 0))) (and_congr (not_congr (lt_up (rfl : Ui (0) (0)) (rfl : Ui 0 0))) (and_congr (not_congr (lt_up (ui_nI g56) (rfl : Ui 0 0))) (and_congr (by first | (rw [cl_up (ui_nI g56)]; done) | (rw [cl_up (ui_nI g56)]; exact Iff.rfl)) (by first | (rw [cl_up (ui_nI g56)]; done) | (rw [cl_up (ui_nI g56)]; exact Iff.rfl)))))) Iff.rfl) (fun c57 => ?_) (fun _ => Sn)
      refine Sg (fun g58 => ?_)
      refine SsJ (ri_cp u_I_116 (rfl : Ui (0) (0)) (rfl : Ui (0) (0)) (ui_nI g56) ⟨(show (0 : Int) ≤ 0 from (by decide)), (show (0 : Int) ≤ 0 from (by decide)), g58⟩) (fun I_134 I_134' u_I_134 => ?_)
      refine Sc Iff.rfl (fun c59 => ?_) (fun _ => Sn)
      refine SbE rfl (fun b_138 => ?_)
      refine Sc Iff.rfl (fun c60 => ?_) (fun _ => Sn)
      refine SbE rfl (fun b_143 => ?_)
      refine Sc Iff.rfl (fun c61 => ?_) (fun _ => Sn)
      refine Sc Iff.rfl (fun c62 => ?_) (fun _ => Sn)
      refine Sc Iff.rfl (fun c63 => ?_) (fun _ => Sn)
      refine Sc (and_congr (and_congr (not_congr (lt_up (rfl : Ui (0) (0)) (rfl : Ui 0 0))) (and_congr (not_congr (lt_up (rfl : Ui (0) (0)) (rfl : Ui 0 0))) (and_congr (not_congr (lt_up (u_I_134 a1 12) (rfl : Ui 0 0))) (and_congr (by first | (rw [cl_up (u_I_134 a1 12)]; done) | (rw [cl_up (u_I_134 a1 12)]; exact Iff.rfl)) (by first | (rw [cl_up (u_I_134 a1 12)]; done) | (rw [cl_up (u_I_134 a1 12)]; exact Iff.rfl)))))) Iff.rfl) (fun c64 => ?_) (fun _ => Sn)
      refine Sg (fun g65 => ?_)
      refine SsJ (ri_cp u_I_134 (rfl : Ui (0) (0)) (rfl : Ui (0) (0)) (u_I_134 a1 12) ⟨(show (0 : Int) ≤ 0 from (by decide)), (show (0 : Int) ≤ 0 from (by decide)), g65⟩) (fun I_151 I_151' u_I_151 => ?_)
      refine Sc Iff.rfl (fun c66 => ?_) (fun _ => Sn)
      refine SbE rfl (fun b_155 => ?_)
      refine Sc Iff.rfl (fun c67 => ?_) (fun _ => Sn)
      refine SbE rfl (fun b_160 => ?_)
      refine Sc Iff.rfl (fun c68 => ?_) (fun _ => Sn)
      refine Sc Iff.rfl (fun c69 => ?_) (fun _ => Sn)
      refine Sc Iff.rfl (fun c70 => ?_) (fun _ => Sn)
      refine Sc (and_congr (and_congr (not_congr (lt_up (rfl : Ui (0) (0)) (rfl : Ui 0 0))) (and_congr (not_congr (lt_up (rfl : Ui (0) (0)) (rfl : Ui 0 0))) (and_congr (not_congr (lt_up (u_I_151 a1 12) (rfl : Ui 0 0))) (and_congr (by first | (rw [cl_up (u_I_151 a1 12)]; done) | (rw [cl_up (u_I_151 a1 12)]; exact Iff.rfl)) (by first | (rw [cl_up (u_I_151 a1 12)]; done) | (rw [cl_up (u_I_151 a1 12)]; exact Iff.rfl)))))) Iff.rfl) (fun c71 => ?_) (fun _ => Sn)
      refine Sg (fun g72 => ?_)
      refine SsJ (ri_cp u_I_151 (rfl : Ui (0) (0)) (rfl : Ui (0) (0)) (u_I_151 a1 12) ⟨(show (0 : Int) ≤ 0 from (by decide)), (show (0 : Int) ≤ 0 from (by decide)), g72⟩) (fun I_168 I_168' u_I_168 => ?_)
      refine Sc Iff.rfl (fun c73 => ?_) (fun _ => Sn)
      refine Sc Iff.rfl (fun c74 => ?_) (fun _ => Sn)
      refine SsJ (ri_up u_I_168 (rfl : ((10 : Nat) : Int) = 10) (u_I_168 a1 10)) (fun I_176 I_176' u_I_176 => ?_)
      refine Sc Iff.rfl (fun c75 => ?_) (fun _ => Sn)
      refine Sc Iff.rfl (fun c76 => ?_) (fun _ => Sn)
      refine SsJ (ri_up u_I_176 (rfl : ((11 : Nat) : Int) = 11) (u_I_176 a1 11)) (fun I_184 I_184' u_I_184 => ?_)
      refine Sc Iff.rfl (fun c77 => ?_) (fun _ => Sn)
      refine Sc Iff.rfl (fun c78 => ?_) (fun _ => Sn)
      refine SsJ (ri_up u_I_184 (rfl : ((12 : Nat) : Int) = 12) (u_I_184 a1 12)) (fun I_192 I_192' u_I_192 => ?_)
      refine Sc Iff.rfl (fun c79 => ?_) (fun _ => Sn)
      refine Sc Iff.rfl (fun c80 => ?_) (fun _ => Sn)
      refine SsJ (ri_up u_I_192 (rfl : ((13 : Nat) : Int) = 13) (u_I_192 a1 13)) (fun I_200 I_200' u_I_200 => ?_)
      exact Sr ⟨u_I_200, u_L⟩
    exact Sn
set_option maxHeartbeats 4000000 in
set_option maxRecDepth 100000 in
def kf_185 : Nat → Nat → EN → Nat → JI → JI → Nat → Nat → Option (JI × JI)
  | 0, _, _, _, _, _, _, _ => none
  | n + 1, dp, e, lab, I, L, a0, a1 =>
    if lab = 0 then (if (a1 < e.1) ∧ ((e.2.1 a1).1 = 3) then ((e.2.2 a1 0).bind (fun b_1 => (if (a0 < e.1) ∧ ((e.2.1 a0).1 = 3) then ((e.2.2 a0 0).bind (fun b_6 => (if (a0 < e.1) ∧ ((e.2.1 a0).1 = 3) then ((e.2.2 a0 0).bind (fun b_11 => (if (b_11 < e.1) ∧ ((e.2.1 b_11).1 = 13) then (if (b_1 < e.1) ∧ ((e.2.1 b_1).1 = 13) then (if (b_6 < e.1) ∧ ((e.2.1 b_6).1 = 13) then (if (e.2.1 b_11).2 < 2147483648 then (if ((¬ ((0 : Int) < 0)) ∧ ((¬ ((0 : Int) < 0)) ∧ ((¬ ((((e.2.1 b_11).2 : Nat) : Int) < 0)) ∧ (((0 + (Int.toNat (((e.2.1 b_11).2 : Nat) : Int))) ≤ (e.2.1 b_1).2) ∧ ((0 + (Int.toNat (((e.2.1 b_11).2 : Nat) : Int))) ≤ (e.2.1 b_6).2))))) ∧ (1 ≤ dp) then (if 0 ≤ (((e.2.1 b_11).2 : Nat) : Int) then (stI (cp2 I b_6 b_1 0 0 (((e.2.1 b_11).2 : Nat) : Int)) (fun I_15 => (if (a1 < e.1) ∧ ((e.2.1 a1).1 = 3) then ((e.2.2 a1 1).bind (fun b_19 => (if (a0 < e.1) ∧ ((e.2.1 a0).1 = 3) then ((e.2.2 a0 1).bind (fun b_24 => (if (a0 < e.1) ∧ ((e.2.1 a0).1 = 3) then ((e.2.2 a0 1).bind (fun b_29 => (if (b_29 < e.1) ∧ ((e.2.1 b_29).1 = 13) then (if (b_19 < e.1) ∧ ((e.2.1 b_19).1 = 13) then (if (b_24 < e.1) ∧ ((e.2.1 b_24).1 = 13) then (if (e.2.1 b_29).2 < 2147483648 then (if ((¬ ((0 : Int) < 0)) ∧ ((¬ ((0 : Int) < 0)) ∧ ((¬ ((((e.2.1 b_29).2 : Nat) : Int) < 0)) ∧ (((0 + (Int.toNat (((e.2.1 b_29).2 : Nat) : Int))) ≤ (e.2.1 b_19).2) ∧ ((0 + (Int.toNat (((e.2.1 b_29).2 : Nat) : Int))) ≤ (e.2.1 b_24).2))))) ∧ (1 ≤ dp) then (if 0 ≤ (((e.2.1 b_29).2 : Nat) : Int) then (stI (cp2 I_15 b_24 b_19 0 0 (((e.2.1 b_29).2 : Nat) : Int)) (fun I_33 => (if (a1 < e.1) ∧ ((e.2.1 a1).1 = 3) then ((e.2.2 a1 2).bind (fun b_37 => (if (a0 < e.1) ∧ ((e.2.1 a0).1 = 3) then ((e.2.2 a0 2).bind (fun b_42 => (if (a0 < e.1) ∧ ((e.2.1 a0).1 = 3) then ((e.2.2 a0 2).bind (fun b_47 => (if (b_47 < e.1) ∧ ((e.2.1 b_47).1 = 13) then (if (b_37 < e.1) ∧ ((e.2.1 b_37).1 = 13) then (if (b_42 < e.1) ∧ ((e.2.1 b_42).1 = 13) then (if (e.2.1 b_47).2 < 2147483648 then (if ((¬ ((0 : Int) < 0)) ∧ ((¬ ((0 : Int) < 0)) ∧ ((¬ ((((e.2.1 b_47).2 : Nat) : Int) < 0)) ∧ (((0 + (Int.toNat (((e.2.1 b_47).2 : Nat) : Int))) ≤ (e.2.1 b_37).2) ∧ ((0 + (Int.toNat (((e.2.1 b_47).2 : Nat) : Int))) ≤ (e.2.1 b_42).2))))) ∧ (1 ≤ dp) then (if 0 ≤ (((e.2.1 b_47).2 : Nat) : Int) then (stI (cp2 I_33 b_42 b_37 0 0 (((e.2.1 b_47).2 : Nat) : Int)) (fun I_51 => (if (a1 < e.1) ∧ ((e.2.1 a1).1 = 3) then ((e.2.2 a1 3).bind (fun b_55 => (if (a0 < e.1) ∧ ((e.2.1 a0).1 = 3) then ((e.2.2 a0 3).bind (fun b_60 => (if (a0 < e.1) ∧ ((e.2.1 a0).1 = 3) then ((e.2.2 a0 3).bind (fun b_65 => (if (b_65 < e.1) ∧ ((e.2.1 b_65).1 = 13) then (if (b_55 < e.1) ∧ ((e.2.1 b_55).1 = 13) then (if (b_60 < e.1) ∧ ((e.2.1 b_60).1 = 13) then (if (e.2.1 b_65).2 < 2147483648 then (if ((¬ ((0 : Int) < 0)) ∧ ((¬ ((0 : Int) < 0)) ∧ ((¬ ((((e.2.1 b_65).2 : Nat) : Int) < 0)) ∧ (((0 + (Int.toNat (((e.2.1 b_65).2 : Nat) : Int))) ≤ (e.2.1 b_55).2) ∧ ((0 + (Int.toNat (((e.2.1 b_65).2 : Nat) : Int))) ≤ (e.2.1 b_60).2))))) ∧ (1 ≤ dp) then (if 0 ≤ (((e.2.1 b_65).2 : Nat) : Int) then (stI (cp2 I_51 b_60 b_55 0 0 (((e.2.1 b_65).2 : Nat) : Int)) (fun I_69 => (if (a1 < e.1) ∧ ((e.2.1 a1).1 = 3) then ((e.2.2 a1 4).bind (fun b_73 => (if (a0 < e.1) ∧ ((e.2.1 a0).1 = 3) then ((e.2.2 a0 4).bind (fun b_78 => (if (a0 < e.1) ∧ ((e.2.1 a0).1 = 3) then ((e.2.2 a0 4).bind (fun b_83 => (if (b_83 < e.1) ∧ ((e.2.1 b_83).1 = 13) then (if (b_73 < e.1) ∧ ((e.2.1 b_73).1 = 13) then (if (b_78 < e.1) ∧ ((e.2.1 b_78).1 = 13) then (if (e.2.1 b_83).2 < 2147483648 then (if ((¬ ((0 : Int) < 0)) ∧ ((¬ ((0 : Int) < 0)) ∧ ((¬ ((((e.2.1 b_83).2 : Nat) : Int) < 0)) ∧ (((0 + (Int.toNat (((e.2.1 b_83).2 : Nat) : Int))) ≤ (e.2.1 b_73).2) ∧ ((0 + (Int.toNat (((e.2.1 b_83).2 : Nat) : Int))) ≤ (e.2.1 b_78).2))))) ∧ (1 ≤ dp) then (if 0 ≤ (((e.2.1 b_83).2 : Nat) : Int) then (stI (cp2 I_69 b_78 b_73 0 0 (((e.2.1 b_83).2 : Nat) : Int)) (fun I_87 => (if (a1 < e.1) ∧ ((e.2.1 a1).1 = 3) then ((e.2.2 a1 5).bind (fun b_91 => (if (a0 < e.1) ∧ ((e.2.1 a0).1 = 3) then ((e.2.2 a0 5).bind (fun b_96 => (if (a0 < e.1) ∧ ((e.2.1 a0).1 = 3) then ((e.2.2 a0 5).bind (fun b_101 => (if (b_101 < e.1) ∧ ((e.2.1 b_101).1 = 13) then (if (b_91 < e.1) ∧ ((e.2.1 b_91).1 = 13) then (if (b_96 < e.1) ∧ ((e.2.1 b_96).1 = 13) then (if (e.2.1 b_101).2 < 2147483648 then (if ((¬ ((0 : Int) < 0)) ∧ ((¬ ((0 : Int) < 0)) ∧ ((¬ ((((e.2.1 b_101).2 : Nat) : Int) < 0)) ∧ (((0 + (Int.toNat (((e.2.1 b_101).2 : Nat) : Int))) ≤ (e.2.1 b_91).2) ∧ ((0 + (Int.toNat (((e.2.1 b_101).2 : Nat) : Int))) ≤ (e.2.1 b_96).2))))) ∧ (1 ≤ dp) then (if 0 ≤ (((e.2.1 b_101).2 : Nat) : Int) then (stI (cp2 I_87 b_96 b_91 0 0 (((e.2.1 b_101).2 : Nat) : Int)) (fun I_105 => (if (a1 < e.1) ∧ ((e.2.1 a1).1 = 3) then ((e.2.2 a1 6).bind (fun b_109 => (if (a0 < e.1) ∧ ((e.2.1 a0).1 = 3) then ((e.2.2 a0 6).bind (fun b_114 => (if (a0 < e.1) ∧ ((e.2.1 a0).1 = 3) then ((e.2.2 a0 6).bind (fun b_119 => (if (b_119 < e.1) ∧ ((e.2.1 b_119).1 = 13) then (if (b_109 < e.1) ∧ ((e.2.1 b_109).1 = 13) then (if (b_114 < e.1) ∧ ((e.2.1 b_114).1 = 13) then (if (e.2.1 b_119).2 < 2147483648 then (if ((¬ ((0 : Int) < 0)) ∧ ((¬ ((0 : Int) < 0)) ∧ ((¬ ((((e.2.1 b_119).2 : Nat) : Int) < 0)) ∧ (((0 + (Int.toNat (((e.2.1 b_119).2 : Nat) : Int))) ≤ (e.2.1 b_109).2) ∧ ((0 + (Int.toNat (((e.2.1 b_119).2 : Nat) : Int))) ≤ (e.2.1 b_114).2))))) ∧ (1 ≤ dp) then (if 0 ≤ (((e.2.1 b_119).2 : Nat) : Int) then (stI (cp2 I_105 b_114 b_109 0 0 (((e.2.1 b_119).2 : Nat) : Int)) (fun I_123 => (if (a0 < e.1) ∧ ((e.2.1 a0).1 = 3) then ((e.2.2 a0 7).bind (fun b_127 => (if (a1 < e.1) ∧ ((e.2.1 a1).1 = 3) then ((e.2.2 a1 7).bind (fun b_131 => (if (b_127 < e.1) ∧ ((e.2.1 b_127).1 = 10) then (if 1 ≤ dp then ((kf_186 n (dp - 1) e 0 I_123 L b_127 b_131).bind (fun ⟨I0_134, L0_134⟩ => (if (a1 < e.1) ∧ ((e.2.1 a1).1 = 3) then (if (a0 < e.1) ∧ ((e.2.1 a0).1 = 3) then (stI (w2 I0_134 a0 8 (I0_134 a1 8)) (fun I_142 => (if (a1 < e.1) ∧ ((e.2.1 a1).1 = 3) then (if (a0 < e.1) ∧ ((e.2.1 a0).1 = 3) then (stI (w2 I_142 a0 9 (I_142 a1 9)) (fun I_150 => (if (a1 < e.1) ∧ ((e.2.1 a1).1 = 3) then (if (a0 < e.1) ∧ ((e.2.1 a0).1 = 3) then (stI (w2 I_150 a0 10 (I_150 a1 10)) (fun I_158 => (if (a1 < e.1) ∧ ((e.2.1 a1).1 = 3) then (if (a0 < e.1) ∧ ((e.2.1 a0).1 = 3) then (stI (w2 I_158 a0 11 (I_158 a1 11)) (fun I_166 => (if (a1 < e.1) ∧ ((e.2.1 a1).1 = 3) then (if (a0 < e.1) ∧ ((e.2.1 a0).1 = 3) then (stI (w2 I_166 a0 12 (I_166 a1 12)) (fun I_174 => (some (I_174, L0_134)))) else none) else none))) else none) else none))) else none) else none))) else none) else none))) else none) else none))) else none) else none))) else none))) else none))) else none) else none) else none) else none) else none) else none))) else none))) else none))) else none))) else none) else none) else none) else none) else none) else none))) else none))) else none))) else none))) else none) else none) else none) else none) else none) else none))) else none))) else none))) else none))) else none) else none) else none) else none) else none) else none))) else none))) else none))) else none))) else none) else none) else none) else none) else none) else none))) else none))) else none))) else none))) else none) else none) else none) else none) else none) else none))) else none))) else none))) else none))) else none) else none) else none) else none) else none) else none))) else none))) else none))) else none)
    else none
set_option maxRecDepth 100000 in
theorem ke_185_0 (n : Nat) (dp : Nat) (e : EN) (I : JI) (L : JI) (a0 : Nat) (a1 : Nat) : kf_185 (n + 1) dp e 0 I L a0 a1 = (if (a1 < e.1) ∧ ((e.2.1 a1).1 = 3) then ((e.2.2 a1 0).bind (fun b_1 => (if (a0 < e.1) ∧ ((e.2.1 a0).1 = 3) then ((e.2.2 a0 0).bind (fun b_6 => (if (a0 < e.1) ∧ ((e.2.1 a0).1 = 3) then ((e.2.2 a0 0).bind (fun b_11 => (if (b_11 < e.1) ∧ ((e.2.1 b_11).1 = 13) then (if (b_1 < e.1) ∧ ((e.2.1 b_1).1 = 13) then (if (b_6 < e.1) ∧ ((e.2.1 b_6).1 = 13) then (if (e.2.1 b_11).2 < 2147483648 then (if ((¬ ((0 : Int) < 0)) ∧ ((¬ ((0 : Int) < 0)) ∧ ((¬ ((((e.2.1 b_11).2 : Nat) : Int) < 0)) ∧ (((0 + (Int.toNat (((e.2.1 b_11).2 : Nat) : Int))) ≤ (e.2.1 b_1).2) ∧ ((0 + (Int.toNat (((e.2.1 b_11).2 : Nat) : Int))) ≤ (e.2.1 b_6).2))))) ∧ (1 ≤ dp) then (if 0 ≤ (((e.2.1 b_11).2 : Nat) : Int) then (stI (cp2 I b_6 b_1 0 0 (((e.2.1 b_11).2 : Nat) : Int)) (fun I_15 => (if (a1 < e.1) ∧ ((e.2.1 a1).1 = 3) then ((e.2.2 a1 1).bind (fun b_19 => (if (a0 < e.1) ∧ ((e.2.1 a0).1 = 3) then ((e.2.2 a0 1).bind (fun b_24 => (if (a0 < e.1) ∧ ((e.2.1 a0).1 = 3) then ((e.2.2 a0 1).bind (fun b_29 => (if (b_29 < e.1) ∧ ((e.2.1 b_29).1 = 13) then (if (b_19 < e.1) ∧ ((e.2.1 b_19).1 = 13) then (if (b_24 < e.1) ∧ ((e.2.1 b_24).1 = 13) then (if (e.2.1 b_29).2 < 2147483648 then (if ((¬ ((0 : Int) < 0)) ∧ ((¬ ((0 : Int) < 0)) ∧ ((¬ ((((e.2.1 b_29).2 : Nat) : Int) < 0)) ∧ (((0 + (Int.toNat (((e.2.1 b_29).2 : Nat) : Int))) ≤ (e.2.1 b_19).2) ∧ ((0 + (Int.toNat (((e.2.1 b_29).2 : Nat) : Int))) ≤ (e.2.1 b_24).2))))) ∧ (1 ≤ dp) then (if 0 ≤ (((e.2.1 b_29).2 : Nat) : Int) then (stI (cp2 I_15 b_24 b_19 0 0 (((e.2.1 b_29).2 : Nat) : Int)) (fun I_33 => (if (a1 < e.1) ∧ ((e.2.1 a1).1 = 3) then ((e.2.2 a1 2).bind (fun b_37 => (if (a0 < e.1) ∧ ((e.2.1 a0).1 = 3) then ((e.2.2 a0 2).bind (fun b_42 => (if (a0 < e.1) ∧ ((e.2.1 a0).1 = 3) then ((e.2.2 a0 2).bind (fun b_47 => (if (b_47 < e.1) ∧ ((e.2.1 b_47).1 = 13) then (if (b_37 < e.1) ∧ ((e.2.1 b_37).1 = 13) then (if (b_42 < e.1) ∧ ((e.2.1 b_42).1 = 13) then (if (e.2.1 b_47).2 < 2147483648 then (if ((¬ ((0 : Int) < 0)) ∧ ((¬ ((0 : Int) < 0)) ∧ ((¬ ((((e.2.1 b_47).2 : Nat) : Int) < 0)) ∧ (((0 + (Int.toNat (((e.2.1 b_47).2 : Nat) : Int))) ≤ (e.2.1 b_37).2) ∧ ((0 + (Int.toNat (((e.2.1 b_47).2 : Nat) : Int))) ≤ (e.2.1 b_42).2))))) ∧ (1 ≤ dp) then (if 0 ≤ (((e.2.1 b_47).2 : Nat) : Int) then (stI (cp2 I_33 b_42 b_37 0 0 (((e.2.1 b_47).2 : Nat) : Int)) (fun I_51 => (if (a1 < e.1) ∧ ((e.2.1 a1).1 = 3) then ((e.2.2 a1 3).bind (fun b_55 => (if (a0 < e.1) ∧ ((e.2.1 a0).1 = 3) then ((e.2.2 a0 3).bind (fun b_60 => (if (a0 < e.1) ∧ ((e.2.1 a0).1 = 3) then ((e.2.2 a0 3).bind (fun b_65 => (if (b_65 < e.1) ∧ ((e.2.1 b_65).1 = 13) then (if (b_55 < e.1) ∧ ((e.2.1 b_55).1 = 13) then (if (b_60 < e.1) ∧ ((e.2.1 b_60).1 = 13) then (if (e.2.1 b_65).2 < 2147483648 then (if ((¬ ((0 : Int) < 0)) ∧ ((¬ ((0 : Int) < 0)) ∧ ((¬ ((((e.2.1 b_65).2 : Nat) : Int) < 0)) ∧ (((0 + (Int.toNat (((e.2.1 b_65).2 : Nat) : Int))) ≤ (e.2.1 b_55).2) ∧ ((0 + (Int.toNat (((e.2.1 b_65).2 : Nat) : Int))) ≤ (e.2.1 b_60).2))))) ∧ (1 ≤ dp) then (if 0 ≤ (((e.2.1 b_65).2 : Nat) : Int) then (stI (cp2 I_51 b_60 b_55 0 0 (((e.2.1 b_65).2 : Nat) : Int)) (fun I_69 => (if (a1 < e.1) ∧ ((e.2.1 a1).1 = 3) then ((e.2.2 a1 4).bind (fun b_73 => (if (a0 < e.1) ∧ ((e.2.1 a0).1 = 3) then ((e.2.2 a0 4).bind (fun b_78 => (if (a0 < e.1) ∧ ((e.2.1 a0).1 = 3) then ((e.2.2 a0 4).bind (fun b_83 => (if (b_83 < e.1) ∧ ((e.2.1 b_83).1 = 13) then (if (b_73 < e.1) ∧ ((e.2.1 b_73).1 = 13) then (if (b_78 < e.1) ∧ ((e.2.1 b_78).1 = 13) then (if (e.2.1 b_83).2 < 2147483648 then (if ((¬ ((0 : Int) < 0)) ∧ ((¬ ((0 : Int) < 0)) ∧ ((¬ ((((e.2.1 b_83).2 : Nat) : Int) < 0)) ∧ (((0 + (Int.toNat (((e.2.1 b_83).2 : Nat) : Int))) ≤ (e.2.1 b_73).2) ∧ ((0 + (Int.toNat (((e.2.1 b_83).2 : Nat) : Int))) ≤ (e.2.1 b_78).2))))) ∧ (1 ≤ dp) then (if 0 ≤ (((e.2.1 b_83).2 : Nat) : Int) then (stI (cp2 I_69 b_78 b_73 0 0 (((e.2.1 b_83).2 : Nat) : Int)) (fun I_87 => (if (a1 < e.1) ∧ ((e.2.1 a1).1 = 3) then ((e.2.2 a1 5).bind (fun b_91 => (if (a0 < e.1) ∧ ((e.2.1 a0).1 = 3) then ((e.2.2 a0 5).bind (fun b_96 => (if (a0 < e.1) ∧ ((e.2.1 a0).1 = 3) then ((e.2.2 a0 5).bind (fun b_101 => (if (b_101 < e.1) ∧ ((e.2.1 b_101).1 = 13) then (if (b_91 < e.1) ∧ ((e.2.1 b_91).1 = 13) then (if (b_96 < e.1) ∧ ((e.2.1 b_96).1 = 13) then (if (e.2.1 b_101).2 < 2147483648 then (if ((¬ ((0 : Int) < 0)) ∧ ((¬ ((0 : Int) < 0)) ∧ ((¬ ((((e.2.1 b_101).2 : Nat) : Int) < 0)) ∧ (((0 + (Int.toNat (((e.2.1 b_101).2 : Nat) : Int))) ≤ (e.2.1 b_91).2) ∧ ((0 + (Int.toNat (((e.2.1 b_101).2 : Nat) : Int))) ≤ (e.2.1 b_96).2))))) ∧ (1 ≤ dp) then (if 0 ≤ (((e.2.1 b_101).2 : Nat) : Int) then (stI (cp2 I_87 b_96 b_91 0 0 (((e.2.1 b_101).2 : Nat) : Int)) (fun I_105 => (if (a1 < e.1) ∧ ((e.2.1 a1).1 = 3) then ((e.2.2 a1 6).bind (fun b_109 => (if (a0 < e.1) ∧ ((e.2.1 a0).1 = 3) then ((e.2.2 a0 6).bind (fun b_114 => (if (a0 < e.1) ∧ ((e.2.1 a0).1 = 3) then ((e.2.2 a0 6).bind (fun b_119 => (if (b_119 < e.1) ∧ ((e.2.1 b_119).1 = 13) then (if (b_109 < e.1) ∧ ((e.2.1 b_109).1 = 13) then (if (b_114 < e.1) ∧ ((e.2.1 b_114).1 = 13) then (if (e.2.1 b_119).2 < 2147483648 then (if ((¬ ((0 : Int) < 0)) ∧ ((¬ ((0 : Int) < 0)) ∧ ((¬ ((((e.2.1 b_119).2 : Nat) : Int) < 0)) ∧ (((0 + (Int.toNat (((e.2.1 b_119).2 : Nat) : Int))) ≤ (e.2.1 b_109).2) ∧ ((0 + (Int.toNat (((e.2.1 b_119).2 : Nat) : Int))) ≤ (e.2.1 b_114).2))))) ∧ (1 ≤ dp) then (if 0 ≤ (((e.2.1 b_119).2 : Nat) : Int) then (stI (cp2 I_105 b_114 b_109 0 0 (((e.2.1 b_119).2 : Nat) : Int)) (fun I_123 => (if (a0 < e.1) ∧ ((e.2.1 a0).1 = 3) then ((e.2.2 a0 7).bind (fun b_127 => (if (a1 < e.1) ∧ ((e.2.1 a1).1 = 3) then ((e.2.2 a1 7).bind (fun b_131 => (if (b_127 < e.1) ∧ ((e.2.1 b_127).1 = 10) then (if 1 ≤ dp then ((kf_186 n (dp - 1) e 0 I_123 L b_127 b_131).bind (fun ⟨I0_134, L0_134⟩ => (if (a1 < e.1) ∧ ((e.2.1 a1).1 = 3) then (if (a0 < e.1) ∧ ((e.2.1 a0).1 = 3) then (stI (w2 I0_134 a0 8 (I0_134 a1 8)) (fun I_142 => (if (a1 < e.1) ∧ ((e.2.1 a1).1 = 3) then (if (a0 < e.1) ∧ ((e.2.1 a0).1 = 3) then (stI (w2 I_142 a0 9 (I_142 a1 9)) (fun I_150 => (if (a1 < e.1) ∧ ((e.2.1 a1).1 = 3) then (if (a0 < e.1) ∧ ((e.2.1 a0).1 = 3) then (stI (w2 I_150 a0 10 (I_150 a1 10)) (fun I_158 => (if (a1 < e.1) ∧ ((e.2.1 a1).1 = 3) then (if (a0 < e.1) ∧ ((e.2.1 a0).1 = 3) then (stI (w2 I_158 a0 11 (I_158 a1 11)) (fun I_166 => (if (a1 < e.1) ∧ ((e.2.1 a1).1 = 3) then (if (a0 < e.1) ∧ ((e.2.1 a0).1 = 3) then (stI (w2 I_166 a0 12 (I_166 a1 12)) (fun I_174 => (some (I_174, L0_134)))) else none) else none))) else none) else none))) else none) else none))) else none) else none))) else none) else none))) else none) else none))) else none))) else none))) else none) else none) else none) else none) else none) else none))) else none))) else none))) else none))) else none) else none) else none) else none) else none) else none))) else none))) else none))) else none))) else none) else none) else none) else none) else none) else none))) else none))) else none))) else none))) else none) else none) else none) else none) else none) else none))) else none))) else none))) else none))) else none) else none) else none) else none) else none) else none))) else none))) else none))) else none))) else none) else none) else none) else none) else none) else none))) else none))) else none))) else none))) else none) else none) else none) else none) else none) else none))) else none))) else none))) else none) := by rw [kf_185.eq_2, if_pos (show (0 : Nat) = 0 from rfl)]
set_option maxHeartbeats 8000000 in
set_option maxRecDepth 100000 in
theorem ks_185 : ∀ (n : Nat) (dp : Nat) (e : EN) (lab : Nat) (I : Nat → Nat → Int32) (I' : JI) (L : Nat → Nat → Int64) (L' : JI) (a0 : Nat) (a1 : Nat), Rli I I' → Rll L L' → Sim R2 (g_185 n dp e lab I L a0 a1) (kf_185 n dp e lab I' L' a0 a1) := by
  intro n
  induction n with
  | zero => intros; rw [kf_185.eq_1]; exact Sn
  | succ n ih =>
    intro dp e lab I I' L L' a0 a1 u_I u_L
    rw [g_185.eq_2, kf_185.eq_2]
    refine Sc Iff.rfl (fun _ => ?_) (fun _ => ?_)
    · refine Sc Iff.rfl (fun c1 => ?_) (fun _ => Sn)
      refine SbE rfl (fun b_1 => ?_)
      refine Sc Iff.rfl (fun c2 => ?_) (fun _ => Sn)
      refine SbE rfl (fun b_6 => ?_)
      refine Sc Iff.rfl (fun c3 => ?_) (fun _ => Sn)
      refine SbE rfl (fun b_11 => ?_)
      refine Sc Iff.rfl (fun c4 => ?_) (fun _ => Sn)
      refine Sc Iff.rfl (fun c5 => ?_) (fun _ => Sn)
      refine Sc Iff.rfl (fun c6 => ?_) (fun _ => Sn)
      refine Sg (fun g7 => ?_)
      refine Sc (and_congr (and_congr (not_congr (lt_up (rfl : Ui (0) (0)) (rfl : Ui 0 0))) (and_congr (not_congr (lt_up (rfl : Ui (0) (0)) (rfl : Ui 0 0))) (and_congr (not_congr (lt_up (ui_nI g7) (rfl : Ui 0 0))) (and_congr (by first | (rw [cl_up (ui_nI g7)]; done) | (rw [cl_up (ui_nI g7)]; exact Iff.rfl)) (by first | (rw [cl_up (ui_nI g7)]; done) | (rw [cl_up (ui_nI g7)]; exact Iff.rfl)))))) Iff.rfl) (fun c8 => ?_) (fun _ => Sn)
      refine Sg (fun g9 => ?_)
      refine SsJ (ri_cp u_I (rfl : Ui (0) (0)) (rfl : Ui (0) (0)) (ui_nI g7) ⟨(show (0 : Int) ≤ 0 from (by decide)), (show (0 : Int) ≤ 0 from (by decide)), g9⟩) (fun I_15 I_15' u_I_15 => ?_)
      refine Sc Iff.rfl (fun c10 => ?_) (fun _ => Sn)
      refine SbE rfl (fun b_19 => ?_)
      refine Sc Iff.rfl (fun c11 => ?_) (fun _ => Sn)
      refine SbE rfl (fun b_24 => ?_)
      refine Sc Iff.rfl (fun c12 => ?_) (fun _ => Sn)
      refine SbE rfl (fun b_29 => ?_)
      refine Sc Iff.rfl (fun c13 => ?_) (fun _ => Sn)
      refine Sc Iff.rfl (fun c14 => ?_) (fun _ => Sn)
      refine Sc Iff.rfl (fun c15 => ?_) (fun _ => Sn)
      refine Sg (fun g16 => ?_)
      refine Sc (and_congr (and_congr (not_congr (lt_up (rfl : Ui (0) (0)) (rfl : Ui 0 0))) (and_congr (not_congr (lt_up (rfl : Ui (0) (0)) (rfl : Ui 0 0))) (and_congr (not_congr (lt_up (ui_nI g16) (rfl : Ui 0 0))) (and_congr (by first | (rw [cl_up (ui_nI g16)]; done) | (rw [cl_up (ui_nI g16)]; exact Iff.rfl)) (by first | (rw [cl_up (ui_nI g16)]; done) | (rw [cl_up (ui_nI g16)]; exact Iff.rfl)))))) Iff.rfl) (fun c17 => ?_) (fun _ => Sn)
      refine Sg (fun g18 => ?_)
      refine SsJ (ri_cp u_I_15 (rfl : Ui (0) (0)) (rfl : Ui (0) (0)) (ui_nI g16) ⟨(show (0 : Int) ≤ 0 from (by decide)), (show (0 : Int) ≤ 0 from (by decide)), g18⟩) (fun I_33 I_33' u_I_33 => ?_)
      refine Sc Iff.rfl (fun c19 => ?_) (fun _ => Sn)
      refine SbE rfl (fun b_37 => ?_)
      refine Sc Iff.rfl (fun c20 => ?_) (fun _ => Sn)
      refine SbE rfl (fun b_42 => ?_)
      refine Sc Iff.rfl (fun c21 => ?_) (fun _ => Sn)
      refine SbE rfl (fun b_47 => ?_)
      refine Sc Iff.rfl (fun c22 => ?_) (fun _ => Sn)
      refine Sc Iff.rfl (fun c23 => ?_) (fun _ => Sn)
      refine Sc Iff.rfl (fun c24 => ?_) (fun _ => Sn)
      refine Sg (fun g25 => ?_)
      refine Sc (and_congr (and_congr (not_congr (lt_up (rfl : Ui (0) (0)) (rfl : Ui 0 0))) (and_congr (not_congr (lt_up (rfl : Ui (0) (0)) (rfl : Ui 0 0))) (and_congr (not_congr (lt_up (ui_nI g25) (rfl : Ui 0 0))) (and_congr (by first | (rw [cl_up (ui_nI g25)]; done) | (rw [cl_up (ui_nI g25)]; exact Iff.rfl)) (by first | (rw [cl_up (ui_nI g25)]; done) | (rw [cl_up (ui_nI g25)]; exact Iff.rfl)))))) Iff.rfl) (fun c26 => ?_) (fun _ => Sn)
      refine Sg (fun g27 => ?_)
      refine SsJ (ri_cp u_I_33 (rfl : Ui (0) (0)) (rfl : Ui (0) (0)) (ui_nI g25) ⟨(show (0 : Int) ≤ 0 from (by decide)), (show (0 : Int) ≤ 0 from (by decide)), g27⟩) (fun I_51 I_51' u_I_51 => ?_)
      refine Sc Iff.rfl (fun c28 => ?_) (fun _ => Sn)
      refine SbE rfl (fun b_55 => ?_)
      refine Sc Iff.rfl (fun c29 => ?_) (fun _ => Sn)
      refine SbE rfl (fun b_60 => ?_)
      refine Sc Iff.rfl (fun c30 => ?_) (fun _ => Sn)
      refine SbE rfl (fun b_65 => ?_)
      refine Sc Iff.rfl (fun c31 => ?_) (fun _ => Sn)
      refine Sc Iff.rfl (fun c32 => ?_) (fun _ => Sn)
      refine Sc Iff.rfl (fun c33 => ?_) (fun _ => Sn)
      refine Sg (fun g34 => ?_)
      refine Sc (and_congr (and_congr (not_congr (lt_up (rfl : Ui (0) (0)) (rfl : Ui 0 0))) (and_congr (not_congr (lt_up (rfl : Ui (0) (0)) (rfl : Ui 0 0))) (and_congr (not_congr (lt_up (ui_nI g34) (rfl : Ui 0 0))) (and_congr (by first | (rw [cl_up (ui_nI g34)]; done) | (rw [cl_up (ui_nI g34)]; exact Iff.rfl)) (by first | (rw [cl_up (ui_nI g34)]; done) | (rw [cl_up (ui_nI g34)]; exact Iff.rfl)))))) Iff.rfl) (fun c35 => ?_) (fun _ => Sn)
      refine Sg (fun g36 => ?_)
      refine SsJ (ri_cp u_I_51 (rfl : Ui (0) (0)) (rfl : Ui (0) (0)) (ui_nI g34) ⟨(show (0 : Int) ≤ 0 from (by decide)), (show (0 : Int) ≤ 0 from (by decide)), g36⟩) (fun I_69 I_69' u_I_69 => ?_)
      refine Sc Iff.rfl (fun c37 => ?_) (fun _ => Sn)
      refine SbE rfl (fun b_73 => ?_)
      refine Sc Iff.rfl (fun c38 => ?_) (fun _ => Sn)
      refine SbE rfl (fun b_78 => ?_)
      refine Sc Iff.rfl (fun c39 => ?_) (fun _ => Sn)
      refine SbE rfl (fun b_83 => ?_)
      refine Sc Iff.rfl (fun c40 => ?_) (fun _ => Sn)
      refine Sc Iff.rfl (fun c41 => ?_) (fun _ => Sn)
      refine Sc Iff.rfl (fun c42 => ?_) (fun _ => Sn)
      refine Sg (fun g43 => ?_)
      refine Sc (and_congr (and_congr (not_congr (lt_up (rfl : Ui (0) (0)) (rfl : Ui 0 0))) (and_congr (not_congr (lt_up (rfl : Ui (0) (0)) (rfl : Ui 0 0))) (and_congr (not_congr (lt_up (ui_nI g43) (rfl : Ui 0 0))) (and_congr (by first | (rw [cl_up (ui_nI g43)]; done) | (rw [cl_up (ui_nI g43)]; exact Iff.rfl)) (by first | (rw [cl_up (ui_nI g43)]; done) | (rw [cl_up (ui_nI g43)]; exact Iff.rfl)))))) Iff.rfl) (fun c44 => ?_) (fun _ => Sn)
      refine Sg (fun g45 => ?_)
      refine SsJ (ri_cp u_I_69 (rfl : Ui (0) (0)) (rfl : Ui (0) (0)) (ui_nI g43) ⟨(show (0 : Int) ≤ 0 from (by decide)), (show (0 : Int) ≤ 0 from (by decide)), g45⟩) (fun I_87 I_87' u_I_87 => ?_)
      refine Sc Iff.rfl (fun c46 => ?_) (fun _ => Sn)
      refine SbE rfl (fun b_91 => ?_)
      refine Sc Iff.rfl (fun c47 => ?_) (fun _ => Sn)
      refine SbE rfl (fun b_96 => ?_)
      refine Sc Iff.rfl (fun c48 => ?_) (fun _ => Sn)
      refine SbE rfl (fun b_101 => ?_)
      refine Sc Iff.rfl (fun c49 => ?_) (fun _ => Sn)
      refine Sc Iff.rfl (fun c50 => ?_) (fun _ => Sn)
      refine Sc Iff.rfl (fun c51 => ?_) (fun _ => Sn)
      refine Sg (fun g52 => ?_)
      refine Sc (and_congr (and_congr (not_congr (lt_up (rfl : Ui (0) (0)) (rfl : Ui 0 0))) (and_congr (not_congr (lt_up (rfl : Ui (0) (0)) (rfl : Ui 0 0))) (and_congr (not_congr (lt_up (ui_nI g52) (rfl : Ui 0 0))) (and_congr (by first | (rw [cl_up (ui_nI g52)]; done) | (rw [cl_up (ui_nI g52)]; exact Iff.rfl)) (by first | (rw [cl_up (ui_nI g52)]; done) | (rw [cl_up (ui_nI g52)]; exact Iff.rfl)))))) Iff.rfl) (fun c53 => ?_) (fun _ => Sn)
      refine Sg (fun g54 => ?_)
      refine SsJ (ri_cp u_I_87 (rfl : Ui (0) (0)) (rfl : Ui (0) (0)) (ui_nI g52) ⟨(show (0 : Int) ≤ 0 from (by decide)), (show (0 : Int) ≤ 0 from (by decide)), g54⟩) (fun I_105 I_105' u_I_105 => ?_)
      refine Sc Iff.rfl (fun c55 => ?_) (fun _ => Sn)
      refine SbE rfl (fun b_109 => ?_)
      refine Sc Iff.rfl (fun c56 => ?_) (fun _ => Sn)
      refine SbE rfl (fun b_114 => ?_)
      refine Sc Iff.rfl (fun c57 => ?_) (fun _ => Sn)
      refine SbE rfl (fun b_119 => ?_)
      refine Sc Iff.rfl (fun c58 => ?_) (fun _ => Sn)
      refine Sc Iff.rfl (fun c59 => ?_) (fun _ => Sn)
      refine Sc Iff.rfl (fun c60 => ?_) (fun _ => Sn)
      refine Sg (fun g61 => ?_)
      refine Sc (and_congr (and_congr (not_congr (lt_up (rfl : Ui (0) (0)) (rfl : Ui 0 0))) (and_congr (not_congr (lt_up (rfl : Ui (0) (0)) (rfl : Ui 0 0))) (and_congr (not_congr (lt_up (ui_nI g61) (rfl : Ui 0 0))) (and_congr (by first | (rw [cl_up (ui_nI g61)]; done) | (rw [cl_up (ui_nI g61)]; exact Iff.rfl)) (by first | (rw [cl_up (ui_nI g61)]; done) | (rw [cl_up (ui_nI g61)]; exact Iff.rfl)))))) Iff.rfl) (fun c62 => ?_) (fun _ => Sn)
      refine Sg (fun g63 => ?_)
      refine SsJ (ri_cp u_I_105 (rfl : Ui (0) (0)) (rfl : Ui (0) (0)) (ui_nI g61) ⟨(show (0 : Int) ≤ 0 from (by decide)), (show (0 : Int) ≤ 0 from (by decide)), g63⟩) (fun I_123 I_123' u_I_123 => ?_)
      refine Sc Iff.rfl (fun c64 => ?_) (fun _ => Sn)
      refine SbE rfl (fun b_127 => ?_)
      refine Sc Iff.rfl (fun c65 => ?_) (fun _ => Sn)
      refine SbE rfl (fun b_131 => ?_)
      refine Sc Iff.rfl (fun c66 => ?_) (fun _ => Sn)
      refine Sc Iff.rfl (fun c67 => ?_) (fun _ => Sn)
      refine Sb2 (ks_186 n (dp - 1) e 0 _ _ _ _ b_127 b_131 u_I_123 u_L) (fun I0_134 I0_134' L0_134 L0_134' u_I0_134 u_L0_134 => ?_)
      refine Sc Iff.rfl (fun c68 => ?_) (fun _ => Sn)
      refine Sc Iff.rfl (fun c69 => ?_) (fun _ => Sn)
      refine SsJ (ri_up u_I0_134 (rfl : ((8 : Nat) : Int) = 8) (u_I0_134 a1 8)) (fun I_142 I_142' u_I_142 => ?_)
      refine Sc Iff.rfl (fun c70 => ?_) (fun _ => Sn)
      refine Sc Iff.rfl (fun c71 => ?_) (fun _ => Sn)
      refine SsJ (ri_up u_I_142 (rfl : ((9 : Nat) : Int) = 9) (u_I_142 a1 9)) (fun I_150 I_150' u_I_150 => ?_)
      refine Sc Iff.rfl (fun c72 => ?_) (fun _ => Sn)
      refine Sc Iff.rfl (fun c73 => ?_) (fun _ => Sn)
      refine SsJ (ri_up u_I_150 (rfl : ((10 : Nat) : Int) = 10) (u_I_150 a1 10)) (fun I_158 I_158' u_I_158 => ?_)
      refine Sc Iff.rfl (fun c74 => ?_) (fun _ => Sn)
      refine Sc Iff.rfl (fun c75 => ?_) (fun _ => Sn)
      refine SsJ (ri_up u_I_158 (rfl : ((11 : Nat) : Int) = 11) (u_I_158 a1 11)) (fun I_166 I_166' u_I_166 => ?_)
      refine Sc Iff.rfl (fun c76 => ?_) (fun _ => Sn)
      refine Sc Iff.rfl (fun c77 => ?_) (fun _ => Sn)
      refine SsJ (ri_up u_I_166 (rfl : ((12 : Nat) : Int) = 12) (u_I_166 a1 12)) (fun I_174 I_174' u_I_174 => ?_)
      exact Sr ⟨u_I_174, u_L0_134⟩
    exact Sn
set_option maxHeartbeats 4000000 in
set_option maxRecDepth 100000 in
def kf_189 : Nat → Nat → EN → Nat → JI → JI → Int → Int → Option (Int × JI × JI)
  | 0, _, _, _, _, _, _, _ => none
  | n + 1, dp, e, lab, I, L, i1, i2 =>
    if lab = 0 then (kf_189 n dp e 1 I L 0 0)
    else if lab = 1 then (if (I 1 9) ≤ i2 then (some ((i1 : Int), I, L)) else (if (-2147483648 ≤ i2 * 7 ∧ i2 * 7 ≤ 2147483647) ∧ (-2147483648 ≤ (i2 * 7) + 6 ∧ (i2 * 7) + 6 ≤ 2147483647) then (if 0 ≤ ((i2 * 7) + 6) ∧ ((i2 * 7) + 6) < 112 then (if -2147483648 ≤ i1 + (I 7 ((i2 * 7) + 6)) ∧ i1 + (I 7 ((i2 * 7) + 6)) ≤ 2147483647 then (stI (i1 + (I 7 ((i2 * 7) + 6))) (fun v_32 => (if -2147483648 ≤ i2 + 1 ∧ i2 + 1 ≤ 2147483647 then (kf_189 n dp e 1 I L v_32 (i2 + 1)) else none))) else none) else none) else none))
    else none
set_option maxRecDepth 100000 in
theorem ke_189_0 (n : Nat) (dp : Nat) (e : EN) (I : JI) (L : JI) (i1 : Int) (i2 : Int) : kf_189 (n + 1) dp e 0 I L i1 i2 = (kf_189 n dp e 1 I L 0 0) := by rw [kf_189.eq_2, if_pos (show (0 : Nat) = 0 from rfl)]
set_option maxRecDepth 100000 in
theorem ke_189_1 (n : Nat) (dp : Nat) (e : EN) (I : JI) (L : JI) (i1 : Int) (i2 : Int) : kf_189 (n + 1) dp e 1 I L i1 i2 = (if (I 1 9) ≤ i2 then (some ((i1 : Int), I, L)) else (if (-2147483648 ≤ i2 * 7 ∧ i2 * 7 ≤ 2147483647) ∧ (-2147483648 ≤ (i2 * 7) + 6 ∧ (i2 * 7) + 6 ≤ 2147483647) then (if 0 ≤ ((i2 * 7) + 6) ∧ ((i2 * 7) + 6) < 112 then (if -2147483648 ≤ i1 + (I 7 ((i2 * 7) + 6)) ∧ i1 + (I 7 ((i2 * 7) + 6)) ≤ 2147483647 then (stI (i1 + (I 7 ((i2 * 7) + 6))) (fun v_32 => (if -2147483648 ≤ i2 + 1 ∧ i2 + 1 ≤ 2147483647 then (kf_189 n dp e 1 I L v_32 (i2 + 1)) else none))) else none) else none) else none)) := by rw [kf_189.eq_2, if_neg (show ¬ ((1 : Nat) = 0) by decide), if_pos (show (1 : Nat) = 1 from rfl)]
set_option maxHeartbeats 8000000 in
set_option maxRecDepth 100000 in
theorem ks_189 : ∀ (n : Nat) (dp : Nat) (e : EN) (lab : Nat) (I : Nat → Nat → Int32) (I' : JI) (L : Nat → Nat → Int64) (L' : JI) (i1 : Int32) (i1' : Int) (i2 : Int32) (i2' : Int), Rli I I' → Rll L L' → Ui i1 i1' → Ui i2 i2' → Sim R3 (g_189 n dp e lab I L i1 i2) (kf_189 n dp e lab I' L' i1' i2') := by
  intro n
  induction n with
  | zero => intros; rw [kf_189.eq_1]; exact Sn
  | succ n ih =>
    intro dp e lab I I' L L' i1 i1' i2 i2' u_I u_L u_i1 u_i2
    rw [g_189.eq_2, kf_189.eq_2]
    refine Sc Iff.rfl (fun _ => ?_) (fun _ => ?_)
    · exact (ih dp e 1 _ _ _ _ _ _ _ _ u_I u_L (rfl : Ui (0) (0)) (rfl : Ui (0) (0)))
    refine Sc Iff.rfl (fun _ => ?_) (fun _ => ?_)
    · refine Sc (le_up (u_I 1 9) u_i2) (fun c1 => ?_) (fun c1 => ?_)
      · exact Sr ⟨u_i1, u_I, u_L⟩
      · refine Sg (fun g2 => ?_)
        refine Sc (ix_up (ui_add (ui_mul u_i2 (rfl : Ui (7) (7)) g2.1) (rfl : Ui (6) (6)) g2.2)) (fun c3 => ?_) (fun _ => Sn)
        refine Sg (fun g4 => ?_)
        refine SsI (ui_add u_i1 (ui_rd (a := 7) u_I (ui_add (ui_mul u_i2 (rfl : Ui (7) (7)) g2.1) (rfl : Ui (6) (6)) g2.2) c3.1) g4) (fun v_32 v_32' u_v_32 => ?_)
        refine Sg (fun g5 => ?_)
        exact (ih dp e 1 _ _ _ _ _ _ _ _ u_I u_L u_v_32 (ui_add u_i2 (rfl : Ui (Int32.ofInt (1)) (1)) g5))
    exact Sn
set_option maxHeartbeats 4000000 in
set_option maxRecDepth 100000 in
def kf_188 : Nat → Nat → EN → Nat → JI → JI → Int → Option (Int × JI × JI)
  | 0, _, _, _, _, _, _ => none
  | n + 1, dp, e, lab, I, L, i1 =>
    if lab = 0 then (if 1 ≤ dp then ((kf_14 n (dp - 1) e 0 I L i1 9 13).bind (fun ⟨x0_5, I0_5, L0_5⟩ => (if x0_5 = 0 then (if i1 = 0 then (if 1 ≤ dp then ((kf_16 n (dp - 1) e 0 I0_5 L0_5).bind (fun ⟨x1_76, I1_76, L1_76⟩ => (some ((x1_76 : Int), I1_76, L1_76)))) else none) else (if i1 = 1 then ((e.2.2 1 7).bind (fun b_84 => (if (b_84 < e.1) ∧ ((e.2.1 b_84).1 = 10) then (some (((I0_5 b_84 10) : Int), I0_5, L0_5)) else none))) else (if i1 = 2 then ((e.2.2 1 7).bind (fun b_95 => (if (b_95 < e.1) ∧ ((e.2.1 b_95).1 = 10) then (some (((I0_5 b_95 11) : Int), I0_5, L0_5)) else none))) else (if i1 = 3 then (some (((I0_5 1 8) : Int), I0_5, L0_5)) else (if i1 = 4 then (if 1 ≤ dp then ((kf_189 n (dp - 1) e 0 I0_5 L0_5 0 0).bind (fun ⟨x1_114, I1_114, L1_114⟩ => (some ((x1_114 : Int), I1_114, L1_114)))) else none) else (if i1 = 5 then (some (((I0_5 1 9) : Int), I0_5, L0_5)) else (if i1 = 6 then (some (((I0_5 1 10) : Int), I0_5, L0_5)) else (if i1 = 7 then (if 1 ≤ dp then ((kf_24 n (dp - 1) e 0 I0_5 L0_5 0 0).bind (fun ⟨x1_138, I1_138, L1_138⟩ => (some ((x1_138 : Int), I1_138, L1_138)))) else none) else (if i1 = 8 then (some (((I0_5 0 13) : Int), I0_5, L0_5)) else (some (((-1) : Int), I0_5, L0_5))))))))))) else (if -2147483648 ≤ i1 - 9 ∧ i1 - 9 ≤ 2147483647 then (if 0 ≤ (i1 - 9) ∧ (i1 - 9) < 5 then (some (((I0_5 92 (i1 - 9)) : Int), I0_5, L0_5)) else none) else none)))) else none)
    else none
set_option maxRecDepth 100000 in
theorem ke_188_0 (n : Nat) (dp : Nat) (e : EN) (I : JI) (L : JI) (i1 : Int) : kf_188 (n + 1) dp e 0 I L i1 = (if 1 ≤ dp then ((kf_14 n (dp - 1) e 0 I L i1 9 13).bind (fun ⟨x0_5, I0_5, L0_5⟩ => (if x0_5 = 0 then (if i1 = 0 then (if 1 ≤ dp then ((kf_16 n (dp - 1) e 0 I0_5 L0_5).bind (fun ⟨x1_76, I1_76, L1_76⟩ => (some ((x1_76 : Int), I1_76, L1_76)))) else none) else (if i1 = 1 then ((e.2.2 1 7).bind (fun b_84 => (if (b_84 < e.1) ∧ ((e.2.1 b_84).1 = 10) then (some (((I0_5 b_84 10) : Int), I0_5, L0_5)) else none))) else (if i1 = 2 then ((e.2.2 1 7).bind (fun b_95 => (if (b_95 < e.1) ∧ ((e.2.1 b_95).1 = 10) then (some (((I0_5 b_95 11) : Int), I0_5, L0_5)) else none))) else (if i1 = 3 then (some (((I0_5 1 8) : Int), I0_5, L0_5)) else (if i1 = 4 then (if 1 ≤ dp then ((kf_189 n (dp - 1) e 0 I0_5 L0_5 0 0).bind (fun ⟨x1_114, I1_114, L1_114⟩ => (some ((x1_114 : Int), I1_114, L1_114)))) else none) else (if i1 = 5 then (some (((I0_5 1 9) : Int), I0_5, L0_5)) else (if i1 = 6 then (some (((I0_5 1 10) : Int), I0_5, L0_5)) else (if i1 = 7 then (if 1 ≤ dp then ((kf_24 n (dp - 1) e 0 I0_5 L0_5 0 0).bind (fun ⟨x1_138, I1_138, L1_138⟩ => (some ((x1_138 : Int), I1_138, L1_138)))) else none) else (if i1 = 8 then (some (((I0_5 0 13) : Int), I0_5, L0_5)) else (some (((-1) : Int), I0_5, L0_5))))))))))) else (if -2147483648 ≤ i1 - 9 ∧ i1 - 9 ≤ 2147483647 then (if 0 ≤ (i1 - 9) ∧ (i1 - 9) < 5 then (some (((I0_5 92 (i1 - 9)) : Int), I0_5, L0_5)) else none) else none)))) else none) := by rw [kf_188.eq_2, if_pos (show (0 : Nat) = 0 from rfl)]
set_option maxHeartbeats 8000000 in
set_option maxRecDepth 100000 in
theorem ks_188 : ∀ (n : Nat) (dp : Nat) (e : EN) (lab : Nat) (I : Nat → Nat → Int32) (I' : JI) (L : Nat → Nat → Int64) (L' : JI) (i1 : Int32) (i1' : Int), Rli I I' → Rll L L' → Ui i1 i1' → Sim R3 (g_188 n dp e lab I L i1) (kf_188 n dp e lab I' L' i1') := by
  intro n
  induction n with
  | zero => intros; rw [kf_188.eq_1]; exact Sn
  | succ n ih =>
    intro dp e lab I I' L L' i1 i1' u_I u_L u_i1
    rw [g_188.eq_2, kf_188.eq_2]
    refine Sc Iff.rfl (fun _ => ?_) (fun _ => ?_)
    · refine Sc Iff.rfl (fun c1 => ?_) (fun _ => Sn)
      refine Sb3 (ks_14 n (dp - 1) e 0 _ _ _ _ _ _ _ _ _ _ u_I u_L u_i1 (rfl : Ui (9) (9)) (rfl : Ui (13) (13))) (fun x0_5 x0_5' I0_5 I0_5' L0_5 L0_5' u_x0_5 u_I0_5 u_L0_5 => ?_)
      refine Sc (eq_up u_x0_5 (rfl : Ui 0 0)) (fun c2 => ?_) (fun c2 => ?_)
      · refine Sc (eq_up u_i1 (rfl : Ui (0) (0))) (fun c3 => ?_) (fun c3 => ?_)
        · refine Sc Iff.rfl (fun c4 => ?_) (fun _ => Sn)
          refine Sb3 (ks_16 n (dp - 1) e 0 _ _ _ _ u_I0_5 u_L0_5) (fun x1_76 x1_76' I1_76 I1_76' L1_76 L1_76' u_x1_76 u_I1_76 u_L1_76 => ?_)
          exact Sr ⟨u_x1_76, u_I1_76, u_L1_76⟩
        · refine Sc (eq_up u_i1 (rfl : Ui (1) (1))) (fun c5 => ?_) (fun c5 => ?_)
          · refine SbE rfl (fun b_84 => ?_)
            refine Sc Iff.rfl (fun c6 => ?_) (fun _ => Sn)
            exact Sr ⟨(u_I0_5 b_84 10), u_I0_5, u_L0_5⟩
          · refine Sc (eq_up u_i1 (rfl : Ui (2) (2))) (fun c7 => ?_) (fun c7 => ?_)
            · refine SbE rfl (fun b_95 => ?_)
              refine Sc Iff.rfl (fun c8 => ?_) (fun _ => Sn)
              exact Sr ⟨(u_I0_5 b_95 11), u_I0_5, u_L0_5⟩
            · refine Sc (eq_up u_i1 (rfl : Ui (3) (3))) (fun c9 => ?_) (fun c9 => ?_)
              · exact Sr ⟨(u_I0_5 1 8), u_I0_5, u_L0_5⟩
              · refine Sc (eq_up u_i1 (rfl : Ui (4) (4))) (fun c10 => ?_) (fun c10 => ?_)
                · refine Sc Iff.rfl (fun c11 => ?_) (fun _ => Sn)
                  refine Sb3 (ks_189 n (dp - 1) e 0 _ _ _ _ _ _ _ _ u_I0_5 u_L0_5 (rfl : Ui 0 0) (rfl : Ui 0 0)) (fun x1_114 x1_114' I1_114 I1_114' L1_114 L1_114' u_x1_114 u_I1_114 u_L1_114 => ?_)
                  exact Sr ⟨u_x1_114, u_I1_114, u_L1_114⟩
                · refine Sc (eq_up u_i1 (rfl : Ui (5) (5))) (fun c12 => ?_) (fun c12 => ?_)
                  · exact Sr ⟨(u_I0_5 1 9), u_I0_5, u_L0_5⟩
                  · refine Sc (eq_up u_i1 (rfl : Ui (6) (6))) (fun c13 => ?_) (fun c13 => ?_)
                    · exact Sr ⟨(u_I0_5 1 10), u_I0_5, u_L0_5⟩
                    · refine Sc (eq_up u_i1 (rfl : Ui (7) (7))) (fun c14 => ?_) (fun c14 => ?_)
                      · refine Sc Iff.rfl (fun c15 => ?_) (fun _ => Sn)
                        refine Sb3 (ks_24 n (dp - 1) e 0 _ _ _ _ _ _ _ _ u_I0_5 u_L0_5 (rfl : Ui 0 0) (rfl : Ui 0 0)) (fun x1_138 x1_138' I1_138 I1_138' L1_138 L1_138' u_x1_138 u_I1_138 u_L1_138 => ?_)
                        exact Sr ⟨u_x1_138, u_I1_138, u_L1_138⟩
                      · refine Sc (eq_up u_i1 (rfl : Ui (8) (8))) (fun c16 => ?_) (fun c16 => ?_)
                        · exact Sr ⟨(u_I0_5 0 13), u_I0_5, u_L0_5⟩
                        · exact Sr ⟨(rfl : Ui (-1) (-1)), u_I0_5, u_L0_5⟩
      · refine Sg (fun g17 => ?_)
        refine Sc (ix_up (ui_sub u_i1 (rfl : Ui (9) (9)) g17)) (fun c18 => ?_) (fun _ => Sn)
        exact Sr ⟨(ui_rd (a := 92) u_I0_5 (ui_sub u_i1 (rfl : Ui (9) (9)) g17) c18.1), u_I0_5, u_L0_5⟩
    exact Sn
set_option maxHeartbeats 4000000 in
set_option maxRecDepth 100000 in
def kf_190 : Nat → Nat → EN → Nat → JI → JI → Option (Int × JI × JI)
  | 0, _, _, _, _, _ => none
  | n + 1, dp, e, lab, I, L =>
    if lab = 0 then (some (((I 0 18) : Int), I, L))
    else none
set_option maxRecDepth 100000 in
theorem ke_190_0 (n : Nat) (dp : Nat) (e : EN) (I : JI) (L : JI) : kf_190 (n + 1) dp e 0 I L = (some (((I 0 18) : Int), I, L)) := by rw [kf_190.eq_2, if_pos (show (0 : Nat) = 0 from rfl)]
set_option maxHeartbeats 8000000 in
set_option maxRecDepth 100000 in
theorem ks_190 : ∀ (n : Nat) (dp : Nat) (e : EN) (lab : Nat) (I : Nat → Nat → Int32) (I' : JI) (L : Nat → Nat → Int64) (L' : JI), Rli I I' → Rll L L' → Sim R3 (g_190 n dp e lab I L) (kf_190 n dp e lab I' L') := by
  intro n
  induction n with
  | zero => intros; rw [kf_190.eq_1]; exact Sn
  | succ n ih =>
    intro dp e lab I I' L L' u_I u_L
    rw [g_190.eq_2, kf_190.eq_2]
    refine Sc Iff.rfl (fun _ => ?_) (fun _ => ?_)
    · exact Sr ⟨(u_I 0 18), u_I, u_L⟩
    exact Sn
set_option maxHeartbeats 4000000 in
set_option maxRecDepth 100000 in
def kf_193 : Nat → Nat → EN → Nat → JI → JI → Int → Int → Int → Option (Int × JI × JI)
  | 0, _, _, _, _, _, _, _, _ => none
  | n + 1, dp, e, lab, I, L, j0, j2, j4 =>
    if lab = 0 then (if j0 < j2 then (some ((0 : Int), I, L)) else (if j4 < j0 then (some ((0 : Int), I, L)) else (some ((1 : Int), I, L))))
    else none
set_option maxRecDepth 100000 in
theorem ke_193_0 (n : Nat) (dp : Nat) (e : EN) (I : JI) (L : JI) (j0 : Int) (j2 : Int) (j4 : Int) : kf_193 (n + 1) dp e 0 I L j0 j2 j4 = (if j0 < j2 then (some ((0 : Int), I, L)) else (if j4 < j0 then (some ((0 : Int), I, L)) else (some ((1 : Int), I, L)))) := by rw [kf_193.eq_2, if_pos (show (0 : Nat) = 0 from rfl)]
set_option maxHeartbeats 8000000 in
set_option maxRecDepth 100000 in
theorem ks_193 : ∀ (n : Nat) (dp : Nat) (e : EN) (lab : Nat) (I : Nat → Nat → Int32) (I' : JI) (L : Nat → Nat → Int64) (L' : JI) (j0 : Int64) (j0' : Int) (j2 : Int64) (j2' : Int) (j4 : Int64) (j4' : Int), Rli I I' → Rll L L' → Ul j0 j0' → Ul j2 j2' → Ul j4 j4' → Sim R3 (g_193 n dp e lab I L j0 j2 j4) (kf_193 n dp e lab I' L' j0' j2' j4') := by
  intro n
  induction n with
  | zero => intros; rw [kf_193.eq_1]; exact Sn
  | succ n ih =>
    intro dp e lab I I' L L' j0 j0' j2 j2' j4 j4' u_I u_L u_j0 u_j2 u_j4
    rw [g_193.eq_2, kf_193.eq_2]
    refine Sc Iff.rfl (fun _ => ?_) (fun _ => ?_)
    · refine Sc (lcl_up u_j0 u_j2) (fun c1 => ?_) (fun c1 => ?_)
      · exact Sr ⟨(rfl : Ui (0) (0)), u_I, u_L⟩
      · refine Sc (lcg_up u_j0 u_j4) (fun c2 => ?_) (fun c2 => ?_)
        · exact Sr ⟨(rfl : Ui (0) (0)), u_I, u_L⟩
        · exact Sr ⟨(rfl : Ui (1) (1)), u_I, u_L⟩
    exact Sn
set_option maxHeartbeats 4000000 in
set_option maxRecDepth 100000 in
def kf_194 : Nat → Nat → EN → Nat → JI → JI → Int → Option (Int × JI × JI)
  | 0, _, _, _, _, _, _ => none
  | n + 1, dp, e, lab, I, L, i1 =>
    if lab = 0 then (if 0 ≤ i1 then (stI (w2 I 105 1 0) (fun I_10 => (if (I_10 105 32) = 0 then (stI (w2 I_10 105 32 0) (fun I_30 => (if (I_30 105 51) = 0 then (stI (w2 I_30 105 51 0) (fun I_50 => (if 0 ≤ i1 then (some ((i1 : Int), I_50, L)) else (if -2147483648 ≤ -i1 ∧ -i1 ≤ 2147483647 then (if 0 ≤ (-i1) ∧ (-i1) < 7 then (if 0 ≤ (-i1) ∧ (-i1) < 7 then (if -2147483648 ≤ (I_50 106 (-i1)) + 1 ∧ (I_50 106 (-i1)) + 1 ≤ 2147483647 then (stI (w2 I_50 106 (-i1) ((I_50 106 (-i1)) + 1)) (fun I_67 => (some ((i1 : Int), I_67, L)))) else none) else none) else none) else none)))) else (if 0 ≤ i1 then (stI (w2 I_30 105 51 0) (fun I_50 => (if 0 ≤ i1 then (some ((i1 : Int), I_50, L)) else (if -2147483648 ≤ -i1 ∧ -i1 ≤ 2147483647 then (if 0 ≤ (-i1) ∧ (-i1) < 7 then (if 0 ≤ (-i1) ∧ (-i1) < 7 then (if -2147483648 ≤ (I_50 106 (-i1)) + 1 ∧ (I_50 106 (-i1)) + 1 ≤ 2147483647 then (stI (w2 I_50 106 (-i1) ((I_50 106 (-i1)) + 1)) (fun I_67 => (some ((i1 : Int), I_67, L)))) else none) else none) else none) else none)))) else (stI (w2 I_30 105 51 1) (fun I_50 => (if 0 ≤ i1 then (some ((i1 : Int), I_50, L)) else (if -2147483648 ≤ -i1 ∧ -i1 ≤ 2147483647 then (if 0 ≤ (-i1) ∧ (-i1) < 7 then (if 0 ≤ (-i1) ∧ (-i1) < 7 then (if -2147483648 ≤ (I_50 106 (-i1)) + 1 ∧ (I_50 106 (-i1)) + 1 ≤ 2147483647 then (stI (w2 I_50 106 (-i1) ((I_50 106 (-i1)) + 1)) (fun I_67 => (some ((i1 : Int), I_67, L)))) else none) else none) else none) else none)))))))) else (if 0 ≤ i1 then (stI (w2 I_10 105 32 0) (fun I_30 => (if (I_30 105 51) = 0 then (stI (w2 I_30 105 51 0) (fun I_50 => (if 0 ≤ i1 then (some ((i1 : Int), I_50, L)) else (if -2147483648 ≤ -i1 ∧ -i1 ≤ 2147483647 then (if 0 ≤ (-i1) ∧ (-i1) < 7 then (if 0 ≤ (-i1) ∧ (-i1) < 7 then (if -2147483648 ≤ (I_50 106 (-i1)) + 1 ∧ (I_50 106 (-i1)) + 1 ≤ 2147483647 then (stI (w2 I_50 106 (-i1) ((I_50 106 (-i1)) + 1)) (fun I_67 => (some ((i1 : Int), I_67, L)))) else none) else none) else none) else none)))) else (if 0 ≤ i1 then (stI (w2 I_30 105 51 0) (fun I_50 => (if 0 ≤ i1 then (some ((i1 : Int), I_50, L)) else (if -2147483648 ≤ -i1 ∧ -i1 ≤ 2147483647 then (if 0 ≤ (-i1) ∧ (-i1) < 7 then (if 0 ≤ (-i1) ∧ (-i1) < 7 then (if -2147483648 ≤ (I_50 106 (-i1)) + 1 ∧ (I_50 106 (-i1)) + 1 ≤ 2147483647 then (stI (w2 I_50 106 (-i1) ((I_50 106 (-i1)) + 1)) (fun I_67 => (some ((i1 : Int), I_67, L)))) else none) else none) else none) else none)))) else (stI (w2 I_30 105 51 1) (fun I_50 => (if 0 ≤ i1 then (some ((i1 : Int), I_50, L)) else (if -2147483648 ≤ -i1 ∧ -i1 ≤ 2147483647 then (if 0 ≤ (-i1) ∧ (-i1) < 7 then (if 0 ≤ (-i1) ∧ (-i1) < 7 then (if -2147483648 ≤ (I_50 106 (-i1)) + 1 ∧ (I_50 106 (-i1)) + 1 ≤ 2147483647 then (stI (w2 I_50 106 (-i1) ((I_50 106 (-i1)) + 1)) (fun I_67 => (some ((i1 : Int), I_67, L)))) else none) else none) else none) else none)))))))) else (stI (w2 I_10 105 32 1) (fun I_30 => (if (I_30 105 51) = 0 then (stI (w2 I_30 105 51 0) (fun I_50 => (if 0 ≤ i1 then (some ((i1 : Int), I_50, L)) else (if -2147483648 ≤ -i1 ∧ -i1 ≤ 2147483647 then (if 0 ≤ (-i1) ∧ (-i1) < 7 then (if 0 ≤ (-i1) ∧ (-i1) < 7 then (if -2147483648 ≤ (I_50 106 (-i1)) + 1 ∧ (I_50 106 (-i1)) + 1 ≤ 2147483647 then (stI (w2 I_50 106 (-i1) ((I_50 106 (-i1)) + 1)) (fun I_67 => (some ((i1 : Int), I_67, L)))) else none) else none) else none) else none)))) else (if 0 ≤ i1 then (stI (w2 I_30 105 51 0) (fun I_50 => (if 0 ≤ i1 then (some ((i1 : Int), I_50, L)) else (if -2147483648 ≤ -i1 ∧ -i1 ≤ 2147483647 then (if 0 ≤ (-i1) ∧ (-i1) < 7 then (if 0 ≤ (-i1) ∧ (-i1) < 7 then (if -2147483648 ≤ (I_50 106 (-i1)) + 1 ∧ (I_50 106 (-i1)) + 1 ≤ 2147483647 then (stI (w2 I_50 106 (-i1) ((I_50 106 (-i1)) + 1)) (fun I_67 => (some ((i1 : Int), I_67, L)))) else none) else none) else none) else none)))) else (stI (w2 I_30 105 51 1) (fun I_50 => (if 0 ≤ i1 then (some ((i1 : Int), I_50, L)) else (if -2147483648 ≤ -i1 ∧ -i1 ≤ 2147483647 then (if 0 ≤ (-i1) ∧ (-i1) < 7 then (if 0 ≤ (-i1) ∧ (-i1) < 7 then (if -2147483648 ≤ (I_50 106 (-i1)) + 1 ∧ (I_50 106 (-i1)) + 1 ≤ 2147483647 then (stI (w2 I_50 106 (-i1) ((I_50 106 (-i1)) + 1)) (fun I_67 => (some ((i1 : Int), I_67, L)))) else none) else none) else none) else none)))))))))))) else (stI (w2 I 105 1 i1) (fun I_10 => (if (I_10 105 32) = 0 then (stI (w2 I_10 105 32 0) (fun I_30 => (if (I_30 105 51) = 0 then (stI (w2 I_30 105 51 0) (fun I_50 => (if 0 ≤ i1 then (some ((i1 : Int), I_50, L)) else (if -2147483648 ≤ -i1 ∧ -i1 ≤ 2147483647 then (if 0 ≤ (-i1) ∧ (-i1) < 7 then (if 0 ≤ (-i1) ∧ (-i1) < 7 then (if -2147483648 ≤ (I_50 106 (-i1)) + 1 ∧ (I_50 106 (-i1)) + 1 ≤ 2147483647 then (stI (w2 I_50 106 (-i1) ((I_50 106 (-i1)) + 1)) (fun I_67 => (some ((i1 : Int), I_67, L)))) else none) else none) else none) else none)))) else (if 0 ≤ i1 then (stI (w2 I_30 105 51 0) (fun I_50 => (if 0 ≤ i1 then (some ((i1 : Int), I_50, L)) else (if -2147483648 ≤ -i1 ∧ -i1 ≤ 2147483647 then (if 0 ≤ (-i1) ∧ (-i1) < 7 then (if 0 ≤ (-i1) ∧ (-i1) < 7 then (if -2147483648 ≤ (I_50 106 (-i1)) + 1 ∧ (I_50 106 (-i1)) + 1 ≤ 2147483647 then (stI (w2 I_50 106 (-i1) ((I_50 106 (-i1)) + 1)) (fun I_67 => (some ((i1 : Int), I_67, L)))) else none) else none) else none) else none)))) else (stI (w2 I_30 105 51 1) (fun I_50 => (if 0 ≤ i1 then (some ((i1 : Int), I_50, L)) else (if -2147483648 ≤ -i1 ∧ -i1 ≤ 2147483647 then (if 0 ≤ (-i1) ∧ (-i1) < 7 then (if 0 ≤ (-i1) ∧ (-i1) < 7 then (if -2147483648 ≤ (I_50 106 (-i1)) + 1 ∧ (I_50 106 (-i1)) + 1 ≤ 2147483647 then (stI (w2 I_50 106 (-i1) ((I_50 106 (-i1)) + 1)) (fun I_67 => (some ((i1 : Int), I_67, L)))) else none) else none) else none) else none)))))))) else (if 0 ≤ i1 then (stI (w2 I_10 105 32 0) (fun I_30 => (if (I_30 105 51) = 0 then (stI (w2 I_30 105 51 0) (fun I_50 => (if 0 ≤ i1 then (some ((i1 : Int), I_50, L)) else (if -2147483648 ≤ -i1 ∧ -i1 ≤ 2147483647 then (if 0 ≤ (-i1) ∧ (-i1) < 7 then (if 0 ≤ (-i1) ∧ (-i1) < 7 then (if -2147483648 ≤ (I_50 106 (-i1)) + 1 ∧ (I_50 106 (-i1)) + 1 ≤ 2147483647 then (stI (w2 I_50 106 (-i1) ((I_50 106 (-i1)) + 1)) (fun I_67 => (some ((i1 : Int), I_67, L)))) else none) else none) else none) else none)))) else (if 0 ≤ i1 then (stI (w2 I_30 105 51 0) (fun I_50 => (if 0 ≤ i1 then (some ((i1 : Int), I_50, L)) else (if -2147483648 ≤ -i1 ∧ -i1 ≤ 2147483647 then (if 0 ≤ (-i1) ∧ (-i1) < 7 then (if 0 ≤ (-i1) ∧ (-i1) < 7 then (if -2147483648 ≤ (I_50 106 (-i1)) + 1 ∧ (I_50 106 (-i1)) + 1 ≤ 2147483647 then (stI (w2 I_50 106 (-i1) ((I_50 106 (-i1)) + 1)) (fun I_67 => (some ((i1 : Int), I_67, L)))) else none) else none) else none) else none)))) else (stI (w2 I_30 105 51 1) (fun I_50 => (if 0 ≤ i1 then (some ((i1 : Int), I_50, L)) else (if -2147483648 ≤ -i1 ∧ -i1 ≤ 2147483647 then (if 0 ≤ (-i1) ∧ (-i1) < 7 then (if 0 ≤ (-i1) ∧ (-i1) < 7 then (if -2147483648 ≤ (I_50 106 (-i1)) + 1 ∧ (I_50 106 (-i1)) + 1 ≤ 2147483647 then (stI (w2 I_50 106 (-i1) ((I_50 106 (-i1)) + 1)) (fun I_67 => (some ((i1 : Int), I_67, L)))) else none) else none) else none) else none)))))))) else (stI (w2 I_10 105 32 1) (fun I_30 => (if (I_30 105 51) = 0 then (stI (w2 I_30 105 51 0) (fun I_50 => (if 0 ≤ i1 then (some ((i1 : Int), I_50, L)) else (if -2147483648 ≤ -i1 ∧ -i1 ≤ 2147483647 then (if 0 ≤ (-i1) ∧ (-i1) < 7 then (if 0 ≤ (-i1) ∧ (-i1) < 7 then (if -2147483648 ≤ (I_50 106 (-i1)) + 1 ∧ (I_50 106 (-i1)) + 1 ≤ 2147483647 then (stI (w2 I_50 106 (-i1) ((I_50 106 (-i1)) + 1)) (fun I_67 => (some ((i1 : Int), I_67, L)))) else none) else none) else none) else none)))) else (if 0 ≤ i1 then (stI (w2 I_30 105 51 0) (fun I_50 => (if 0 ≤ i1 then (some ((i1 : Int), I_50, L)) else (if -2147483648 ≤ -i1 ∧ -i1 ≤ 2147483647 then (if 0 ≤ (-i1) ∧ (-i1) < 7 then (if 0 ≤ (-i1) ∧ (-i1) < 7 then (if -2147483648 ≤ (I_50 106 (-i1)) + 1 ∧ (I_50 106 (-i1)) + 1 ≤ 2147483647 then (stI (w2 I_50 106 (-i1) ((I_50 106 (-i1)) + 1)) (fun I_67 => (some ((i1 : Int), I_67, L)))) else none) else none) else none) else none)))) else (stI (w2 I_30 105 51 1) (fun I_50 => (if 0 ≤ i1 then (some ((i1 : Int), I_50, L)) else (if -2147483648 ≤ -i1 ∧ -i1 ≤ 2147483647 then (if 0 ≤ (-i1) ∧ (-i1) < 7 then (if 0 ≤ (-i1) ∧ (-i1) < 7 then (if -2147483648 ≤ (I_50 106 (-i1)) + 1 ∧ (I_50 106 (-i1)) + 1 ≤ 2147483647 then (stI (w2 I_50 106 (-i1) ((I_50 106 (-i1)) + 1)) (fun I_67 => (some ((i1 : Int), I_67, L)))) else none) else none) else none) else none)))))))))))))
    else none
set_option maxRecDepth 100000 in
theorem ke_194_0 (n : Nat) (dp : Nat) (e : EN) (I : JI) (L : JI) (i1 : Int) : kf_194 (n + 1) dp e 0 I L i1 = (if 0 ≤ i1 then (stI (w2 I 105 1 0) (fun I_10 => (if (I_10 105 32) = 0 then (stI (w2 I_10 105 32 0) (fun I_30 => (if (I_30 105 51) = 0 then (stI (w2 I_30 105 51 0) (fun I_50 => (if 0 ≤ i1 then (some ((i1 : Int), I_50, L)) else (if -2147483648 ≤ -i1 ∧ -i1 ≤ 2147483647 then (if 0 ≤ (-i1) ∧ (-i1) < 7 then (if 0 ≤ (-i1) ∧ (-i1) < 7 then (if -2147483648 ≤ (I_50 106 (-i1)) + 1 ∧ (I_50 106 (-i1)) + 1 ≤ 2147483647 then (stI (w2 I_50 106 (-i1) ((I_50 106 (-i1)) + 1)) (fun I_67 => (some ((i1 : Int), I_67, L)))) else none) else none) else none) else none)))) else (if 0 ≤ i1 then (stI (w2 I_30 105 51 0) (fun I_50 => (if 0 ≤ i1 then (some ((i1 : Int), I_50, L)) else (if -2147483648 ≤ -i1 ∧ -i1 ≤ 2147483647 then (if 0 ≤ (-i1) ∧ (-i1) < 7 then (if 0 ≤ (-i1) ∧ (-i1) < 7 then (if -2147483648 ≤ (I_50 106 (-i1)) + 1 ∧ (I_50 106 (-i1)) + 1 ≤ 2147483647 then (stI (w2 I_50 106 (-i1) ((I_50 106 (-i1)) + 1)) (fun I_67 => (some ((i1 : Int), I_67, L)))) else none) else none) else none) else none)))) else (stI (w2 I_30 105 51 1) (fun I_50 => (if 0 ≤ i1 then (some ((i1 : Int), I_50, L)) else (if -2147483648 ≤ -i1 ∧ -i1 ≤ 2147483647 then (if 0 ≤ (-i1) ∧ (-i1) < 7 then (if 0 ≤ (-i1) ∧ (-i1) < 7 then (if -2147483648 ≤ (I_50 106 (-i1)) + 1 ∧ (I_50 106 (-i1)) + 1 ≤ 2147483647 then (stI (w2 I_50 106 (-i1) ((I_50 106 (-i1)) + 1)) (fun I_67 => (some ((i1 : Int), I_67, L)))) else none) else none) else none) else none)))))))) else (if 0 ≤ i1 then (stI (w2 I_10 105 32 0) (fun I_30 => (if (I_30 105 51) = 0 then (stI (w2 I_30 105 51 0) (fun I_50 => (if 0 ≤ i1 then (some ((i1 : Int), I_50, L)) else (if -2147483648 ≤ -i1 ∧ -i1 ≤ 2147483647 then (if 0 ≤ (-i1) ∧ (-i1) < 7 then (if 0 ≤ (-i1) ∧ (-i1) < 7 then (if -2147483648 ≤ (I_50 106 (-i1)) + 1 ∧ (I_50 106 (-i1)) + 1 ≤ 2147483647 then (stI (w2 I_50 106 (-i1) ((I_50 106 (-i1)) + 1)) (fun I_67 => (some ((i1 : Int), I_67, L)))) else none) else none) else none) else none)))) else (if 0 ≤ i1 then (stI (w2 I_30 105 51 0) (fun I_50 => (if 0 ≤ i1 then (some ((i1 : Int), I_50, L)) else (if -2147483648 ≤ -i1 ∧ -i1 ≤ 2147483647 then (if 0 ≤ (-i1) ∧ (-i1) < 7 then (if 0 ≤ (-i1) ∧ (-i1) < 7 then (if -2147483648 ≤ (I_50 106 (-i1)) + 1 ∧ (I_50 106 (-i1)) + 1 ≤ 2147483647 then (stI (w2 I_50 106 (-i1) ((I_50 106 (-i1)) + 1)) (fun I_67 => (some ((i1 : Int), I_67, L)))) else none) else none) else none) else none)))) else (stI (w2 I_30 105 51 1) (fun I_50 => (if 0 ≤ i1 then (some ((i1 : Int), I_50, L)) else (if -2147483648 ≤ -i1 ∧ -i1 ≤ 2147483647 then (if 0 ≤ (-i1) ∧ (-i1) < 7 then (if 0 ≤ (-i1) ∧ (-i1) < 7 then (if -2147483648 ≤ (I_50 106 (-i1)) + 1 ∧ (I_50 106 (-i1)) + 1 ≤ 2147483647 then (stI (w2 I_50 106 (-i1) ((I_50 106 (-i1)) + 1)) (fun I_67 => (some ((i1 : Int), I_67, L)))) else none) else none) else none) else none)))))))) else (stI (w2 I_10 105 32 1) (fun I_30 => (if (I_30 105 51) = 0 then (stI (w2 I_30 105 51 0) (fun I_50 => (if 0 ≤ i1 then (some ((i1 : Int), I_50, L)) else (if -2147483648 ≤ -i1 ∧ -i1 ≤ 2147483647 then (if 0 ≤ (-i1) ∧ (-i1) < 7 then (if 0 ≤ (-i1) ∧ (-i1) < 7 then (if -2147483648 ≤ (I_50 106 (-i1)) + 1 ∧ (I_50 106 (-i1)) + 1 ≤ 2147483647 then (stI (w2 I_50 106 (-i1) ((I_50 106 (-i1)) + 1)) (fun I_67 => (some ((i1 : Int), I_67, L)))) else none) else none) else none) else none)))) else (if 0 ≤ i1 then (stI (w2 I_30 105 51 0) (fun I_50 => (if 0 ≤ i1 then (some ((i1 : Int), I_50, L)) else (if -2147483648 ≤ -i1 ∧ -i1 ≤ 2147483647 then (if 0 ≤ (-i1) ∧ (-i1) < 7 then (if 0 ≤ (-i1) ∧ (-i1) < 7 then (if -2147483648 ≤ (I_50 106 (-i1)) + 1 ∧ (I_50 106 (-i1)) + 1 ≤ 2147483647 then (stI (w2 I_50 106 (-i1) ((I_50 106 (-i1)) + 1)) (fun I_67 => (some ((i1 : Int), I_67, L)))) else none) else none) else none) else none)))) else (stI (w2 I_30 105 51 1) (fun I_50 => (if 0 ≤ i1 then (some ((i1 : Int), I_50, L)) else (if -2147483648 ≤ -i1 ∧ -i1 ≤ 2147483647 then (if 0 ≤ (-i1) ∧ (-i1) < 7 then (if 0 ≤ (-i1) ∧ (-i1) < 7 then (if -2147483648 ≤ (I_50 106 (-i1)) + 1 ∧ (I_50 106 (-i1)) + 1 ≤ 2147483647 then (stI (w2 I_50 106 (-i1) ((I_50 106 (-i1)) + 1)) (fun I_67 => (some ((i1 : Int), I_67, L)))) else none) else none) else none) else none)))))))))))) else (stI (w2 I 105 1 i1) (fun I_10 => (if (I_10 105 32) = 0 then (stI (w2 I_10 105 32 0) (fun I_30 => (if (I_30 105 51) = 0 then (stI (w2 I_30 105 51 0) (fun I_50 => (if 0 ≤ i1 then (some ((i1 : Int), I_50, L)) else (if -2147483648 ≤ -i1 ∧ -i1 ≤ 2147483647 then (if 0 ≤ (-i1) ∧ (-i1) < 7 then (if 0 ≤ (-i1) ∧ (-i1) < 7 then (if -2147483648 ≤ (I_50 106 (-i1)) + 1 ∧ (I_50 106 (-i1)) + 1 ≤ 2147483647 then (stI (w2 I_50 106 (-i1) ((I_50 106 (-i1)) + 1)) (fun I_67 => (some ((i1 : Int), I_67, L)))) else none) else none) else none) else none)))) else (if 0 ≤ i1 then (stI (w2 I_30 105 51 0) (fun I_50 => (if 0 ≤ i1 then (some ((i1 : Int), I_50, L)) else (if -2147483648 ≤ -i1 ∧ -i1 ≤ 2147483647 then (if 0 ≤ (-i1) ∧ (-i1) < 7 then (if 0 ≤ (-i1) ∧ (-i1) < 7 then (if -2147483648 ≤ (I_50 106 (-i1)) + 1 ∧ (I_50 106 (-i1)) + 1 ≤ 2147483647 then (stI (w2 I_50 106 (-i1) ((I_50 106 (-i1)) + 1)) (fun I_67 => (some ((i1 : Int), I_67, L)))) else none) else none) else none) else none)))) else (stI (w2 I_30 105 51 1) (fun I_50 => (if 0 ≤ i1 then (some ((i1 : Int), I_50, L)) else (if -2147483648 ≤ -i1 ∧ -i1 ≤ 2147483647 then (if 0 ≤ (-i1) ∧ (-i1) < 7 then (if 0 ≤ (-i1) ∧ (-i1) < 7 then (if -2147483648 ≤ (I_50 106 (-i1)) + 1 ∧ (I_50 106 (-i1)) + 1 ≤ 2147483647 then (stI (w2 I_50 106 (-i1) ((I_50 106 (-i1)) + 1)) (fun I_67 => (some ((i1 : Int), I_67, L)))) else none) else none) else none) else none)))))))) else (if 0 ≤ i1 then (stI (w2 I_10 105 32 0) (fun I_30 => (if (I_30 105 51) = 0 then (stI (w2 I_30 105 51 0) (fun I_50 => (if 0 ≤ i1 then (some ((i1 : Int), I_50, L)) else (if -2147483648 ≤ -i1 ∧ -i1 ≤ 2147483647 then (if 0 ≤ (-i1) ∧ (-i1) < 7 then (if 0 ≤ (-i1) ∧ (-i1) < 7 then (if -2147483648 ≤ (I_50 106 (-i1)) + 1 ∧ (I_50 106 (-i1)) + 1 ≤ 2147483647 then (stI (w2 I_50 106 (-i1) ((I_50 106 (-i1)) + 1)) (fun I_67 => (some ((i1 : Int), I_67, L)))) else none) else none) else none) else none)))) else (if 0 ≤ i1 then (stI (w2 I_30 105 51 0) (fun I_50 => (if 0 ≤ i1 then (some ((i1 : Int), I_50, L)) else (if -2147483648 ≤ -i1 ∧ -i1 ≤ 2147483647 then (if 0 ≤ (-i1) ∧ (-i1) < 7 then (if 0 ≤ (-i1) ∧ (-i1) < 7 then (if -2147483648 ≤ (I_50 106 (-i1)) + 1 ∧ (I_50 106 (-i1)) + 1 ≤ 2147483647 then (stI (w2 I_50 106 (-i1) ((I_50 106 (-i1)) + 1)) (fun I_67 => (some ((i1 : Int), I_67, L)))) else none) else none) else none) else none)))) else (stI (w2 I_30 105 51 1) (fun I_50 => (if 0 ≤ i1 then (some ((i1 : Int), I_50, L)) else (if -2147483648 ≤ -i1 ∧ -i1 ≤ 2147483647 then (if 0 ≤ (-i1) ∧ (-i1) < 7 then (if 0 ≤ (-i1) ∧ (-i1) < 7 then (if -2147483648 ≤ (I_50 106 (-i1)) + 1 ∧ (I_50 106 (-i1)) + 1 ≤ 2147483647 then (stI (w2 I_50 106 (-i1) ((I_50 106 (-i1)) + 1)) (fun I_67 => (some ((i1 : Int), I_67, L)))) else none) else none) else none) else none)))))))) else (stI (w2 I_10 105 32 1) (fun I_30 => (if (I_30 105 51) = 0 then (stI (w2 I_30 105 51 0) (fun I_50 => (if 0 ≤ i1 then (some ((i1 : Int), I_50, L)) else (if -2147483648 ≤ -i1 ∧ -i1 ≤ 2147483647 then (if 0 ≤ (-i1) ∧ (-i1) < 7 then (if 0 ≤ (-i1) ∧ (-i1) < 7 then (if -2147483648 ≤ (I_50 106 (-i1)) + 1 ∧ (I_50 106 (-i1)) + 1 ≤ 2147483647 then (stI (w2 I_50 106 (-i1) ((I_50 106 (-i1)) + 1)) (fun I_67 => (some ((i1 : Int), I_67, L)))) else none) else none) else none) else none)))) else (if 0 ≤ i1 then (stI (w2 I_30 105 51 0) (fun I_50 => (if 0 ≤ i1 then (some ((i1 : Int), I_50, L)) else (if -2147483648 ≤ -i1 ∧ -i1 ≤ 2147483647 then (if 0 ≤ (-i1) ∧ (-i1) < 7 then (if 0 ≤ (-i1) ∧ (-i1) < 7 then (if -2147483648 ≤ (I_50 106 (-i1)) + 1 ∧ (I_50 106 (-i1)) + 1 ≤ 2147483647 then (stI (w2 I_50 106 (-i1) ((I_50 106 (-i1)) + 1)) (fun I_67 => (some ((i1 : Int), I_67, L)))) else none) else none) else none) else none)))) else (stI (w2 I_30 105 51 1) (fun I_50 => (if 0 ≤ i1 then (some ((i1 : Int), I_50, L)) else (if -2147483648 ≤ -i1 ∧ -i1 ≤ 2147483647 then (if 0 ≤ (-i1) ∧ (-i1) < 7 then (if 0 ≤ (-i1) ∧ (-i1) < 7 then (if -2147483648 ≤ (I_50 106 (-i1)) + 1 ∧ (I_50 106 (-i1)) + 1 ≤ 2147483647 then (stI (w2 I_50 106 (-i1) ((I_50 106 (-i1)) + 1)) (fun I_67 => (some ((i1 : Int), I_67, L)))) else none) else none) else none) else none))))))))))))) := by rw [kf_194.eq_2, if_pos (show (0 : Nat) = 0 from rfl)]
set_option maxHeartbeats 8000000 in
set_option maxRecDepth 100000 in
theorem ks_194 : ∀ (n : Nat) (dp : Nat) (e : EN) (lab : Nat) (I : Nat → Nat → Int32) (I' : JI) (L : Nat → Nat → Int64) (L' : JI) (i1 : Int32) (i1' : Int), Rli I I' → Rll L L' → Ui i1 i1' → Sim R3 (g_194 n dp e lab I L i1) (kf_194 n dp e lab I' L' i1') := by
  intro n
  induction n with
  | zero => intros; rw [kf_194.eq_1]; exact Sn
  | succ n ih =>
    intro dp e lab I I' L L' i1 i1' u_I u_L u_i1
    rw [g_194.eq_2, kf_194.eq_2]
    refine Sc Iff.rfl (fun _ => ?_) (fun _ => ?_)
    · refine Sc (le_up (rfl : Ui 0 0) u_i1) (fun c1 => ?_) (fun c1 => ?_)
      · refine SsJ (ri_up u_I (rfl : ((1 : Nat) : Int) = 1) (rfl : Ui (0) (0))) (fun I_10 I_10' u_I_10 => ?_)
        refine Sc (eq_up (u_I_10 105 32) (rfl : Ui 0 0)) (fun c2 => ?_) (fun c2 => ?_)
        · refine SsJ (ri_up u_I_10 (rfl : ((32 : Nat) : Int) = 32) (rfl : Ui (0) (0))) (fun I_30 I_30' u_I_30 => ?_)
          refine Sc (eq_up (u_I_30 105 51) (rfl : Ui 0 0)) (fun c3 => ?_) (fun c3 => ?_)
          · refine SsJ (ri_up u_I_30 (rfl : ((51 : Nat) : Int) = 51) (rfl : Ui (0) (0))) (fun I_50 I_50' u_I_50 => ?_)
            refine Sc (le_up (rfl : Ui 0 0) u_i1) (fun c4 => ?_) (fun c4 => ?_)
            · exact Sr ⟨u_i1, u_I_50, u_L⟩
            · refine Sg (fun g5 => ?_)
              refine Sc (ix_up (ui_neg u_i1 g5)) (fun c6 => ?_) (fun _ => Sn)
              refine Sc (ix_up (ui_neg u_i1 g5)) (fun c7 => ?_) (fun _ => Sn)
              refine Sg (fun g8 => ?_)
              refine SsJ (ri_up u_I_50 (kc_up (ui_neg u_i1 g5) c7.1) (ui_add (ui_rd (a := 106) u_I_50 (ui_neg u_i1 g5) c7.1) (rfl : Ui (1) (1)) g8)) (fun I_67 I_67' u_I_67 => ?_)
              exact Sr ⟨u_i1, u_I_67, u_L⟩
          · refine Sc (le_up (rfl : Ui 0 0) u_i1) (fun c9 => ?_) (fun c9 => ?_)
            · refine SsJ (ri_up u_I_30 (rfl : ((51 : Nat) : Int) = 51) (rfl : Ui (0) (0))) (fun I_50 I_50' u_I_50 => ?_)
              refine Sc (le_up (rfl : Ui 0 0) u_i1) (fun c10 => ?_) (fun c10 => ?_)
              · exact Sr ⟨u_i1, u_I_50, u_L⟩
              · refine Sg (fun g11 => ?_)
                refine Sc (ix_up (ui_neg u_i1 g11)) (fun c12 => ?_) (fun _ => Sn)
                refine Sc (ix_up (ui_neg u_i1 g11)) (fun c13 => ?_) (fun _ => Sn)
                refine Sg (fun g14 => ?_)
                refine SsJ (ri_up u_I_50 (kc_up (ui_neg u_i1 g11) c13.1) (ui_add (ui_rd (a := 106) u_I_50 (ui_neg u_i1 g11) c13.1) (rfl : Ui (1) (1)) g14)) (fun I_67 I_67' u_I_67 => ?_)
                exact Sr ⟨u_i1, u_I_67, u_L⟩
            · refine SsJ (ri_up u_I_30 (rfl : ((51 : Nat) : Int) = 51) (rfl : Ui (1) (1))) (fun I_50 I_50' u_I_50 => ?_)
              refine Sc (le_up (rfl : Ui 0 0) u_i1) (fun c15 => ?_) (fun c15 => ?_)
              · exact Sr ⟨u_i1, u_I_50, u_L⟩
              · refine Sg (fun g16 => ?_)
                refine Sc (ix_up (ui_neg u_i1 g16)) (fun c17 => ?_) (fun _ => Sn)
                refine Sc (ix_up (ui_neg u_i1 g16)) (fun c18 => ?_) (fun _ => Sn)
                refine Sg (fun g19 => ?_)
                refine SsJ (ri_up u_I_50 (kc_up (ui_neg u_i1 g16) c18.1) (ui_add (ui_rd (a := 106) u_I_50 (ui_neg u_i1 g16) c18.1) (rfl : Ui (1) (1)) g19)) (fun I_67 I_67' u_I_67 => ?_)
                exact Sr ⟨u_i1, u_I_67, u_L⟩
        · refine Sc (le_up (rfl : Ui 0 0) u_i1) (fun c20 => ?_) (fun c20 => ?_)
          · refine SsJ (ri_up u_I_10 (rfl : ((32 : Nat) : Int) = 32) (rfl : Ui (0) (0))) (fun I_30 I_30' u_I_30 => ?_)
            refine Sc (eq_up (u_I_30 105 51) (rfl : Ui 0 0)) (fun c21 => ?_) (fun c21 => ?_)
            · refine SsJ (ri_up u_I_30 (rfl : ((51 : Nat) : Int) = 51) (rfl : Ui (0) (0))) (fun I_50 I_50' u_I_50 => ?_)
              refine Sc (le_up (rfl : Ui 0 0) u_i1) (fun c22 => ?_) (fun c22 => ?_)
              · exact Sr ⟨u_i1, u_I_50, u_L⟩
              · refine Sg (fun g23 => ?_)
                refine Sc (ix_up (ui_neg u_i1 g23)) (fun c24 => ?_) (fun _ => Sn)
                refine Sc (ix_up (ui_neg u_i1 g23)) (fun c25 => ?_) (fun _ => Sn)
                refine Sg (fun g26 => ?_)
                refine SsJ (ri_up u_I_50 (kc_up (ui_neg u_i1 g23) c25.1) (ui_add (ui_rd (a := 106) u_I_50 (ui_neg u_i1 g23) c25.1) (rfl : Ui (1) (1)) g26)) (fun I_67 I_67' u_I_67 => ?_)
                exact Sr ⟨u_i1, u_I_67, u_L⟩
            · refine Sc (le_up (rfl : Ui 0 0) u_i1) (fun c27 => ?_) (fun c27 => ?_)
              · refine SsJ (ri_up u_I_30 (rfl : ((51 : Nat) : Int) = 51) (rfl : Ui (0) (0))) (fun I_50 I_50' u_I_50 => ?_)
                refine Sc (le_up (rfl : Ui 0 0) u_i1) (fun c28 => ?_) (fun c28 => ?_)
                · exact Sr ⟨u_i1, u_I_50, u_L⟩
                · refine Sg (fun g29 => ?_)
                  refine Sc (ix_up (ui_neg u_i1 g29)) (fun c30 => ?_) (fun _ => Sn)
                  refine Sc (ix_up (ui_neg u_i1 g29)) (fun c31 => ?_) (fun _ => Sn)
                  refine Sg (fun g32 => ?_)
                  refine SsJ (ri_up u_I_50 (kc_up (ui_neg u_i1 g29) c31.1) (ui_add (ui_rd (a := 106) u_I_50 (ui_neg u_i1 g29) c31.1) (rfl : Ui (1) (1)) g32)) (fun I_67 I_67' u_I_67 => ?_)
                  exact Sr ⟨u_i1, u_I_67, u_L⟩
              · refine SsJ (ri_up u_I_30 (rfl : ((51 : Nat) : Int) = 51) (rfl : Ui (1) (1))) (fun I_50 I_50' u_I_50 => ?_)
                refine Sc (le_up (rfl : Ui 0 0) u_i1) (fun c33 => ?_) (fun c33 => ?_)
                · exact Sr ⟨u_i1, u_I_50, u_L⟩
                · refine Sg (fun g34 => ?_)
                  refine Sc (ix_up (ui_neg u_i1 g34)) (fun c35 => ?_) (fun _ => Sn)
                  refine Sc (ix_up (ui_neg u_i1 g34)) (fun c36 => ?_) (fun _ => Sn)
                  refine Sg (fun g37 => ?_)
                  refine SsJ (ri_up u_I_50 (kc_up (ui_neg u_i1 g34) c36.1) (ui_add (ui_rd (a := 106) u_I_50 (ui_neg u_i1 g34) c36.1) (rfl : Ui (1) (1)) g37)) (fun I_67 I_67' u_I_67 => ?_)
                  exact Sr ⟨u_i1, u_I_67, u_L⟩
          · refine SsJ (ri_up u_I_10 (rfl : ((32 : Nat) : Int) = 32) (rfl : Ui (1) (1))) (fun I_30 I_30' u_I_30 => ?_)
            refine Sc (eq_up (u_I_30 105 51) (rfl : Ui 0 0)) (fun c38 => ?_) (fun c38 => ?_)
            · refine SsJ (ri_up u_I_30 (rfl : ((51 : Nat) : Int) = 51) (rfl : Ui (0) (0))) (fun I_50 I_50' u_I_50 => ?_)
              refine Sc (le_up (rfl : Ui 0 0) u_i1) (fun c39 => ?_) (fun c39 => ?_)
              · exact Sr ⟨u_i1, u_I_50, u_L⟩
              · refine Sg (fun g40 => ?_)
                refine Sc (ix_up (ui_neg u_i1 g40)) (fun c41 => ?_) (fun _ => Sn)
                refine Sc (ix_up (ui_neg u_i1 g40)) (fun c42 => ?_) (fun _ => Sn)
                refine Sg (fun g43 => ?_)
                refine SsJ (ri_up u_I_50 (kc_up (ui_neg u_i1 g40) c42.1) (ui_add (ui_rd (a := 106) u_I_50 (ui_neg u_i1 g40) c42.1) (rfl : Ui (1) (1)) g43)) (fun I_67 I_67' u_I_67 => ?_)
                exact Sr ⟨u_i1, u_I_67, u_L⟩
            · refine Sc (le_up (rfl : Ui 0 0) u_i1) (fun c44 => ?_) (fun c44 => ?_)
              · refine SsJ (ri_up u_I_30 (rfl : ((51 : Nat) : Int) = 51) (rfl : Ui (0) (0))) (fun I_50 I_50' u_I_50 => ?_)
                refine Sc (le_up (rfl : Ui 0 0) u_i1) (fun c45 => ?_) (fun c45 => ?_)
                · exact Sr ⟨u_i1, u_I_50, u_L⟩
                · refine Sg (fun g46 => ?_)
                  refine Sc (ix_up (ui_neg u_i1 g46)) (fun c47 => ?_) (fun _ => Sn)
                  refine Sc (ix_up (ui_neg u_i1 g46)) (fun c48 => ?_) (fun _ => Sn)
                  refine Sg (fun g49 => ?_)
                  refine SsJ (ri_up u_I_50 (kc_up (ui_neg u_i1 g46) c48.1) (ui_add (ui_rd (a := 106) u_I_50 (ui_neg u_i1 g46) c48.1) (rfl : Ui (1) (1)) g49)) (fun I_67 I_67' u_I_67 => ?_)
                  exact Sr ⟨u_i1, u_I_67, u_L⟩
              · refine SsJ (ri_up u_I_30 (rfl : ((51 : Nat) : Int) = 51) (rfl : Ui (1) (1))) (fun I_50 I_50' u_I_50 => ?_)
                refine Sc (le_up (rfl : Ui 0 0) u_i1) (fun c50 => ?_) (fun c50 => ?_)
                · exact Sr ⟨u_i1, u_I_50, u_L⟩
                · refine Sg (fun g51 => ?_)
                  refine Sc (ix_up (ui_neg u_i1 g51)) (fun c52 => ?_) (fun _ => Sn)
                  refine Sc (ix_up (ui_neg u_i1 g51)) (fun c53 => ?_) (fun _ => Sn)
                  refine Sg (fun g54 => ?_)
                  refine SsJ (ri_up u_I_50 (kc_up (ui_neg u_i1 g51) c53.1) (ui_add (ui_rd (a := 106) u_I_50 (ui_neg u_i1 g51) c53.1) (rfl : Ui (1) (1)) g54)) (fun I_67 I_67' u_I_67 => ?_)
                  exact Sr ⟨u_i1, u_I_67, u_L⟩
      · refine SsJ (ri_up u_I (rfl : ((1 : Nat) : Int) = 1) u_i1) (fun I_10 I_10' u_I_10 => ?_)
        refine Sc (eq_up (u_I_10 105 32) (rfl : Ui 0 0)) (fun c55 => ?_) (fun c55 => ?_)
        · refine SsJ (ri_up u_I_10 (rfl : ((32 : Nat) : Int) = 32) (rfl : Ui (0) (0))) (fun I_30 I_30' u_I_30 => ?_)
          refine Sc (eq_up (u_I_30 105 51) (rfl : Ui 0 0)) (fun c56 => ?_) (fun c56 => ?_)
          · refine SsJ (ri_up u_I_30 (rfl : ((51 : Nat) : Int) = 51) (rfl : Ui (0) (0))) (fun I_50 I_50' u_I_50 => ?_)
            refine Sc (le_up (rfl : Ui 0 0) u_i1) (fun c57 => ?_) (fun c57 => ?_)
            · exact Sr ⟨u_i1, u_I_50, u_L⟩
            · refine Sg (fun g58 => ?_)
              refine Sc (ix_up (ui_neg u_i1 g58)) (fun c59 => ?_) (fun _ => Sn)
              refine Sc (ix_up (ui_neg u_i1 g58)) (fun c60 => ?_) (fun _ => Sn)
              refine Sg (fun g61 => ?_)
              refine SsJ (ri_up u_I_50 (kc_up (ui_neg u_i1 g58) c60.1) (ui_add (ui_rd (a := 106) u_I_50 (ui_neg u_i1 g58) c60.1) (rfl : Ui (1) (1)) g61)) (fun I_67 I_67' u_I_67 => ?_)
              exact Sr ⟨u_i1, u_I_67, u_L⟩
          · refine Sc (le_up (rfl : Ui 0 0) u_i1) (fun c62 => ?_) (fun c62 => ?_)
            · refine SsJ (ri_up u_I_30 (rfl : ((51 : Nat) : Int) = 51) (rfl : Ui (0) (0))) (fun I_50 I_50' u_I_50 => ?_)
              refine Sc (le_up (rfl : Ui 0 0) u_i1) (fun c63 => ?_) (fun c63 => ?_)
              · exact Sr ⟨u_i1, u_I_50, u_L⟩
              · refine Sg (fun g64 => ?_)
                refine Sc (ix_up (ui_neg u_i1 g64)) (fun c65 => ?_) (fun _ => Sn)
                refine Sc (ix_up (ui_neg u_i1 g64)) (fun c66 => ?_) (fun _ => Sn)
                refine Sg (fun g67 => ?_)
                refine SsJ (ri_up u_I_50 (kc_up (ui_neg u_i1 g64) c66.1) (ui_add (ui_rd (a := 106) u_I_50 (ui_neg u_i1 g64) c66.1) (rfl : Ui (1) (1)) g67)) (fun I_67 I_67' u_I_67 => ?_)
                exact Sr ⟨u_i1, u_I_67, u_L⟩
            · refine SsJ (ri_up u_I_30 (rfl : ((51 : Nat) : Int) = 51) (rfl : Ui (1) (1))) (fun I_50 I_50' u_I_50 => ?_)
              refine Sc (le_up (rfl : Ui 0 0) u_i1) (fun c68 => ?_) (fun c68 => ?_)
              · exact Sr ⟨u_i1, u_I_50, u_L⟩
              · refine Sg (fun g69 => ?_)
                refine Sc (ix_up (ui_neg u_i1 g69)) (fun c70 => ?_) (fun _ => Sn)
                refine Sc (ix_up (ui_neg u_i1 g69)) (fun c71 => ?_) (fun _ => Sn)
                refine Sg (fun g72 => ?_)
                refine SsJ (ri_up u_I_50 (kc_up (ui_neg u_i1 g69) c71.1) (ui_add (ui_rd (a := 106) u_I_50 (ui_neg u_i1 g69) c71.1) (rfl : Ui (1) (1)) g72)) (fun I_67 I_67' u_I_67 => ?_)
                exact Sr ⟨u_i1, u_I_67, u_L⟩
        · refine Sc (le_up (rfl : Ui 0 0) u_i1) (fun c73 => ?_) (fun c73 => ?_)
          · refine SsJ (ri_up u_I_10 (rfl : ((32 : Nat) : Int) = 32) (rfl : Ui (0) (0))) (fun I_30 I_30' u_I_30 => ?_)
            refine Sc (eq_up (u_I_30 105 51) (rfl : Ui 0 0)) (fun c74 => ?_) (fun c74 => ?_)
            · refine SsJ (ri_up u_I_30 (rfl : ((51 : Nat) : Int) = 51) (rfl : Ui (0) (0))) (fun I_50 I_50' u_I_50 => ?_)
              refine Sc (le_up (rfl : Ui 0 0) u_i1) (fun c75 => ?_) (fun c75 => ?_)
              · exact Sr ⟨u_i1, u_I_50, u_L⟩
              · refine Sg (fun g76 => ?_)
                refine Sc (ix_up (ui_neg u_i1 g76)) (fun c77 => ?_) (fun _ => Sn)
                refine Sc (ix_up (ui_neg u_i1 g76)) (fun c78 => ?_) (fun _ => Sn)
                refine Sg (fun g79 => ?_)
                refine SsJ (ri_up u_I_50 (kc_up (ui_neg u_i1 g76) c78.1) (ui_add (ui_rd (a := 106) u_I_50 (ui_neg u_i1 g76) c78.1) (rfl : Ui (1) (1)) g79)) (fun I_67 I_67' u_I_67 => ?_)
                exact Sr ⟨u_i1, u_I_67, u_L⟩
            · refine Sc (le_up (rfl : Ui 0 0) u_i1) (fun c80 => ?_) (fun c80 => ?_)
              · refine SsJ (ri_up u_I_30 (rfl : ((51 : Nat) : Int) = 51) (rfl : Ui (0) (0))) (fun I_50 I_50' u_I_50 => ?_)
                refine Sc (le_up (rfl : Ui 0 0) u_i1) (fun c81 => ?_) (fun c81 => ?_)
                · exact Sr ⟨u_i1, u_I_50, u_L⟩
                · refine Sg (fun g82 => ?_)
                  refine Sc (ix_up (ui_neg u_i1 g82)) (fun c83 => ?_) (fun _ => Sn)
                  refine Sc (ix_up (ui_neg u_i1 g82)) (fun c84 => ?_) (fun _ => Sn)
                  refine Sg (fun g85 => ?_)
                  refine SsJ (ri_up u_I_50 (kc_up (ui_neg u_i1 g82) c84.1) (ui_add (ui_rd (a := 106) u_I_50 (ui_neg u_i1 g82) c84.1) (rfl : Ui (1) (1)) g85)) (fun I_67 I_67' u_I_67 => ?_)
                  exact Sr ⟨u_i1, u_I_67, u_L⟩
              · refine SsJ (ri_up u_I_30 (rfl : ((51 : Nat) : Int) = 51) (rfl : Ui (1) (1))) (fun I_50 I_50' u_I_50 => ?_)
                refine Sc (le_up (rfl : Ui 0 0) u_i1) (fun c86 => ?_) (fun c86 => ?_)
                · exact Sr ⟨u_i1, u_I_50, u_L⟩
                · refine Sg (fun g87 => ?_)
                  refine Sc (ix_up (ui_neg u_i1 g87)) (fun c88 => ?_) (fun _ => Sn)
                  refine Sc (ix_up (ui_neg u_i1 g87)) (fun c89 => ?_) (fun _ => Sn)
                  refine Sg (fun g90 => ?_)
                  refine SsJ (ri_up u_I_50 (kc_up (ui_neg u_i1 g87) c89.1) (ui_add (ui_rd (a := 106) u_I_50 (ui_neg u_i1 g87) c89.1) (rfl : Ui (1) (1)) g90)) (fun I_67 I_67' u_I_67 => ?_)
                  exact Sr ⟨u_i1, u_I_67, u_L⟩
          · refine SsJ (ri_up u_I_10 (rfl : ((32 : Nat) : Int) = 32) (rfl : Ui (1) (1))) (fun I_30 I_30' u_I_30 => ?_)
            refine Sc (eq_up (u_I_30 105 51) (rfl : Ui 0 0)) (fun c91 => ?_) (fun c91 => ?_)
            · refine SsJ (ri_up u_I_30 (rfl : ((51 : Nat) : Int) = 51) (rfl : Ui (0) (0))) (fun I_50 I_50' u_I_50 => ?_)
              refine Sc (le_up (rfl : Ui 0 0) u_i1) (fun c92 => ?_) (fun c92 => ?_)
              · exact Sr ⟨u_i1, u_I_50, u_L⟩
              · refine Sg (fun g93 => ?_)
                refine Sc (ix_up (ui_neg u_i1 g93)) (fun c94 => ?_) (fun _ => Sn)
                refine Sc (ix_up (ui_neg u_i1 g93)) (fun c95 => ?_) (fun _ => Sn)
                refine Sg (fun g96 => ?_)
                refine SsJ (ri_up u_I_50 (kc_up (ui_neg u_i1 g93) c95.1) (ui_add (ui_rd (a := 106) u_I_50 (ui_neg u_i1 g93) c95.1) (rfl : Ui (1) (1)) g96)) (fun I_67 I_67' u_I_67 => ?_)
                exact Sr ⟨u_i1, u_I_67, u_L⟩
            · refine Sc (le_up (rfl : Ui 0 0) u_i1) (fun c97 => ?_) (fun c97 => ?_)
              · refine SsJ (ri_up u_I_30 (rfl : ((51 : Nat) : Int) = 51) (rfl : Ui (0) (0))) (fun I_50 I_50' u_I_50 => ?_)
                refine Sc (le_up (rfl : Ui 0 0) u_i1) (fun c98 => ?_) (fun c98 => ?_)
                · exact Sr ⟨u_i1, u_I_50, u_L⟩
                · refine Sg (fun g99 => ?_)
                  refine Sc (ix_up (ui_neg u_i1 g99)) (fun c100 => ?_) (fun _ => Sn)
                  refine Sc (ix_up (ui_neg u_i1 g99)) (fun c101 => ?_) (fun _ => Sn)
                  refine Sg (fun g102 => ?_)
                  refine SsJ (ri_up u_I_50 (kc_up (ui_neg u_i1 g99) c101.1) (ui_add (ui_rd (a := 106) u_I_50 (ui_neg u_i1 g99) c101.1) (rfl : Ui (1) (1)) g102)) (fun I_67 I_67' u_I_67 => ?_)
                  exact Sr ⟨u_i1, u_I_67, u_L⟩
              · refine SsJ (ri_up u_I_30 (rfl : ((51 : Nat) : Int) = 51) (rfl : Ui (1) (1))) (fun I_50 I_50' u_I_50 => ?_)
                refine Sc (le_up (rfl : Ui 0 0) u_i1) (fun c103 => ?_) (fun c103 => ?_)
                · exact Sr ⟨u_i1, u_I_50, u_L⟩
                · refine Sg (fun g104 => ?_)
                  refine Sc (ix_up (ui_neg u_i1 g104)) (fun c105 => ?_) (fun _ => Sn)
                  refine Sc (ix_up (ui_neg u_i1 g104)) (fun c106 => ?_) (fun _ => Sn)
                  refine Sg (fun g107 => ?_)
                  refine SsJ (ri_up u_I_50 (kc_up (ui_neg u_i1 g104) c106.1) (ui_add (ui_rd (a := 106) u_I_50 (ui_neg u_i1 g104) c106.1) (rfl : Ui (1) (1)) g107)) (fun I_67 I_67' u_I_67 => ?_)
                  exact Sr ⟨u_i1, u_I_67, u_L⟩
    exact Sn
set_option maxHeartbeats 4000000 in
set_option maxRecDepth 100000 in
def kf_192 : Nat → Nat → EN → Nat → JI → JI → Int → Int → Option (Int × JI × JI)
  | 0, _, _, _, _, _, _, _ => none
  | n + 1, dp, e, lab, I, L, i1, i2 =>
    if lab = 0 then (stI (w2 I 105 0 0) (fun I_2 => (if 1 ≤ dp then ((kf_193 n (dp - 1) e 0 I_2 L i1 0 1).bind (fun ⟨x0_9, I0_9, L0_9⟩ => (if x0_9 = 0 then (if 1 ≤ dp then ((kf_194 n (dp - 1) e 0 I0_9 L0_9 (-1)).bind (fun ⟨x1_17, I1_17, L1_17⟩ => (some ((x1_17 : Int), I1_17, L1_17)))) else none) else (kf_192 n dp e 1 I0_9 L0_9 i1 0)))) else none)))
    else if lab = 1 then (if 1570 ≤ i2 then (if 0 ≤ i1 ∧ i1 < 2 then (stI (w2 I 109 i1 1) (fun I_60 => (if 1 ≤ dp then ((kf_194 n (dp - 1) e 0 I_60 L 0).bind (fun ⟨x0_63, I0_63, L0_63⟩ => (some ((x0_63 : Int), I0_63, L0_63)))) else none))) else none) else (if 0 ≤ i2 ∧ i2 < 1570 then (if (-2147483648 ≤ 1570 * i1 ∧ 1570 * i1 ≤ 2147483647) ∧ (-2147483648 ≤ (1570 * i1) + i2 ∧ (1570 * i1) + i2 ≤ 2147483647) then (if 0 ≤ ((1570 * i1) + i2) ∧ ((1570 * i1) + i2) < 3140 then (stI (w2 I 108 ((1570 * i1) + i2) (I 107 i2)) (fun I_47 => (if -2147483648 ≤ i2 + 1 ∧ i2 + 1 ≤ 2147483647 then (kf_192 n dp e 1 I_47 L i1 (i2 + 1)) else none))) else none) else none) else none))
    else none
set_option maxRecDepth 100000 in
theorem ke_192_0 (n : Nat) (dp : Nat) (e : EN) (I : JI) (L : JI) (i1 : Int) (i2 : Int) : kf_192 (n + 1) dp e 0 I L i1 i2 = (stI (w2 I 105 0 0) (fun I_2 => (if 1 ≤ dp then ((kf_193 n (dp - 1) e 0 I_2 L i1 0 1).bind (fun ⟨x0_9, I0_9, L0_9⟩ => (if x0_9 = 0 then (if 1 ≤ dp then ((kf_194 n (dp - 1) e 0 I0_9 L0_9 (-1)).bind (fun ⟨x1_17, I1_17, L1_17⟩ => (some ((x1_17 : Int), I1_17, L1_17)))) else none) else (kf_192 n dp e 1 I0_9 L0_9 i1 0)))) else none))) := by rw [kf_192.eq_2, if_pos (show (0 : Nat) = 0 from rfl)]
set_option maxRecDepth 100000 in
theorem ke_192_1 (n : Nat) (dp : Nat) (e : EN) (I : JI) (L : JI) (i1 : Int) (i2 : Int) : kf_192 (n + 1) dp e 1 I L i1 i2 = (if 1570 ≤ i2 then (if 0 ≤ i1 ∧ i1 < 2 then (stI (w2 I 109 i1 1) (fun I_60 => (if 1 ≤ dp then ((kf_194 n (dp - 1) e 0 I_60 L 0).bind (fun ⟨x0_63, I0_63, L0_63⟩ => (some ((x0_63 : Int), I0_63, L0_63)))) else none))) else none) else (if 0 ≤ i2 ∧ i2 < 1570 then (if (-2147483648 ≤ 1570 * i1 ∧ 1570 * i1 ≤ 2147483647) ∧ (-2147483648 ≤ (1570 * i1) + i2 ∧ (1570 * i1) + i2 ≤ 2147483647) then (if 0 ≤ ((1570 * i1) + i2) ∧ ((1570 * i1) + i2) < 3140 then (stI (w2 I 108 ((1570 * i1) + i2) (I 107 i2)) (fun I_47 => (if -2147483648 ≤ i2 + 1 ∧ i2 + 1 ≤ 2147483647 then (kf_192 n dp e 1 I_47 L i1 (i2 + 1)) else none))) else none) else none) else none)) := by rw [kf_192.eq_2, if_neg (show ¬ ((1 : Nat) = 0) by decide), if_pos (show (1 : Nat) = 1 from rfl)]
set_option maxHeartbeats 8000000 in
set_option maxRecDepth 100000 in
theorem ks_192 : ∀ (n : Nat) (dp : Nat) (e : EN) (lab : Nat) (I : Nat → Nat → Int32) (I' : JI) (L : Nat → Nat → Int64) (L' : JI) (i1 : Int32) (i1' : Int) (i2 : Int32) (i2' : Int), Rli I I' → Rll L L' → Ui i1 i1' → Ui i2 i2' → Sim R3 (g_192 n dp e lab I L i1 i2) (kf_192 n dp e lab I' L' i1' i2') := by
  intro n
  induction n with
  | zero => intros; rw [kf_192.eq_1]; exact Sn
  | succ n ih =>
    intro dp e lab I I' L L' i1 i1' i2 i2' u_I u_L u_i1 u_i2
    rw [g_192.eq_2, kf_192.eq_2]
    refine Sc Iff.rfl (fun _ => ?_) (fun _ => ?_)
    · refine SsJ (ri_up u_I (rfl : ((0 : Nat) : Int) = 0) (rfl : Ui (0) (0))) (fun I_2 I_2' u_I_2 => ?_)
      refine Sc Iff.rfl (fun c1 => ?_) (fun _ => Sn)
      refine Sb3 (ks_193 n (dp - 1) e 0 _ _ _ _ _ _ _ _ _ _ u_I_2 u_L (ul_i2l u_i1) (rfl : Ul (0) (0)) (rfl : Ul (1) (1))) (fun x0_9 x0_9' I0_9 I0_9' L0_9 L0_9' u_x0_9 u_I0_9 u_L0_9 => ?_)
      refine Sc (eq_up u_x0_9 (rfl : Ui 0 0)) (fun c2 => ?_) (fun c2 => ?_)
      · refine Sc Iff.rfl (fun c3 => ?_) (fun _ => Sn)
        refine Sb3 (ks_194 n (dp - 1) e 0 _ _ _ _ _ _ u_I0_9 u_L0_9 (rfl : Ui (-1) (-1))) (fun x1_17 x1_17' I1_17 I1_17' L1_17 L1_17' u_x1_17 u_I1_17 u_L1_17 => ?_)
        exact Sr ⟨u_x1_17, u_I1_17, u_L1_17⟩
      · exact (ih dp e 1 _ _ _ _ _ _ _ _ u_I0_9 u_L0_9 u_i1 (rfl : Ui (0) (0)))
    refine Sc Iff.rfl (fun _ => ?_) (fun _ => ?_)
    · refine Sc (le_up (rfl : Ui (1570) (1570)) u_i2) (fun c1 => ?_) (fun c1 => ?_)
      · refine Sc (ix_up u_i1) (fun c2 => ?_) (fun _ => Sn)
        refine SsJ (ri_up u_I (kc_up u_i1 c2.1) (rfl : Ui (1) (1))) (fun I_60 I_60' u_I_60 => ?_)
        refine Sc Iff.rfl (fun c3 => ?_) (fun _ => Sn)
        refine Sb3 (ks_194 n (dp - 1) e 0 _ _ _ _ _ _ u_I_60 u_L (rfl : Ui (0) (0))) (fun x0_63 x0_63' I0_63 I0_63' L0_63 L0_63' u_x0_63 u_I0_63 u_L0_63 => ?_)
        exact Sr ⟨u_x0_63, u_I0_63, u_L0_63⟩
      · refine Sc (ix_up u_i2) (fun c4 => ?_) (fun _ => Sn)
        refine Sg (fun g5 => ?_)
        refine Sc (ix_up (ui_add (ui_mul (rfl : Ui (1570) (1570)) u_i1 g5.1) u_i2 g5.2)) (fun c6 => ?_) (fun _ => Sn)
        refine SsJ (ri_up u_I (kc_up (ui_add (ui_mul (rfl : Ui (1570) (1570)) u_i1 g5.1) u_i2 g5.2) c6.1) (ui_rd (a := 107) u_I u_i2 c4.1)) (fun I_47 I_47' u_I_47 => ?_)
        refine Sg (fun g7 => ?_)
        exact (ih dp e 1 _ _ _ _ _ _ _ _ u_I_47 u_L u_i1 (ui_add u_i2 (rfl : Ui (Int32.ofInt (1)) (1)) g7))
    exact Sn
set_option maxHeartbeats 4000000 in
set_option maxRecDepth 100000 in
def kf_195 : Nat → Nat → EN → Nat → JI → JI → Int → Int → Option (Int × JI × JI)
  | 0, _, _, _, _, _, _, _ => none
  | n + 1, dp, e, lab, I, L, i1, i2 =>
    if lab = 0 then (stI (w2 I 105 0 0) (fun I_2 => (if 1 ≤ dp then ((kf_193 n (dp - 1) e 0 I_2 L i1 0 1).bind (fun ⟨x0_9, I0_9, L0_9⟩ => (if x0_9 = 0 then (if 1 ≤ dp then ((kf_194 n (dp - 1) e 0 I0_9 L0_9 (-1)).bind (fun ⟨x1_17, I1_17, L1_17⟩ => (some ((x1_17 : Int), I1_17, L1_17)))) else none) else (if 0 ≤ i1 ∧ i1 < 2 then (if (I0_9 109 i1) = 0 then (if 1 ≤ dp then ((kf_194 n (dp - 1) e 0 I0_9 L0_9 (-2)).bind (fun ⟨x1_33, I1_33, L1_33⟩ => (some ((x1_33 : Int), I1_33, L1_33)))) else none) else (kf_195 n dp e 1 I0_9 L0_9 i1 0)) else none)))) else none)))
    else if lab = 1 then (if 1570 ≤ i2 then (if 1 ≤ dp then ((kf_194 n (dp - 1) e 0 I L 0).bind (fun ⟨x0_72, I0_72, L0_72⟩ => (some ((x0_72 : Int), I0_72, L0_72)))) else none) else (if (-2147483648 ≤ 1570 * i1 ∧ 1570 * i1 ≤ 2147483647) ∧ (-2147483648 ≤ (1570 * i1) + i2 ∧ (1570 * i1) + i2 ≤ 2147483647) then (if 0 ≤ ((1570 * i1) + i2) ∧ ((1570 * i1) + i2) < 3140 then (if 0 ≤ i2 ∧ i2 < 1570 then (stI (w2 I 107 i2 (I 108 ((1570 * i1) + i2))) (fun I_63 => (if -2147483648 ≤ i2 + 1 ∧ i2 + 1 ≤ 2147483647 then (kf_195 n dp e 1 I_63 L i1 (i2 + 1)) else none))) else none) else none) else none))
    else none
set_option maxRecDepth 100000 in
theorem ke_195_0 (n : Nat) (dp : Nat) (e : EN) (I : JI) (L : JI) (i1 : Int) (i2 : Int) : kf_195 (n + 1) dp e 0 I L i1 i2 = (stI (w2 I 105 0 0) (fun I_2 => (if 1 ≤ dp then ((kf_193 n (dp - 1) e 0 I_2 L i1 0 1).bind (fun ⟨x0_9, I0_9, L0_9⟩ => (if x0_9 = 0 then (if 1 ≤ dp then ((kf_194 n (dp - 1) e 0 I0_9 L0_9 (-1)).bind (fun ⟨x1_17, I1_17, L1_17⟩ => (some ((x1_17 : Int), I1_17, L1_17)))) else none) else (if 0 ≤ i1 ∧ i1 < 2 then (if (I0_9 109 i1) = 0 then (if 1 ≤ dp then ((kf_194 n (dp - 1) e 0 I0_9 L0_9 (-2)).bind (fun ⟨x1_33, I1_33, L1_33⟩ => (some ((x1_33 : Int), I1_33, L1_33)))) else none) else (kf_195 n dp e 1 I0_9 L0_9 i1 0)) else none)))) else none))) := by rw [kf_195.eq_2, if_pos (show (0 : Nat) = 0 from rfl)]
set_option maxRecDepth 100000 in
theorem ke_195_1 (n : Nat) (dp : Nat) (e : EN) (I : JI) (L : JI) (i1 : Int) (i2 : Int) : kf_195 (n + 1) dp e 1 I L i1 i2 = (if 1570 ≤ i2 then (if 1 ≤ dp then ((kf_194 n (dp - 1) e 0 I L 0).bind (fun ⟨x0_72, I0_72, L0_72⟩ => (some ((x0_72 : Int), I0_72, L0_72)))) else none) else (if (-2147483648 ≤ 1570 * i1 ∧ 1570 * i1 ≤ 2147483647) ∧ (-2147483648 ≤ (1570 * i1) + i2 ∧ (1570 * i1) + i2 ≤ 2147483647) then (if 0 ≤ ((1570 * i1) + i2) ∧ ((1570 * i1) + i2) < 3140 then (if 0 ≤ i2 ∧ i2 < 1570 then (stI (w2 I 107 i2 (I 108 ((1570 * i1) + i2))) (fun I_63 => (if -2147483648 ≤ i2 + 1 ∧ i2 + 1 ≤ 2147483647 then (kf_195 n dp e 1 I_63 L i1 (i2 + 1)) else none))) else none) else none) else none)) := by rw [kf_195.eq_2, if_neg (show ¬ ((1 : Nat) = 0) by decide), if_pos (show (1 : Nat) = 1 from rfl)]
set_option maxHeartbeats 8000000 in
set_option maxRecDepth 100000 in
theorem ks_195 : ∀ (n : Nat) (dp : Nat) (e : EN) (lab : Nat) (I : Nat → Nat → Int32) (I' : JI) (L : Nat → Nat → Int64) (L' : JI) (i1 : Int32) (i1' : Int) (i2 : Int32) (i2' : Int), Rli I I' → Rll L L' → Ui i1 i1' → Ui i2 i2' → Sim R3 (g_195 n dp e lab I L i1 i2) (kf_195 n dp e lab I' L' i1' i2') := by
  intro n
  induction n with
  | zero => intros; rw [kf_195.eq_1]; exact Sn
  | succ n ih =>
    intro dp e lab I I' L L' i1 i1' i2 i2' u_I u_L u_i1 u_i2
    rw [g_195.eq_2, kf_195.eq_2]
    refine Sc Iff.rfl (fun _ => ?_) (fun _ => ?_)
    · refine SsJ (ri_up u_I (rfl : ((0 : Nat) : Int) = 0) (rfl : Ui (0) (0))) (fun I_2 I_2' u_I_2 => ?_)
      refine Sc Iff.rfl (fun c1 => ?_) (fun _ => Sn)
      refine Sb3 (ks_193 n (dp - 1) e 0 _ _ _ _ _ _ _ _ _ _ u_I_2 u_L (ul_i2l u_i1) (rfl : Ul (0) (0)) (rfl : Ul (1) (1))) (fun x0_9 x0_9' I0_9 I0_9' L0_9 L0_9' u_x0_9 u_I0_9 u_L0_9 => ?_)
      refine Sc (eq_up u_x0_9 (rfl : Ui 0 0)) (fun c2 => ?_) (fun c2 => ?_)
      · refine Sc Iff.rfl (fun c3 => ?_) (fun _ => Sn)
        refine Sb3 (ks_194 n (dp - 1) e 0 _ _ _ _ _ _ u_I0_9 u_L0_9 (rfl : Ui (-1) (-1))) (fun x1_17 x1_17' I1_17 I1_17' L1_17 L1_17' u_x1_17 u_I1_17 u_L1_17 => ?_)
        exact Sr ⟨u_x1_17, u_I1_17, u_L1_17⟩
      · refine Sc (ix_up u_i1) (fun c4 => ?_) (fun _ => Sn)
        refine Sc (eq_up (ui_rd (a := 109) u_I0_9 u_i1 c4.1) (rfl : Ui 0 0)) (fun c5 => ?_) (fun c5 => ?_)
        · refine Sc Iff.rfl (fun c6 => ?_) (fun _ => Sn)
          refine Sb3 (ks_194 n (dp - 1) e 0 _ _ _ _ _ _ u_I0_9 u_L0_9 (rfl : Ui (-2) (-2))) (fun x1_33 x1_33' I1_33 I1_33' L1_33 L1_33' u_x1_33 u_I1_33 u_L1_33 => ?_)
          exact Sr ⟨u_x1_33, u_I1_33, u_L1_33⟩
        · exact (ih dp e 1 _ _ _ _ _ _ _ _ u_I0_9 u_L0_9 u_i1 (rfl : Ui (0) (0)))
    refine Sc Iff.rfl (fun _ => ?_) (fun _ => ?_)
    · refine Sc (le_up (rfl : Ui (1570) (1570)) u_i2) (fun c1 => ?_) (fun c1 => ?_)
      · refine Sc Iff.rfl (fun c2 => ?_) (fun _ => Sn)
        refine Sb3 (ks_194 n (dp - 1) e 0 _ _ _ _ _ _ u_I u_L (rfl : Ui (0) (0))) (fun x0_72 x0_72' I0_72 I0_72' L0_72 L0_72' u_x0_72 u_I0_72 u_L0_72 => ?_)
        exact Sr ⟨u_x0_72, u_I0_72, u_L0_72⟩
      · refine Sg (fun g3 => ?_)
        refine Sc (ix_up (ui_add (ui_mul (rfl : Ui (1570) (1570)) u_i1 g3.1) u_i2 g3.2)) (fun c4 => ?_) (fun _ => Sn)
        refine Sc (ix_up u_i2) (fun c5 => ?_) (fun _ => Sn)
        refine SsJ (ri_up u_I (kc_up u_i2 c5.1) (ui_rd (a := 108) u_I (ui_add (ui_mul (rfl : Ui (1570) (1570)) u_i1 g3.1) u_i2 g3.2) c4.1)) (fun I_63 I_63' u_I_63 => ?_)
        refine Sg (fun g6 => ?_)
        exact (ih dp e 1 _ _ _ _ _ _ _ _ u_I_63 u_L u_i1 (ui_add u_i2 (rfl : Ui (Int32.ofInt (1)) (1)) g6))
    exact Sn
set_option maxHeartbeats 4000000 in
set_option maxRecDepth 100000 in
def kf_197 : Nat → Nat → EN → Nat → JI → JI → Int → Option (Int × JI × JI)
  | 0, _, _, _, _, _, _ => none
  | n + 1, dp, e, lab, I, L, i0 =>
    if lab = 0 then (if 1 ≤ dp then ((kf_193 n (dp - 1) e 0 I L i0 0 2).bind (fun ⟨x0_6, I0_6, L0_6⟩ => (if (x0_6 = 0) ∨ (x0_6 = 1) then (some ((x0_6 : Int), I0_6, L0_6)) else none))) else none)
    else none
set_option maxRecDepth 100000 in
theorem ke_197_0 (n : Nat) (dp : Nat) (e : EN) (I : JI) (L : JI) (i0 : Int) : kf_197 (n + 1) dp e 0 I L i0 = (if 1 ≤ dp then ((kf_193 n (dp - 1) e 0 I L i0 0 2).bind (fun ⟨x0_6, I0_6, L0_6⟩ => (if (x0_6 = 0) ∨ (x0_6 = 1) then (some ((x0_6 : Int), I0_6, L0_6)) else none))) else none) := by rw [kf_197.eq_2, if_pos (show (0 : Nat) = 0 from rfl)]
set_option maxHeartbeats 8000000 in
set_option maxRecDepth 100000 in
theorem ks_197 : ∀ (n : Nat) (dp : Nat) (e : EN) (lab : Nat) (I : Nat → Nat → Int32) (I' : JI) (L : Nat → Nat → Int64) (L' : JI) (i0 : Int32) (i0' : Int), Rli I I' → Rll L L' → Ui i0 i0' → Sim R3 (g_197 n dp e lab I L i0) (kf_197 n dp e lab I' L' i0') := by
  intro n
  induction n with
  | zero => intros; rw [kf_197.eq_1]; exact Sn
  | succ n ih =>
    intro dp e lab I I' L L' i0 i0' u_I u_L u_i0
    rw [g_197.eq_2, kf_197.eq_2]
    refine Sc Iff.rfl (fun _ => ?_) (fun _ => ?_)
    · refine Sc Iff.rfl (fun c1 => ?_) (fun _ => Sn)
      refine Sb3 (ks_193 n (dp - 1) e 0 _ _ _ _ _ _ _ _ _ _ u_I u_L (ul_i2l u_i0) (rfl : Ul (0) (0)) (rfl : Ul (2) (2))) (fun x0_6 x0_6' I0_6 I0_6' L0_6 L0_6' u_x0_6 u_I0_6 u_L0_6 => ?_)
      refine Sc (or_congr (eq_up u_x0_6 (rfl : Ui 0 0)) (eq_up u_x0_6 (rfl : Ui 1 1))) (fun c2 => ?_) (fun _ => Sn)
      exact Sr ⟨u_x0_6, u_I0_6, u_L0_6⟩
    exact Sn
set_option maxHeartbeats 4000000 in
set_option maxRecDepth 100000 in
def kf_198 : Nat → Nat → EN → Nat → JI → JI → Option (Int × JI × JI)
  | 0, _, _, _, _, _ => none
  | n + 1, dp, e, lab, I, L =>
    if lab = 0 then (if (-2147483648 ≤ (I 107 0) + (I 107 1) ∧ (I 107 0) + (I 107 1) ≤ 2147483647) ∧ (-2147483648 ≤ ((I 107 0) + (I 107 1)) + (I 107 2) ∧ ((I 107 0) + (I 107 1)) + (I 107 2) ≤ 2147483647) then (some (((((I 107 0) + (I 107 1)) + (I 107 2)) : Int), I, L)) else none)
    else none
set_option maxRecDepth 100000 in
theorem ke_198_0 (n : Nat) (dp : Nat) (e : EN) (I : JI) (L : JI) : kf_198 (n + 1) dp e 0 I L = (if (-2147483648 ≤ (I 107 0) + (I 107 1) ∧ (I 107 0) + (I 107 1) ≤ 2147483647) ∧ (-2147483648 ≤ ((I 107 0) + (I 107 1)) + (I 107 2) ∧ ((I 107 0) + (I 107 1)) + (I 107 2) ≤ 2147483647) then (some (((((I 107 0) + (I 107 1)) + (I 107 2)) : Int), I, L)) else none) := by rw [kf_198.eq_2, if_pos (show (0 : Nat) = 0 from rfl)]
set_option maxHeartbeats 8000000 in
set_option maxRecDepth 100000 in
theorem ks_198 : ∀ (n : Nat) (dp : Nat) (e : EN) (lab : Nat) (I : Nat → Nat → Int32) (I' : JI) (L : Nat → Nat → Int64) (L' : JI), Rli I I' → Rll L L' → Sim R3 (g_198 n dp e lab I L) (kf_198 n dp e lab I' L') := by
  intro n
  induction n with
  | zero => intros; rw [kf_198.eq_1]; exact Sn
  | succ n ih =>
    intro dp e lab I I' L L' u_I u_L
    rw [g_198.eq_2, kf_198.eq_2]
    refine Sc Iff.rfl (fun _ => ?_) (fun _ => ?_)
    · refine Sg (fun g1 => ?_)
      exact Sr ⟨(ui_add (ui_add (u_I 107 0) (u_I 107 1) g1.1) (u_I 107 2) g1.2), u_I, u_L⟩
    exact Sn
set_option maxHeartbeats 4000000 in
set_option maxRecDepth 100000 in
def kf_200 : Nat → Nat → EN → Nat → JI → JI → Int → Option (Int × JI × JI)
  | 0, _, _, _, _, _, _ => none
  | n + 1, dp, e, lab, I, L, i1 =>
    if lab = 0 then (stI (w2 I 105 1 0) (fun I_2 => (stI (w2 I_2 105 32 0) (fun I_7 => (stI (w2 I_7 105 51 0) (fun I_12 => (some ((i1 : Int), I_12, L))))))))
    else none
set_option maxRecDepth 100000 in
theorem ke_200_0 (n : Nat) (dp : Nat) (e : EN) (I : JI) (L : JI) (i1 : Int) : kf_200 (n + 1) dp e 0 I L i1 = (stI (w2 I 105 1 0) (fun I_2 => (stI (w2 I_2 105 32 0) (fun I_7 => (stI (w2 I_7 105 51 0) (fun I_12 => (some ((i1 : Int), I_12, L)))))))) := by rw [kf_200.eq_2, if_pos (show (0 : Nat) = 0 from rfl)]
set_option maxHeartbeats 8000000 in
set_option maxRecDepth 100000 in
theorem ks_200 : ∀ (n : Nat) (dp : Nat) (e : EN) (lab : Nat) (I : Nat → Nat → Int32) (I' : JI) (L : Nat → Nat → Int64) (L' : JI) (i1 : Int32) (i1' : Int), Rli I I' → Rll L L' → Ui i1 i1' → Sim R3 (g_200 n dp e lab I L i1) (kf_200 n dp e lab I' L' i1') := by
  intro n
  induction n with
  | zero => intros; rw [kf_200.eq_1]; exact Sn
  | succ n ih =>
    intro dp e lab I I' L L' i1 i1' u_I u_L u_i1
    rw [g_200.eq_2, kf_200.eq_2]
    refine Sc Iff.rfl (fun _ => ?_) (fun _ => ?_)
    · refine SsJ (ri_up u_I (rfl : ((1 : Nat) : Int) = 1) (rfl : Ui (0) (0))) (fun I_2 I_2' u_I_2 => ?_)
      refine SsJ (ri_up u_I_2 (rfl : ((32 : Nat) : Int) = 32) (rfl : Ui (0) (0))) (fun I_7 I_7' u_I_7 => ?_)
      refine SsJ (ri_up u_I_7 (rfl : ((51 : Nat) : Int) = 51) (rfl : Ui (0) (0))) (fun I_12 I_12' u_I_12 => ?_)
      exact Sr ⟨u_i1, u_I_12, u_L⟩
    exact Sn
