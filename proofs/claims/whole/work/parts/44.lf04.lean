/-! lifted functions 04, printed by lift.py -/
set_option maxHeartbeats 4000000 in
set_option maxRecDepth 100000 in
def kf_148 : Nat → Nat → EN → Nat → JI → JI → Option (JI × JI)
  | 0, _, _, _, _, _ => none
  | n + 1, dp, e, lab, I, L =>
    if lab = 0 then (if (I 73 16) = 0 then (some (I, L)) else (stI (w2 I 73 16 0) (fun I_10 => (if 1 ≤ dp then ((kf_36 n (dp - 1) e 0 I_10 L (-1) 0 0 76).bind (fun ⟨I0_18, L0_18⟩ => (stI (w2 I0_18 73 12 (-1)) (fun I_23 => (if (I_23 73 10) ≤ 10 then (if 1 ≤ dp then ((kf_36 n (dp - 1) e 0 I_23 L0_18 0 0 0 80).bind (fun ⟨I1_41, L1_41⟩ => (if -2147483648 ≤ (I1_41 73 11) + 1 ∧ (I1_41 73 11) + 1 ≤ 2147483647 then (stI (w2 I1_41 73 13 ((I1_41 73 11) + 1)) (fun I_51 => (if (I_51 1 8) = 0 then (stI (w2 I_51 73 14 0) (fun I_91 => (if 1 ≤ dp then ((kf_149 n (dp - 1) e 0 I_91 L1_41 1 0 0 0).bind (fun ⟨I2_96, L2_96⟩ => (if 1 ≤ dp then ((kf_151 n (dp - 1) e 0 I2_96 L2_96 0 0 0 0).bind (fun ⟨I3_102, L3_102⟩ => (if (I3_102 73 13) ≤ (I3_102 73 11) then (stI (w2 I3_102 73 12 (I3_102 73 13)) (fun I_122 => (if -2147483648 ≤ (I_122 73 12) + 1 ∧ (I_122 73 12) + 1 ≤ 2147483647 then (stI (w2 I_122 73 13 ((I_122 73 12) + 1)) (fun I_132 => (stI (w2 I_132 73 14 (I_132 73 12)) (fun I_140 => (if 1 ≤ dp then ((kf_149 n (dp - 1) e 0 I_140 L3_102 0 0 0 0).bind (fun ⟨I4_145, L4_145⟩ => (if 1 ≤ dp then ((kf_151 n (dp - 1) e 0 I4_145 L4_145 0 0 0 0).bind (fun ⟨I5_151, L5_151⟩ => (some (I5_151, L5_151)))) else none))) else none))))) else none))) else (some (I3_102, L3_102))))) else none))) else none))) else (if ¬ ((I_51 1 8) = 0) then (if (-2147483648 ≤ (I_51 73 11) + (I_51 1 8) ∧ (I_51 73 11) + (I_51 1 8) ≤ 2147483647) ∧ (-2147483648 ≤ ((I_51 73 11) + (I_51 1 8)) - 1 ∧ ((I_51 73 11) + (I_51 1 8)) - 1 ≤ 2147483647) ∧ (-2147483647 ≤ (((I_51 73 11) + (I_51 1 8)) - 1)) then (stI (w2 I_51 73 14 (Int.tdiv (((I_51 73 11) + (I_51 1 8)) - 1) (I_51 1 8))) (fun I_91 => (if 1 ≤ dp then ((kf_149 n (dp - 1) e 0 I_91 L1_41 1 0 0 0).bind (fun ⟨I2_96, L2_96⟩ => (if 1 ≤ dp then ((kf_151 n (dp - 1) e 0 I2_96 L2_96 0 0 0 0).bind (fun ⟨I3_102, L3_102⟩ => (if (I3_102 73 13) ≤ (I3_102 73 11) then (stI (w2 I3_102 73 12 (I3_102 73 13)) (fun I_122 => (if -2147483648 ≤ (I_122 73 12) + 1 ∧ (I_122 73 12) + 1 ≤ 2147483647 then (stI (w2 I_122 73 13 ((I_122 73 12) + 1)) (fun I_132 => (stI (w2 I_132 73 14 (I_132 73 12)) (fun I_140 => (if 1 ≤ dp then ((kf_149 n (dp - 1) e 0 I_140 L3_102 0 0 0 0).bind (fun ⟨I4_145, L4_145⟩ => (if 1 ≤ dp then ((kf_151 n (dp - 1) e 0 I4_145 L4_145 0 0 0 0).bind (fun ⟨I5_151, L5_151⟩ => (some (I5_151, L5_151)))) else none))) else none))))) else none))) else (some (I3_102, L3_102))))) else none))) else none))) else none) else none)))) else none))) else none) else (some (I_23, L0_18))))))) else none))))
    else none
set_option maxRecDepth 100000 in
theorem ke_148_0 (n : Nat) (dp : Nat) (e : EN) (I : JI) (L : JI) : kf_148 (n + 1) dp e 0 I L = (if (I 73 16) = 0 then (some (I, L)) else (stI (w2 I 73 16 0) (fun I_10 => (if 1 ≤ dp then ((kf_36 n (dp - 1) e 0 I_10 L (-1) 0 0 76).bind (fun ⟨I0_18, L0_18⟩ => (stI (w2 I0_18 73 12 (-1)) (fun I_23 => (if (I_23 73 10) ≤ 10 then (if 1 ≤ dp then ((kf_36 n (dp - 1) e 0 I_23 L0_18 0 0 0 80).bind (fun ⟨I1_41, L1_41⟩ => (if -2147483648 ≤ (I1_41 73 11) + 1 ∧ (I1_41 73 11) + 1 ≤ 2147483647 then (stI (w2 I1_41 73 13 ((I1_41 73 11) + 1)) (fun I_51 => (if (I_51 1 8) = 0 then (stI (w2 I_51 73 14 0) (fun I_91 => (if 1 ≤ dp then ((kf_149 n (dp - 1) e 0 I_91 L1_41 1 0 0 0).bind (fun ⟨I2_96, L2_96⟩ => (if 1 ≤ dp then ((kf_151 n (dp - 1) e 0 I2_96 L2_96 0 0 0 0).bind (fun ⟨I3_102, L3_102⟩ => (if (I3_102 73 13) ≤ (I3_102 73 11) then (stI (w2 I3_102 73 12 (I3_102 73 13)) (fun I_122 => (if -2147483648 ≤ (I_122 73 12) + 1 ∧ (I_122 73 12) + 1 ≤ 2147483647 then (stI (w2 I_122 73 13 ((I_122 73 12) + 1)) (fun I_132 => (stI (w2 I_132 73 14 (I_132 73 12)) (fun I_140 => (if 1 ≤ dp then ((kf_149 n (dp - 1) e 0 I_140 L3_102 0 0 0 0).bind (fun ⟨I4_145, L4_145⟩ => (if 1 ≤ dp then ((kf_151 n (dp - 1) e 0 I4_145 L4_145 0 0 0 0).bind (fun ⟨I5_151, L5_151⟩ => (some (I5_151, L5_151)))) else none))) else none))))) else none))) else (some (I3_102, L3_102))))) else none))) else none))) else (if ¬ ((I_51 1 8) = 0) then (if (-2147483648 ≤ (I_51 73 11) + (I_51 1 8) ∧ (I_51 73 11) + (I_51 1 8) ≤ 2147483647) ∧ (-2147483648 ≤ ((I_51 73 11) + (I_51 1 8)) - 1 ∧ ((I_51 73 11) + (I_51 1 8)) - 1 ≤ 2147483647) ∧ (-2147483647 ≤ (((I_51 73 11) + (I_51 1 8)) - 1)) then (stI (w2 I_51 73 14 (Int.tdiv (((I_51 73 11) + (I_51 1 8)) - 1) (I_51 1 8))) (fun I_91 => (if 1 ≤ dp then ((kf_149 n (dp - 1) e 0 I_91 L1_41 1 0 0 0).bind (fun ⟨I2_96, L2_96⟩ => (if 1 ≤ dp then ((kf_151 n (dp - 1) e 0 I2_96 L2_96 0 0 0 0).bind (fun ⟨I3_102, L3_102⟩ => (if (I3_102 73 13) ≤ (I3_102 73 11) then (stI (w2 I3_102 73 12 (I3_102 73 13)) (fun I_122 => (if -2147483648 ≤ (I_122 73 12) + 1 ∧ (I_122 73 12) + 1 ≤ 2147483647 then (stI (w2 I_122 73 13 ((I_122 73 12) + 1)) (fun I_132 => (stI (w2 I_132 73 14 (I_132 73 12)) (fun I_140 => (if 1 ≤ dp then ((kf_149 n (dp - 1) e 0 I_140 L3_102 0 0 0 0).bind (fun ⟨I4_145, L4_145⟩ => (if 1 ≤ dp then ((kf_151 n (dp - 1) e 0 I4_145 L4_145 0 0 0 0).bind (fun ⟨I5_151, L5_151⟩ => (some (I5_151, L5_151)))) else none))) else none))))) else none))) else (some (I3_102, L3_102))))) else none))) else none))) else none) else none)))) else none))) else none) else (some (I_23, L0_18))))))) else none)))) := by rw [kf_148.eq_2, if_pos (show (0 : Nat) = 0 from rfl)]
set_option maxHeartbeats 8000000 in
set_option maxRecDepth 100000 in
theorem ks_148 : ∀ (n : Nat) (dp : Nat) (e : EN) (lab : Nat) (I : Nat → Nat → Int32) (I' : JI) (L : Nat → Nat → Int64) (L' : JI), Rli I I' → Rll L L' → Sim R2 (g_148 n dp e lab I L) (kf_148 n dp e lab I' L') := by
  intro n
  induction n with
  | zero => intros; rw [kf_148.eq_1]; exact Sn
  | succ n ih =>
    intro dp e lab I I' L L' u_I u_L
    rw [g_148.eq_2, kf_148.eq_2]
    refine Sc Iff.rfl (fun _ => ?_) (fun _ => ?_)
    · refine Sc (eq_up (u_I 73 16) (rfl : Ui 0 0)) (fun c1 => ?_) (fun c1 => ?_)
      · exact Sr ⟨u_I, u_L⟩
      · refine SsJ (ri_up u_I (rfl : ((16 : Nat) : Int) = 16) (rfl : Ui (0) (0))) (fun I_10 I_10' u_I_10 => ?_)
        refine Sc Iff.rfl (fun c2 => ?_) (fun _ => Sn)
        refine Sb2 (ks_36 n (dp - 1) e 0 _ _ _ _ _ _ _ _ _ _ 76 u_I_10 u_L (rfl : Ui (-1) (-1)) (rfl : Ui 0 0) (rfl : Ui 0 0)) (fun I0_18 I0_18' L0_18 L0_18' u_I0_18 u_L0_18 => ?_)
        refine SsJ (ri_up u_I0_18 (rfl : ((12 : Nat) : Int) = 12) (rfl : Ui (-1) (-1))) (fun I_23 I_23' u_I_23 => ?_)
        refine Sc (le_up (u_I_23 73 10) (rfl : Ui (10) (10))) (fun c3 => ?_) (fun c3 => ?_)
        · refine Sc Iff.rfl (fun c4 => ?_) (fun _ => Sn)
          refine Sb2 (ks_36 n (dp - 1) e 0 _ _ _ _ _ _ _ _ _ _ 80 u_I_23 u_L0_18 (rfl : Ui (0) (0)) (rfl : Ui 0 0) (rfl : Ui 0 0)) (fun I1_41 I1_41' L1_41 L1_41' u_I1_41 u_L1_41 => ?_)
          refine Sg (fun g5 => ?_)
          refine SsJ (ri_up u_I1_41 (rfl : ((13 : Nat) : Int) = 13) (ui_add (u_I1_41 73 11) (rfl : Ui (1) (1)) g5)) (fun I_51 I_51' u_I_51 => ?_)
          refine Sc (eq_up (u_I_51 1 8) (rfl : Ui 0 0)) (fun c6 => ?_) (fun c6 => ?_)
          · refine SsJ (ri_up u_I_51 (rfl : ((14 : Nat) : Int) = 14) (rfl : Ui (0) (0))) (fun I_91 I_91' u_I_91 => ?_)
            refine Sc Iff.rfl (fun c7 => ?_) (fun _ => Sn)
            refine Sb2 (ks_149 n (dp - 1) e 0 _ _ _ _ _ _ _ _ _ _ _ _ u_I_91 u_L1_41 (rfl : Ui (1) (1)) (rfl : Ui 0 0) (rfl : Ui 0 0) (rfl : Ui 0 0)) (fun I2_96 I2_96' L2_96 L2_96' u_I2_96 u_L2_96 => ?_)
            refine Sc Iff.rfl (fun c8 => ?_) (fun _ => Sn)
            refine Sb2 (ks_151 n (dp - 1) e 0 _ _ _ _ _ _ _ _ _ _ _ _ u_I2_96 u_L2_96 (rfl : Ui (0) (0)) (rfl : Ui (0) (0)) (rfl : Ui 0 0) (rfl : Ui 0 0)) (fun I3_102 I3_102' L3_102 L3_102' u_I3_102 u_L3_102 => ?_)
            refine Sc (le_up (u_I3_102 73 13) (u_I3_102 73 11)) (fun c9 => ?_) (fun c9 => ?_)
            · refine SsJ (ri_up u_I3_102 (rfl : ((12 : Nat) : Int) = 12) (u_I3_102 73 13)) (fun I_122 I_122' u_I_122 => ?_)
              refine Sg (fun g10 => ?_)
              refine SsJ (ri_up u_I_122 (rfl : ((13 : Nat) : Int) = 13) (ui_add (u_I_122 73 12) (rfl : Ui (1) (1)) g10)) (fun I_132 I_132' u_I_132 => ?_)
              refine SsJ (ri_up u_I_132 (rfl : ((14 : Nat) : Int) = 14) (u_I_132 73 12)) (fun I_140 I_140' u_I_140 => ?_)
              refine Sc Iff.rfl (fun c11 => ?_) (fun _ => Sn)
              refine Sb2 (ks_149 n (dp - 1) e 0 _ _ _ _ _ _ _ _ _ _ _ _ u_I_140 u_L3_102 (rfl : Ui (0) (0)) (rfl : Ui 0 0) (rfl : Ui 0 0) (rfl : Ui 0 0)) (fun I4_145 I4_145' L4_145 L4_145' u_I4_145 u_L4_145 => ?_)
              refine Sc Iff.rfl (fun c12 => ?_) (fun _ => Sn)
              refine Sb2 (ks_151 n (dp - 1) e 0 _ _ _ _ _ _ _ _ _ _ _ _ u_I4_145 u_L4_145 (rfl : Ui (0) (0)) (rfl : Ui (0) (0)) (rfl : Ui 0 0) (rfl : Ui 0 0)) (fun I5_151 I5_151' L5_151 L5_151' u_I5_151 u_L5_151 => ?_)
              exact Sr ⟨u_I5_151, u_L5_151⟩
            · exact Sr ⟨u_I3_102, u_L3_102⟩
          · refine Sc (not_congr (eq_up (u_I_51 1 8) (rfl : Ui 0 0))) (fun c13 => ?_) (fun _ => Sn)
            refine Sg (fun g14 => ?_)
            refine SsJ (ri_up u_I_51 (rfl : ((14 : Nat) : Int) = 14) (ui_div (ui_sub (ui_add (u_I_51 73 11) (u_I_51 1 8) g14.1) (rfl : Ui (1) (1)) g14.2.1) (u_I_51 1 8) g14.2.2)) (fun I_91 I_91' u_I_91 => ?_)
            refine Sc Iff.rfl (fun c15 => ?_) (fun _ => Sn)
            refine Sb2 (ks_149 n (dp - 1) e 0 _ _ _ _ _ _ _ _ _ _ _ _ u_I_91 u_L1_41 (rfl : Ui (1) (1)) (rfl : Ui 0 0) (rfl : Ui 0 0) (rfl : Ui 0 0)) (fun I2_96 I2_96' L2_96 L2_96' u_I2_96 u_L2_96 => ?_)
            refine Sc Iff.rfl (fun c16 => ?_) (fun _ => Sn)
            refine Sb2 (ks_151 n (dp - 1) e 0 _ _ _ _ _ _ _ _ _ _ _ _ u_I2_96 u_L2_96 (rfl : Ui (0) (0)) (rfl : Ui (0) (0)) (rfl : Ui 0 0) (rfl : Ui 0 0)) (fun I3_102 I3_102' L3_102 L3_102' u_I3_102 u_L3_102 => ?_)
            refine Sc (le_up (u_I3_102 73 13) (u_I3_102 73 11)) (fun c17 => ?_) (fun c17 => ?_)
            · refine SsJ (ri_up u_I3_102 (rfl : ((12 : Nat) : Int) = 12) (u_I3_102 73 13)) (fun I_122 I_122' u_I_122 => ?_)
              refine Sg (fun g18 => ?_)
              refine SsJ (ri_up u_I_122 (rfl : ((13 : Nat) : Int) = 13) (ui_add (u_I_122 73 12) (rfl : Ui (1) (1)) g18)) (fun I_132 I_132' u_I_132 => ?_)
              refine SsJ (ri_up u_I_132 (rfl : ((14 : Nat) : Int) = 14) (u_I_132 73 12)) (fun I_140 I_140' u_I_140 => ?_)
              refine Sc Iff.rfl (fun c19 => ?_) (fun _ => Sn)
              refine Sb2 (ks_149 n (dp - 1) e 0 _ _ _ _ _ _ _ _ _ _ _ _ u_I_140 u_L3_102 (rfl : Ui (0) (0)) (rfl : Ui 0 0) (rfl : Ui 0 0) (rfl : Ui 0 0)) (fun I4_145 I4_145' L4_145 L4_145' u_I4_145 u_L4_145 => ?_)
              refine Sc Iff.rfl (fun c20 => ?_) (fun _ => Sn)
              refine Sb2 (ks_151 n (dp - 1) e 0 _ _ _ _ _ _ _ _ _ _ _ _ u_I4_145 u_L4_145 (rfl : Ui (0) (0)) (rfl : Ui (0) (0)) (rfl : Ui 0 0) (rfl : Ui 0 0)) (fun I5_151 I5_151' L5_151 L5_151' u_I5_151 u_L5_151 => ?_)
              exact Sr ⟨u_I5_151, u_L5_151⟩
            · exact Sr ⟨u_I3_102, u_L3_102⟩
        · exact Sr ⟨u_I_23, u_L0_18⟩
    exact Sn
set_option maxHeartbeats 4000000 in
set_option maxRecDepth 100000 in
def kf_156 : Nat → Nat → EN → Nat → JI → JI → Int → Int → Int → Int → Int → Int → Option (Int × JI × JI)
  | 0, _, _, _, _, _, _, _, _, _, _, _ => none
  | n + 1, dp, e, lab, I, L, i1, i2, i3, i4, i5, i6 =>
    if lab = 0 then (if 1 ≤ dp then ((kf_14 n (dp - 1) e 0 I L i1 1 99).bind (fun ⟨x0_4, I0_4, L0_4⟩ => (if x0_4 = 0 then (some ((0 : Int), I0_4, L0_4)) else (if 1 ≤ dp then ((kf_14 n (dp - 1) e 0 I0_4 L0_4 i2 0 100).bind (fun ⟨x1_14, I1_14, L1_14⟩ => (if x1_14 = 0 then (some ((0 : Int), I1_14, L1_14)) else (if 1 ≤ dp then ((kf_14 n (dp - 1) e 0 I1_14 L1_14 i3 0 99).bind (fun ⟨x2_24, I2_24, L2_24⟩ => (if x2_24 = 0 then (some ((0 : Int), I2_24, L2_24)) else (if 1 ≤ dp then ((kf_14 n (dp - 1) e 0 I2_24 L2_24 i4 0 3).bind (fun ⟨x3_34, I3_34, L3_34⟩ => (if x3_34 = 0 then (some ((0 : Int), I3_34, L3_34)) else (if 1 ≤ dp then ((kf_14 n (dp - 1) e 0 I3_34 L3_34 i5 0 23).bind (fun ⟨x4_45, I4_45, L4_45⟩ => (if x4_45 = 0 then (some ((0 : Int), I4_45, L4_45)) else (if 1 ≤ dp then ((kf_14 n (dp - 1) e 0 I4_45 L4_45 i6 0 255).bind (fun ⟨x5_57, I5_57, L5_57⟩ => (if x5_57 = 0 then (some ((0 : Int), I5_57, L5_57)) else (some ((1 : Int), I5_57, L5_57))))) else none)))) else none)))) else none)))) else none)))) else none)))) else none)
    else none
set_option maxRecDepth 100000 in
theorem ke_156_0 (n : Nat) (dp : Nat) (e : EN) (I : JI) (L : JI) (i1 : Int) (i2 : Int) (i3 : Int) (i4 : Int) (i5 : Int) (i6 : Int) : kf_156 (n + 1) dp e 0 I L i1 i2 i3 i4 i5 i6 = (if 1 ≤ dp then ((kf_14 n (dp - 1) e 0 I L i1 1 99).bind (fun ⟨x0_4, I0_4, L0_4⟩ => (if x0_4 = 0 then (some ((0 : Int), I0_4, L0_4)) else (if 1 ≤ dp then ((kf_14 n (dp - 1) e 0 I0_4 L0_4 i2 0 100).bind (fun ⟨x1_14, I1_14, L1_14⟩ => (if x1_14 = 0 then (some ((0 : Int), I1_14, L1_14)) else (if 1 ≤ dp then ((kf_14 n (dp - 1) e 0 I1_14 L1_14 i3 0 99).bind (fun ⟨x2_24, I2_24, L2_24⟩ => (if x2_24 = 0 then (some ((0 : Int), I2_24, L2_24)) else (if 1 ≤ dp then ((kf_14 n (dp - 1) e 0 I2_24 L2_24 i4 0 3).bind (fun ⟨x3_34, I3_34, L3_34⟩ => (if x3_34 = 0 then (some ((0 : Int), I3_34, L3_34)) else (if 1 ≤ dp then ((kf_14 n (dp - 1) e 0 I3_34 L3_34 i5 0 23).bind (fun ⟨x4_45, I4_45, L4_45⟩ => (if x4_45 = 0 then (some ((0 : Int), I4_45, L4_45)) else (if 1 ≤ dp then ((kf_14 n (dp - 1) e 0 I4_45 L4_45 i6 0 255).bind (fun ⟨x5_57, I5_57, L5_57⟩ => (if x5_57 = 0 then (some ((0 : Int), I5_57, L5_57)) else (some ((1 : Int), I5_57, L5_57))))) else none)))) else none)))) else none)))) else none)))) else none)))) else none) := by rw [kf_156.eq_2, if_pos (show (0 : Nat) = 0 from rfl)]
set_option maxHeartbeats 8000000 in
set_option maxRecDepth 100000 in
theorem ks_156 : ∀ (n : Nat) (dp : Nat) (e : EN) (lab : Nat) (I : Nat → Nat → Int32) (I' : JI) (L : Nat → Nat → Int64) (L' : JI) (i1 : Int32) (i1' : Int) (i2 : Int32) (i2' : Int) (i3 : Int32) (i3' : Int) (i4 : Int32) (i4' : Int) (i5 : Int32) (i5' : Int) (i6 : Int32) (i6' : Int), Rli I I' → Rll L L' → Ui i1 i1' → Ui i2 i2' → Ui i3 i3' → Ui i4 i4' → Ui i5 i5' → Ui i6 i6' → Sim R3 (g_156 n dp e lab I L i1 i2 i3 i4 i5 i6) (kf_156 n dp e lab I' L' i1' i2' i3' i4' i5' i6') := by
  intro n
  induction n with
  | zero => intros; rw [kf_156.eq_1]; exact Sn
  | succ n ih =>
    intro dp e lab I I' L L' i1 i1' i2 i2' i3 i3' i4 i4' i5 i5' i6 i6' u_I u_L u_i1 u_i2 u_i3 u_i4 u_i5 u_i6
    rw [g_156.eq_2, kf_156.eq_2]
    refine Sc Iff.rfl (fun _ => ?_) (fun _ => ?_)
    · refine Sc Iff.rfl (fun c1 => ?_) (fun _ => Sn)
      refine Sb3 (ks_14 n (dp - 1) e 0 _ _ _ _ _ _ _ _ _ _ u_I u_L u_i1 (rfl : Ui (1) (1)) (rfl : Ui (99) (99))) (fun x0_4 x0_4' I0_4 I0_4' L0_4 L0_4' u_x0_4 u_I0_4 u_L0_4 => ?_)
      refine Sc (eq_up u_x0_4 (rfl : Ui 0 0)) (fun c2 => ?_) (fun c2 => ?_)
      · exact Sr ⟨(rfl : Ui (0) (0)), u_I0_4, u_L0_4⟩
      · refine Sc Iff.rfl (fun c3 => ?_) (fun _ => Sn)
        refine Sb3 (ks_14 n (dp - 1) e 0 _ _ _ _ _ _ _ _ _ _ u_I0_4 u_L0_4 u_i2 (rfl : Ui (0) (0)) (rfl : Ui (100) (100))) (fun x1_14 x1_14' I1_14 I1_14' L1_14 L1_14' u_x1_14 u_I1_14 u_L1_14 => ?_)
        refine Sc (eq_up u_x1_14 (rfl : Ui 0 0)) (fun c4 => ?_) (fun c4 => ?_)
        · exact Sr ⟨(rfl : Ui (0) (0)), u_I1_14, u_L1_14⟩
        · refine Sc Iff.rfl (fun c5 => ?_) (fun _ => Sn)
          refine Sb3 (ks_14 n (dp - 1) e 0 _ _ _ _ _ _ _ _ _ _ u_I1_14 u_L1_14 u_i3 (rfl : Ui (0) (0)) (rfl : Ui (99) (99))) (fun x2_24 x2_24' I2_24 I2_24' L2_24 L2_24' u_x2_24 u_I2_24 u_L2_24 => ?_)
          refine Sc (eq_up u_x2_24 (rfl : Ui 0 0)) (fun c6 => ?_) (fun c6 => ?_)
          · exact Sr ⟨(rfl : Ui (0) (0)), u_I2_24, u_L2_24⟩
          · refine Sc Iff.rfl (fun c7 => ?_) (fun _ => Sn)
            refine Sb3 (ks_14 n (dp - 1) e 0 _ _ _ _ _ _ _ _ _ _ u_I2_24 u_L2_24 u_i4 (rfl : Ui (0) (0)) (rfl : Ui (3) (3))) (fun x3_34 x3_34' I3_34 I3_34' L3_34 L3_34' u_x3_34 u_I3_34 u_L3_34 => ?_)
            refine Sc (eq_up u_x3_34 (rfl : Ui 0 0)) (fun c8 => ?_) (fun c8 => ?_)
            · exact Sr ⟨(rfl : Ui (0) (0)), u_I3_34, u_L3_34⟩
            · refine Sc Iff.rfl (fun c9 => ?_) (fun _ => Sn)
              refine Sb3 (ks_14 n (dp - 1) e 0 _ _ _ _ _ _ _ _ _ _ u_I3_34 u_L3_34 u_i5 (rfl : Ui (0) (0)) (rfl : Ui (23) (23))) (fun x4_45 x4_45' I4_45 I4_45' L4_45 L4_45' u_x4_45 u_I4_45 u_L4_45 => ?_)
              refine Sc (eq_up u_x4_45 (rfl : Ui 0 0)) (fun c10 => ?_) (fun c10 => ?_)
              · exact Sr ⟨(rfl : Ui (0) (0)), u_I4_45, u_L4_45⟩
              · refine Sc Iff.rfl (fun c11 => ?_) (fun _ => Sn)
                refine Sb3 (ks_14 n (dp - 1) e 0 _ _ _ _ _ _ _ _ _ _ u_I4_45 u_L4_45 u_i6 (rfl : Ui (0) (0)) (rfl : Ui (255) (255))) (fun x5_57 x5_57' I5_57 I5_57' L5_57 L5_57' u_x5_57 u_I5_57 u_L5_57 => ?_)
                refine Sc (eq_up u_x5_57 (rfl : Ui 0 0)) (fun c12 => ?_) (fun c12 => ?_)
                · exact Sr ⟨(rfl : Ui (0) (0)), u_I5_57, u_L5_57⟩
                · exact Sr ⟨(rfl : Ui (1) (1)), u_I5_57, u_L5_57⟩
    exact Sn
set_option maxHeartbeats 4000000 in
set_option maxRecDepth 100000 in
def kf_157 : Nat → Nat → EN → Nat → JI → JI → Option (JI × JI)
  | 0, _, _, _, _, _ => none
  | n + 1, dp, e, lab, I, L =>
    if lab = 0 then (stI (w2 I 81 11 1) (fun I_2 => (some (I_2, L))))
    else none
set_option maxRecDepth 100000 in
theorem ke_157_0 (n : Nat) (dp : Nat) (e : EN) (I : JI) (L : JI) : kf_157 (n + 1) dp e 0 I L = (stI (w2 I 81 11 1) (fun I_2 => (some (I_2, L)))) := by rw [kf_157.eq_2, if_pos (show (0 : Nat) = 0 from rfl)]
set_option maxHeartbeats 8000000 in
set_option maxRecDepth 100000 in
theorem ks_157 : ∀ (n : Nat) (dp : Nat) (e : EN) (lab : Nat) (I : Nat → Nat → Int32) (I' : JI) (L : Nat → Nat → Int64) (L' : JI), Rli I I' → Rll L L' → Sim R2 (g_157 n dp e lab I L) (kf_157 n dp e lab I' L') := by
  intro n
  induction n with
  | zero => intros; rw [kf_157.eq_1]; exact Sn
  | succ n ih =>
    intro dp e lab I I' L L' u_I u_L
    rw [g_157.eq_2, kf_157.eq_2]
    refine Sc Iff.rfl (fun _ => ?_) (fun _ => ?_)
    · refine SsJ (ri_up u_I (rfl : ((11 : Nat) : Int) = 11) (rfl : Ui (1) (1))) (fun I_2 I_2' u_I_2 => ?_)
      exact Sr ⟨u_I_2, u_L⟩
    exact Sn
set_option maxHeartbeats 4000000 in
set_option maxRecDepth 100000 in
def kf_158 : Nat → Nat → EN → Nat → JI → JI → Int → Int → Int → Int → Int → Int → Option (Int × JI × JI)
  | 0, _, _, _, _, _, _, _, _, _, _, _ => none
  | n + 1, dp, e, lab, I, L, i1, i2, i3, i4, i5, i6 =>
    if lab = 0 then (if (I 1 9) < 16 then (if (-2147483648 ≤ (I 1 9) * 7 ∧ (I 1 9) * 7 ≤ 2147483647) ∧ (-2147483648 ≤ ((I 1 9) * 7) + 0 ∧ ((I 1 9) * 7) + 0 ≤ 2147483647) then (if 0 ≤ (((I 1 9) * 7) + 0) ∧ (((I 1 9) * 7) + 0) < 112 then (stI (w2 I 7 (((I 1 9) * 7) + 0) i1) (fun I_37 => (if -2147483648 ≤ ((I 1 9) * 7) + 1 ∧ ((I 1 9) * 7) + 1 ≤ 2147483647 then (if 0 ≤ (((I 1 9) * 7) + 1) ∧ (((I 1 9) * 7) + 1) < 112 then (stI (w2 I_37 7 (((I 1 9) * 7) + 1) i2) (fun I_50 => (if -2147483648 ≤ ((I 1 9) * 7) + 2 ∧ ((I 1 9) * 7) + 2 ≤ 2147483647 then (if 0 ≤ (((I 1 9) * 7) + 2) ∧ (((I 1 9) * 7) + 2) < 112 then (stI (w2 I_50 7 (((I 1 9) * 7) + 2) i3) (fun I_63 => (if -2147483648 ≤ ((I 1 9) * 7) + 3 ∧ ((I 1 9) * 7) + 3 ≤ 2147483647 then (if 0 ≤ (((I 1 9) * 7) + 3) ∧ (((I 1 9) * 7) + 3) < 112 then (stI (w2 I_63 7 (((I 1 9) * 7) + 3) i4) (fun I_77 => (if -2147483648 ≤ ((I 1 9) * 7) + 4 ∧ ((I 1 9) * 7) + 4 ≤ 2147483647 then (if 0 ≤ (((I 1 9) * 7) + 4) ∧ (((I 1 9) * 7) + 4) < 112 then (stI (w2 I_77 7 (((I 1 9) * 7) + 4) i5) (fun I_91 => (if -2147483648 ≤ ((I 1 9) * 7) + 5 ∧ ((I 1 9) * 7) + 5 ≤ 2147483647 then (if 0 ≤ (((I 1 9) * 7) + 5) ∧ (((I 1 9) * 7) + 5) < 112 then (stI (w2 I_91 7 (((I 1 9) * 7) + 5) i6) (fun I_105 => (if -2147483648 ≤ ((I 1 9) * 7) + 6 ∧ ((I 1 9) * 7) + 6 ≤ 2147483647 then (if 0 ≤ (((I 1 9) * 7) + 6) ∧ (((I 1 9) * 7) + 6) < 112 then (stI (w2 I_105 7 (((I 1 9) * 7) + 6) 1) (fun I_119 => (if -2147483648 ≤ (I 1 9) + 1 ∧ (I 1 9) + 1 ≤ 2147483647 then (stI (w2 I_119 1 9 ((I 1 9) + 1)) (fun I_128 => (some (((I 1 9) : Int), I_128, L)))) else none))) else none) else none))) else none) else none))) else none) else none))) else none) else none))) else none) else none))) else none) else none))) else none) else none) else (some (((-1) : Int), I, L)))
    else none
set_option maxRecDepth 100000 in
theorem ke_158_0 (n : Nat) (dp : Nat) (e : EN) (I : JI) (L : JI) (i1 : Int) (i2 : Int) (i3 : Int) (i4 : Int) (i5 : Int) (i6 : Int) : kf_158 (n + 1) dp e 0 I L i1 i2 i3 i4 i5 i6 = (if (I 1 9) < 16 then (if (-2147483648 ≤ (I 1 9) * 7 ∧ (I 1 9) * 7 ≤ 2147483647) ∧ (-2147483648 ≤ ((I 1 9) * 7) + 0 ∧ ((I 1 9) * 7) + 0 ≤ 2147483647) then (if 0 ≤ (((I 1 9) * 7) + 0) ∧ (((I 1 9) * 7) + 0) < 112 then (stI (w2 I 7 (((I 1 9) * 7) + 0) i1) (fun I_37 => (if -2147483648 ≤ ((I 1 9) * 7) + 1 ∧ ((I 1 9) * 7) + 1 ≤ 2147483647 then (if 0 ≤ (((I 1 9) * 7) + 1) ∧ (((I 1 9) * 7) + 1) < 112 then (stI (w2 I_37 7 (((I 1 9) * 7) + 1) i2) (fun I_50 => (if -2147483648 ≤ ((I 1 9) * 7) + 2 ∧ ((I 1 9) * 7) + 2 ≤ 2147483647 then (if 0 ≤ (((I 1 9) * 7) + 2) ∧ (((I 1 9) * 7) + 2) < 112 then (stI (w2 I_50 7 (((I 1 9) * 7) + 2) i3) (fun I_63 => (if -2147483648 ≤ ((I 1 9) * 7) + 3 ∧ ((I 1 9) * 7) + 3 ≤ 2147483647 then (if 0 ≤ (((I 1 9) * 7) + 3) ∧ (((I 1 9) * 7) + 3) < 112 then (stI (w2 I_63 7 (((I 1 9) * 7) + 3) i4) (fun I_77 => (if -2147483648 ≤ ((I 1 9) * 7) + 4 ∧ ((I 1 9) * 7) + 4 ≤ 2147483647 then (if 0 ≤ (((I 1 9) * 7) + 4) ∧ (((I 1 9) * 7) + 4) < 112 then (stI (w2 I_77 7 (((I 1 9) * 7) + 4) i5) (fun I_91 => (if -2147483648 ≤ ((I 1 9) * 7) + 5 ∧ ((I 1 9) * 7) + 5 ≤ 2147483647 then (if 0 ≤ (((I 1 9) * 7) + 5) ∧ (((I 1 9) * 7) + 5) < 112 then (stI (w2 I_91 7 (((I 1 9) * 7) + 5) i6) (fun I_105 => (if -2147483648 ≤ ((I 1 9) * 7) + 6 ∧ ((I 1 9) * 7) + 6 ≤ 2147483647 then (if 0 ≤ (((I 1 9) * 7) + 6) ∧ (((I 1 9) * 7) + 6) < 112 then (stI (w2 I_105 7 (((I 1 9) * 7) + 6) 1) (fun I_119 => (if -2147483648 ≤ (I 1 9) + 1 ∧ (I 1 9) + 1 ≤ 2147483647 then (stI (w2 I_119 1 9 ((I 1 9) + 1)) (fun I_128 => (some (((I 1 9) : Int), I_128, L)))) else none))) else none) else none))) else none) else none))) else none) else none))) else none) else none))) else none) else none))) else none) else none))) else none) else none) else (some (((-1) : Int), I, L))) := by rw [kf_158.eq_2, if_pos (show (0 : Nat) = 0 from rfl)]
set_option maxHeartbeats 8000000 in
set_option maxRecDepth 100000 in
theorem ks_158 : ∀ (n : Nat) (dp : Nat) (e : EN) (lab : Nat) (I : Nat → Nat → Int32) (I' : JI) (L : Nat → Nat → Int64) (L' : JI) (i1 : Int32) (i1' : Int) (i2 : Int32) (i2' : Int) (i3 : Int32) (i3' : Int) (i4 : Int32) (i4' : Int) (i5 : Int32) (i5' : Int) (i6 : Int32) (i6' : Int), Rli I I' → Rll L L' → Ui i1 i1' → Ui i2 i2' → Ui i3 i3' → Ui i4 i4' → Ui i5 i5' → Ui i6 i6' → Sim R3 (g_158 n dp e lab I L i1 i2 i3 i4 i5 i6) (kf_158 n dp e lab I' L' i1' i2' i3' i4' i5' i6') := by
  intro n
  induction n with
  | zero => intros; rw [kf_158.eq_1]; exact Sn
  | succ n ih =>
    intro dp e lab I I' L L' i1 i1' i2 i2' i3 i3' i4 i4' i5 i5' i6 i6' u_I u_L u_i1 u_i2 u_i3 u_i4 u_i5 u_i6
    rw [g_158.eq_2, kf_158.eq_2]
    refine Sc Iff.rfl (fun _ => ?_) (fun _ => ?_)
    · refine Sc (lt_up (u_I 1 9) (rfl : Ui (16) (16))) (fun c1 => ?_) (fun c1 => ?_)
      · refine Sg (fun g2 => ?_)
        refine Sc (ix_up (ui_add (ui_mul (u_I 1 9) (rfl : Ui (7) (7)) g2.1) (rfl : Ui (0) (0)) g2.2)) (fun c3 => ?_) (fun _ => Sn)
        refine SsJ (ri_up u_I (kc_up (ui_add (ui_mul (u_I 1 9) (rfl : Ui (7) (7)) g2.1) (rfl : Ui (0) (0)) g2.2) c3.1) u_i1) (fun I_37 I_37' u_I_37 => ?_)
        refine Sg (fun g4 => ?_)
        refine Sc (ix_up (ui_add (ui_mul (u_I 1 9) (rfl : Ui (7) (7)) g2.1) (rfl : Ui (1) (1)) g4)) (fun c5 => ?_) (fun _ => Sn)
        refine SsJ (ri_up u_I_37 (kc_up (ui_add (ui_mul (u_I 1 9) (rfl : Ui (7) (7)) g2.1) (rfl : Ui (1) (1)) g4) c5.1) u_i2) (fun I_50 I_50' u_I_50 => ?_)
        refine Sg (fun g6 => ?_)
        refine Sc (ix_up (ui_add (ui_mul (u_I 1 9) (rfl : Ui (7) (7)) g2.1) (rfl : Ui (2) (2)) g6)) (fun c7 => ?_) (fun _ => Sn)
        refine SsJ (ri_up u_I_50 (kc_up (ui_add (ui_mul (u_I 1 9) (rfl : Ui (7) (7)) g2.1) (rfl : Ui (2) (2)) g6) c7.1) u_i3) (fun I_63 I_63' u_I_63 => ?_)
        refine Sg (fun g8 => ?_)
        refine Sc (ix_up (ui_add (ui_mul (u_I 1 9) (rfl : Ui (7) (7)) g2.1) (rfl : Ui (3) (3)) g8)) (fun c9 => ?_) (fun _ => Sn)
        refine SsJ (ri_up u_I_63 (kc_up (ui_add (ui_mul (u_I 1 9) (rfl : Ui (7) (7)) g2.1) (rfl : Ui (3) (3)) g8) c9.1) u_i4) (fun I_77 I_77' u_I_77 => ?_)
        refine Sg (fun g10 => ?_)
        refine Sc (ix_up (ui_add (ui_mul (u_I 1 9) (rfl : Ui (7) (7)) g2.1) (rfl : Ui (4) (4)) g10)) (fun c11 => ?_) (fun _ => Sn)
        refine SsJ (ri_up u_I_77 (kc_up (ui_add (ui_mul (u_I 1 9) (rfl : Ui (7) (7)) g2.1) (rfl : Ui (4) (4)) g10) c11.1) u_i5) (fun I_91 I_91' u_I_91 => ?_)
        refine Sg (fun g12 => ?_)
        refine Sc (ix_up (ui_add (ui_mul (u_I 1 9) (rfl : Ui (7) (7)) g2.1) (rfl : Ui (5) (5)) g12)) (fun c13 => ?_) (fun _ => Sn)
        refine SsJ (ri_up u_I_91 (kc_up (ui_add (ui_mul (u_I 1 9) (rfl : Ui (7) (7)) g2.1) (rfl : Ui (5) (5)) g12) c13.1) u_i6) (fun I_105 I_105' u_I_105 => ?_)
        refine Sg (fun g14 => ?_)
        refine Sc (ix_up (ui_add (ui_mul (u_I 1 9) (rfl : Ui (7) (7)) g2.1) (rfl : Ui (6) (6)) g14)) (fun c15 => ?_) (fun _ => Sn)
        refine SsJ (ri_up u_I_105 (kc_up (ui_add (ui_mul (u_I 1 9) (rfl : Ui (7) (7)) g2.1) (rfl : Ui (6) (6)) g14) c15.1) (rfl : Ui (1) (1))) (fun I_119 I_119' u_I_119 => ?_)
        refine Sg (fun g16 => ?_)
        refine SsJ (ri_up u_I_119 (rfl : ((9 : Nat) : Int) = 9) (ui_add (u_I 1 9) (rfl : Ui (1) (1)) g16)) (fun I_128 I_128' u_I_128 => ?_)
        exact Sr ⟨(u_I 1 9), u_I_128, u_L⟩
      · exact Sr ⟨(rfl : Ui (-1) (-1)), u_I, u_L⟩
    exact Sn
set_option maxHeartbeats 4000000 in
set_option maxRecDepth 100000 in
def kf_155 : Nat → Nat → EN → Nat → JI → JI → Int → Int → Int → Int → Int → Int → Option (Int × JI × JI)
  | 0, _, _, _, _, _, _, _, _, _, _, _ => none
  | n + 1, dp, e, lab, I, L, i1, i2, i3, i4, i5, i6 =>
    if lab = 0 then (if 1 ≤ dp then ((kf_156 n (dp - 1) e 0 I L i1 i2 i3 i4 i5 i6).bind (fun ⟨x0_13, I0_13, L0_13⟩ => (if x0_13 = 0 then (if 1 ≤ dp then ((kf_15 n (dp - 1) e 0 I0_13 L0_13 (-1)).bind (fun ⟨x1_21, I1_21, L1_21⟩ => (some ((x1_21 : Int), I1_21, L1_21)))) else none) else (if (I0_13 1 9) < 16 then (if 1 ≤ dp then ((kf_157 n (dp - 1) e 0 I0_13 L0_13).bind (fun ⟨I1_48, L1_48⟩ => (if 1 ≤ dp then ((kf_158 n (dp - 1) e 0 I1_48 L1_48 i1 i2 i3 i4 i5 i6).bind (fun ⟨x2_65, I2_65, L2_65⟩ => (if 1 ≤ dp then ((kf_19 n (dp - 1) e 0 I2_65 L2_65 x2_65).bind (fun ⟨x3_68, I3_68, L3_68⟩ => (some ((x3_68 : Int), I3_68, L3_68)))) else none))) else none))) else none) else (if 1 ≤ dp then ((kf_15 n (dp - 1) e 0 I0_13 L0_13 (-5)).bind (fun ⟨x1_40, I1_40, L1_40⟩ => (some ((x1_40 : Int), I1_40, L1_40)))) else none))))) else none)
    else none
set_option maxRecDepth 100000 in
theorem ke_155_0 (n : Nat) (dp : Nat) (e : EN) (I : JI) (L : JI) (i1 : Int) (i2 : Int) (i3 : Int) (i4 : Int) (i5 : Int) (i6 : Int) : kf_155 (n + 1) dp e 0 I L i1 i2 i3 i4 i5 i6 = (if 1 ≤ dp then ((kf_156 n (dp - 1) e 0 I L i1 i2 i3 i4 i5 i6).bind (fun ⟨x0_13, I0_13, L0_13⟩ => (if x0_13 = 0 then (if 1 ≤ dp then ((kf_15 n (dp - 1) e 0 I0_13 L0_13 (-1)).bind (fun ⟨x1_21, I1_21, L1_21⟩ => (some ((x1_21 : Int), I1_21, L1_21)))) else none) else (if (I0_13 1 9) < 16 then (if 1 ≤ dp then ((kf_157 n (dp - 1) e 0 I0_13 L0_13).bind (fun ⟨I1_48, L1_48⟩ => (if 1 ≤ dp then ((kf_158 n (dp - 1) e 0 I1_48 L1_48 i1 i2 i3 i4 i5 i6).bind (fun ⟨x2_65, I2_65, L2_65⟩ => (if 1 ≤ dp then ((kf_19 n (dp - 1) e 0 I2_65 L2_65 x2_65).bind (fun ⟨x3_68, I3_68, L3_68⟩ => (some ((x3_68 : Int), I3_68, L3_68)))) else none))) else none))) else none) else (if 1 ≤ dp then ((kf_15 n (dp - 1) e 0 I0_13 L0_13 (-5)).bind (fun ⟨x1_40, I1_40, L1_40⟩ => (some ((x1_40 : Int), I1_40, L1_40)))) else none))))) else none) := by rw [kf_155.eq_2, if_pos (show (0 : Nat) = 0 from rfl)]
set_option maxHeartbeats 8000000 in
set_option maxRecDepth 100000 in
theorem ks_155 : ∀ (n : Nat) (dp : Nat) (e : EN) (lab : Nat) (I : Nat → Nat → Int32) (I' : JI) (L : Nat → Nat → Int64) (L' : JI) (i1 : Int32) (i1' : Int) (i2 : Int32) (i2' : Int) (i3 : Int32) (i3' : Int) (i4 : Int32) (i4' : Int) (i5 : Int32) (i5' : Int) (i6 : Int32) (i6' : Int), Rli I I' → Rll L L' → Ui i1 i1' → Ui i2 i2' → Ui i3 i3' → Ui i4 i4' → Ui i5 i5' → Ui i6 i6' → Sim R3 (g_155 n dp e lab I L i1 i2 i3 i4 i5 i6) (kf_155 n dp e lab I' L' i1' i2' i3' i4' i5' i6') := by
  intro n
  induction n with
  | zero => intros; rw [kf_155.eq_1]; exact Sn
  | succ n ih =>
    intro dp e lab I I' L L' i1 i1' i2 i2' i3 i3' i4 i4' i5 i5' i6 i6' u_I u_L u_i1 u_i2 u_i3 u_i4 u_i5 u_i6
    rw [g_155.eq_2, kf_155.eq_2]
    refine Sc Iff.rfl (fun _ => ?_) (fun _ => ?_)
    · refine Sc Iff.rfl (fun c1 => ?_) (fun _ => Sn)
      refine Sb3 (ks_156 n (dp - 1) e 0 _ _ _ _ _ _ _ _ _ _ _ _ _ _ _ _ u_I u_L u_i1 u_i2 u_i3 u_i4 u_i5 u_i6) (fun x0_13 x0_13' I0_13 I0_13' L0_13 L0_13' u_x0_13 u_I0_13 u_L0_13 => ?_)
      refine Sc (eq_up u_x0_13 (rfl : Ui 0 0)) (fun c2 => ?_) (fun c2 => ?_)
      · refine Sc Iff.rfl (fun c3 => ?_) (fun _ => Sn)
        refine Sb3 (ks_15 n (dp - 1) e 0 _ _ _ _ _ _ u_I0_13 u_L0_13 (rfl : Ui (-1) (-1))) (fun x1_21 x1_21' I1_21 I1_21' L1_21 L1_21' u_x1_21 u_I1_21 u_L1_21 => ?_)
        exact Sr ⟨u_x1_21, u_I1_21, u_L1_21⟩
      · refine Sc (lt_up (u_I0_13 1 9) (rfl : Ui (16) (16))) (fun c4 => ?_) (fun c4 => ?_)
        · refine Sc Iff.rfl (fun c5 => ?_) (fun _ => Sn)
          refine Sb2 (ks_157 n (dp - 1) e 0 _ _ _ _ u_I0_13 u_L0_13) (fun I1_48 I1_48' L1_48 L1_48' u_I1_48 u_L1_48 => ?_)
          refine Sc Iff.rfl (fun c6 => ?_) (fun _ => Sn)
          refine Sb3 (ks_158 n (dp - 1) e 0 _ _ _ _ _ _ _ _ _ _ _ _ _ _ _ _ u_I1_48 u_L1_48 u_i1 u_i2 u_i3 u_i4 u_i5 u_i6) (fun x2_65 x2_65' I2_65 I2_65' L2_65 L2_65' u_x2_65 u_I2_65 u_L2_65 => ?_)
          refine Sc Iff.rfl (fun c7 => ?_) (fun _ => Sn)
          refine Sb3 (ks_19 n (dp - 1) e 0 _ _ _ _ _ _ u_I2_65 u_L2_65 u_x2_65) (fun x3_68 x3_68' I3_68 I3_68' L3_68 L3_68' u_x3_68 u_I3_68 u_L3_68 => ?_)
          exact Sr ⟨u_x3_68, u_I3_68, u_L3_68⟩
        · refine Sc Iff.rfl (fun c8 => ?_) (fun _ => Sn)
          refine Sb3 (ks_15 n (dp - 1) e 0 _ _ _ _ _ _ u_I0_13 u_L0_13 (rfl : Ui (-5) (-5))) (fun x1_40 x1_40' I1_40 I1_40' L1_40 L1_40' u_x1_40 u_I1_40 u_L1_40 => ?_)
          exact Sr ⟨u_x1_40, u_I1_40, u_L1_40⟩
    exact Sn
set_option maxHeartbeats 4000000 in
set_option maxRecDepth 100000 in
def kf_159 : Nat → Nat → EN → Nat → JI → JI → Int → Int → Option (Int × JI × JI)
  | 0, _, _, _, _, _, _, _ => none
  | n + 1, dp, e, lab, I, L, i1, i2 =>
    if lab = 0 then (if 1 ≤ dp then (if -2147483648 ≤ (I 1 9) - 1 ∧ (I 1 9) - 1 ≤ 2147483647 then ((kf_14 n (dp - 1) e 0 I L i1 0 ((I 1 9) - 1)).bind (fun ⟨x0_11, I0_11, L0_11⟩ => (if x0_11 = 0 then (some (((-1) : Int), I0_11, L0_11)) else (if 1 ≤ dp then ((kf_14 n (dp - 1) e 0 I0_11 L0_11 i2 0 6).bind (fun ⟨x1_21, I1_21, L1_21⟩ => (if x1_21 = 0 then (some (((-1) : Int), I1_21, L1_21)) else (if (-2147483648 ≤ i1 * 7 ∧ i1 * 7 ≤ 2147483647) ∧ (-2147483648 ≤ (i1 * 7) + i2 ∧ (i1 * 7) + i2 ≤ 2147483647) then (if 0 ≤ ((i1 * 7) + i2) ∧ ((i1 * 7) + i2) < 112 then (some (((I1_21 7 ((i1 * 7) + i2)) : Int), I1_21, L1_21)) else none) else none)))) else none)))) else none) else none)
    else none
set_option maxRecDepth 100000 in
theorem ke_159_0 (n : Nat) (dp : Nat) (e : EN) (I : JI) (L : JI) (i1 : Int) (i2 : Int) : kf_159 (n + 1) dp e 0 I L i1 i2 = (if 1 ≤ dp then (if -2147483648 ≤ (I 1 9) - 1 ∧ (I 1 9) - 1 ≤ 2147483647 then ((kf_14 n (dp - 1) e 0 I L i1 0 ((I 1 9) - 1)).bind (fun ⟨x0_11, I0_11, L0_11⟩ => (if x0_11 = 0 then (some (((-1) : Int), I0_11, L0_11)) else (if 1 ≤ dp then ((kf_14 n (dp - 1) e 0 I0_11 L0_11 i2 0 6).bind (fun ⟨x1_21, I1_21, L1_21⟩ => (if x1_21 = 0 then (some (((-1) : Int), I1_21, L1_21)) else (if (-2147483648 ≤ i1 * 7 ∧ i1 * 7 ≤ 2147483647) ∧ (-2147483648 ≤ (i1 * 7) + i2 ∧ (i1 * 7) + i2 ≤ 2147483647) then (if 0 ≤ ((i1 * 7) + i2) ∧ ((i1 * 7) + i2) < 112 then (some (((I1_21 7 ((i1 * 7) + i2)) : Int), I1_21, L1_21)) else none) else none)))) else none)))) else none) else none) := by rw [kf_159.eq_2, if_pos (show (0 : Nat) = 0 from rfl)]
set_option maxHeartbeats 8000000 in
set_option maxRecDepth 100000 in
theorem ks_159 : ∀ (n : Nat) (dp : Nat) (e : EN) (lab : Nat) (I : Nat → Nat → Int32) (I' : JI) (L : Nat → Nat → Int64) (L' : JI) (i1 : Int32) (i1' : Int) (i2 : Int32) (i2' : Int), Rli I I' → Rll L L' → Ui i1 i1' → Ui i2 i2' → Sim R3 (g_159 n dp e lab I L i1 i2) (kf_159 n dp e lab I' L' i1' i2') := by
  intro n
  induction n with
  | zero => intros; rw [kf_159.eq_1]; exact Sn
  | succ n ih =>
    intro dp e lab I I' L L' i1 i1' i2 i2' u_I u_L u_i1 u_i2
    rw [g_159.eq_2, kf_159.eq_2]
    refine Sc Iff.rfl (fun _ => ?_) (fun _ => ?_)
    · refine Sc Iff.rfl (fun c1 => ?_) (fun _ => Sn)
      refine Sg (fun g2 => ?_)
      refine Sb3 (ks_14 n (dp - 1) e 0 _ _ _ _ _ _ _ _ _ _ u_I u_L u_i1 (rfl : Ui (0) (0)) (ui_sub (u_I 1 9) (rfl : Ui (1) (1)) g2)) (fun x0_11 x0_11' I0_11 I0_11' L0_11 L0_11' u_x0_11 u_I0_11 u_L0_11 => ?_)
      refine Sc (eq_up u_x0_11 (rfl : Ui 0 0)) (fun c3 => ?_) (fun c3 => ?_)
      · exact Sr ⟨(rfl : Ui (-1) (-1)), u_I0_11, u_L0_11⟩
      · refine Sc Iff.rfl (fun c4 => ?_) (fun _ => Sn)
        refine Sb3 (ks_14 n (dp - 1) e 0 _ _ _ _ _ _ _ _ _ _ u_I0_11 u_L0_11 u_i2 (rfl : Ui (0) (0)) (rfl : Ui (6) (6))) (fun x1_21 x1_21' I1_21 I1_21' L1_21 L1_21' u_x1_21 u_I1_21 u_L1_21 => ?_)
        refine Sc (eq_up u_x1_21 (rfl : Ui 0 0)) (fun c5 => ?_) (fun c5 => ?_)
        · exact Sr ⟨(rfl : Ui (-1) (-1)), u_I1_21, u_L1_21⟩
        · refine Sg (fun g6 => ?_)
          refine Sc (ix_up (ui_add (ui_mul u_i1 (rfl : Ui (7) (7)) g6.1) u_i2 g6.2)) (fun c7 => ?_) (fun _ => Sn)
          exact Sr ⟨(ui_rd (a := 7) u_I1_21 (ui_add (ui_mul u_i1 (rfl : Ui (7) (7)) g6.1) u_i2 g6.2) c7.1), u_I1_21, u_L1_21⟩
    exact Sn
set_option maxHeartbeats 4000000 in
set_option maxRecDepth 100000 in
def kf_161 : Nat → Nat → EN → Nat → JI → JI → Int → Int → Int → Option (Int × JI × JI)
  | 0, _, _, _, _, _, _, _, _ => none
  | n + 1, dp, e, lab, I, L, i2, i3, i4 =>
    if lab = 0 then (kf_161 n dp e 1 I L i2 0 0)
    else if lab = 1 then (if -2147483648 ≤ i4 + 6 ∧ i4 + 6 ≤ 2147483647 then (if i2 < (i4 + 6) then (some ((i3 : Int), I, L)) else (if 0 ≤ i4 ∧ i4 < 400 then (if -2147483648 ≤ i4 + 1 ∧ i4 + 1 ≤ 2147483647 then (if 0 ≤ (i4 + 1) ∧ (i4 + 1) < 400 then (if -2147483648 ≤ i4 + 2 ∧ i4 + 2 ≤ 2147483647 then (if 0 ≤ (i4 + 2) ∧ (i4 + 2) < 400 then (if -2147483648 ≤ i4 + 3 ∧ i4 + 3 ≤ 2147483647 then (if 0 ≤ (i4 + 3) ∧ (i4 + 3) < 400 then (if -2147483648 ≤ i4 + 4 ∧ i4 + 4 ≤ 2147483647 then (if 0 ≤ (i4 + 4) ∧ (i4 + 4) < 400 then (if -2147483648 ≤ i4 + 5 ∧ i4 + 5 ≤ 2147483647 then (if 0 ≤ (i4 + 5) ∧ (i4 + 5) < 400 then (if 1 ≤ dp then ((kf_156 n (dp - 1) e 0 I L (I 89 i4) (I 89 (i4 + 1)) (I 89 (i4 + 2)) (I 89 (i4 + 3)) (I 89 (i4 + 4)) (I 89 (i4 + 5))).bind (fun ⟨x0_49, I0_49, L0_49⟩ => (if x0_49 = 0 then (kf_161 n dp e 2 I0_49 L0_49 i2 i3 i4) else (if 0 ≤ i4 ∧ i4 < 400 then (if 0 ≤ (i4 + 1) ∧ (i4 + 1) < 400 then (if 0 ≤ (i4 + 2) ∧ (i4 + 2) < 400 then (if 0 ≤ (i4 + 3) ∧ (i4 + 3) < 400 then (if 0 ≤ (i4 + 4) ∧ (i4 + 4) < 400 then (if 0 ≤ (i4 + 5) ∧ (i4 + 5) < 400 then (if 1 ≤ dp then ((kf_158 n (dp - 1) e 0 I0_49 L0_49 (I0_49 89 i4) (I0_49 89 (i4 + 1)) (I0_49 89 (i4 + 2)) (I0_49 89 (i4 + 3)) (I0_49 89 (i4 + 4)) (I0_49 89 (i4 + 5))).bind (fun ⟨x1_90, I1_90, L1_90⟩ => (if x1_90 = (-1) then (kf_161 n dp e 2 I1_90 L1_90 i2 i3 i4) else (if -2147483648 ≤ i3 + 1 ∧ i3 + 1 ≤ 2147483647 then (kf_161 n dp e 2 I1_90 L1_90 i2 (i3 + 1) i4) else none)))) else none) else none) else none) else none) else none) else none) else none)))) else none) else none) else none) else none) else none) else none) else none) else none) else none) else none) else none) else none)) else none)
    else if lab = 2 then (if -2147483648 ≤ i4 + 6 ∧ i4 + 6 ≤ 2147483647 then (kf_161 n dp e 1 I L i2 i3 (i4 + 6)) else none)
    else none
set_option maxRecDepth 100000 in
theorem ke_161_0 (n : Nat) (dp : Nat) (e : EN) (I : JI) (L : JI) (i2 : Int) (i3 : Int) (i4 : Int) : kf_161 (n + 1) dp e 0 I L i2 i3 i4 = (kf_161 n dp e 1 I L i2 0 0) := by rw [kf_161.eq_2, if_pos (show (0 : Nat) = 0 from rfl)]
set_option maxRecDepth 100000 in
theorem ke_161_1 (n : Nat) (dp : Nat) (e : EN) (I : JI) (L : JI) (i2 : Int) (i3 : Int) (i4 : Int) : kf_161 (n + 1) dp e 1 I L i2 i3 i4 = (if -2147483648 ≤ i4 + 6 ∧ i4 + 6 ≤ 2147483647 then (if i2 < (i4 + 6) then (some ((i3 : Int), I, L)) else (if 0 ≤ i4 ∧ i4 < 400 then (if -2147483648 ≤ i4 + 1 ∧ i4 + 1 ≤ 2147483647 then (if 0 ≤ (i4 + 1) ∧ (i4 + 1) < 400 then (if -2147483648 ≤ i4 + 2 ∧ i4 + 2 ≤ 2147483647 then (if 0 ≤ (i4 + 2) ∧ (i4 + 2) < 400 then (if -2147483648 ≤ i4 + 3 ∧ i4 + 3 ≤ 2147483647 then (if 0 ≤ (i4 + 3) ∧ (i4 + 3) < 400 then (if -2147483648 ≤ i4 + 4 ∧ i4 + 4 ≤ 2147483647 then (if 0 ≤ (i4 + 4) ∧ (i4 + 4) < 400 then (if -2147483648 ≤ i4 + 5 ∧ i4 + 5 ≤ 2147483647 then (if 0 ≤ (i4 + 5) ∧ (i4 + 5) < 400 then (if 1 ≤ dp then ((kf_156 n (dp - 1) e 0 I L (I 89 i4) (I 89 (i4 + 1)) (I 89 (i4 + 2)) (I 89 (i4 + 3)) (I 89 (i4 + 4)) (I 89 (i4 + 5))).bind (fun ⟨x0_49, I0_49, L0_49⟩ => (if x0_49 = 0 then (kf_161 n dp e 2 I0_49 L0_49 i2 i3 i4) else (if 0 ≤ i4 ∧ i4 < 400 then (if 0 ≤ (i4 + 1) ∧ (i4 + 1) < 400 then (if 0 ≤ (i4 + 2) ∧ (i4 + 2) < 400 then (if 0 ≤ (i4 + 3) ∧ (i4 + 3) < 400 then (if 0 ≤ (i4 + 4) ∧ (i4 + 4) < 400 then (if 0 ≤ (i4 + 5) ∧ (i4 + 5) < 400 then (if 1 ≤ dp then ((kf_158 n (dp - 1) e 0 I0_49 L0_49 (I0_49 89 i4) (I0_49 89 (i4 + 1)) (I0_49 89 (i4 + 2)) (I0_49 89 (i4 + 3)) (I0_49 89 (i4 + 4)) (I0_49 89 (i4 + 5))).bind (fun ⟨x1_90, I1_90, L1_90⟩ => (if x1_90 = (-1) then (kf_161 n dp e 2 I1_90 L1_90 i2 i3 i4) else (if -2147483648 ≤ i3 + 1 ∧ i3 + 1 ≤ 2147483647 then (kf_161 n dp e 2 I1_90 L1_90 i2 (i3 + 1) i4) else none)))) else none) else none) else none) else none) else none) else none) else none)))) else none) else none) else none) else none) else none) else none) else none) else none) else none) else none) else none) else none)) else none) := by rw [kf_161.eq_2, if_neg (show ¬ ((1 : Nat) = 0) by decide), if_pos (show (1 : Nat) = 1 from rfl)]
set_option maxRecDepth 100000 in
theorem ke_161_2 (n : Nat) (dp : Nat) (e : EN) (I : JI) (L : JI) (i2 : Int) (i3 : Int) (i4 : Int) : kf_161 (n + 1) dp e 2 I L i2 i3 i4 = (if -2147483648 ≤ i4 + 6 ∧ i4 + 6 ≤ 2147483647 then (kf_161 n dp e 1 I L i2 i3 (i4 + 6)) else none) := by rw [kf_161.eq_2, if_neg (show ¬ ((2 : Nat) = 0) by decide), if_neg (show ¬ ((2 : Nat) = 1) by decide), if_pos (show (2 : Nat) = 2 from rfl)]
set_option maxHeartbeats 8000000 in
set_option maxRecDepth 100000 in
theorem ks_161 : ∀ (n : Nat) (dp : Nat) (e : EN) (lab : Nat) (I : Nat → Nat → Int32) (I' : JI) (L : Nat → Nat → Int64) (L' : JI) (i2 : Int32) (i2' : Int) (i3 : Int32) (i3' : Int) (i4 : Int32) (i4' : Int), Rli I I' → Rll L L' → Ui i2 i2' → Ui i3 i3' → Ui i4 i4' → Sim R3 (g_161 n dp e lab I L i2 i3 i4) (kf_161 n dp e lab I' L' i2' i3' i4') := by
  intro n
  induction n with
  | zero => intros; rw [kf_161.eq_1]; exact Sn
  | succ n ih =>
    intro dp e lab I I' L L' i2 i2' i3 i3' i4 i4' u_I u_L u_i2 u_i3 u_i4
    rw [g_161.eq_2, kf_161.eq_2]
    refine Sc Iff.rfl (fun _ => ?_) (fun _ => ?_)
    · exact (ih dp e 1 _ _ _ _ _ _ _ _ _ _ u_I u_L u_i2 (rfl : Ui (0) (0)) (rfl : Ui (0) (0)))
    refine Sc Iff.rfl (fun _ => ?_) (fun _ => ?_)
    · refine Sg (fun g1 => ?_)
      refine Sc (lt_up u_i2 (ui_add u_i4 (rfl : Ui (6) (6)) g1)) (fun c2 => ?_) (fun c2 => ?_)
      · exact Sr ⟨u_i3, u_I, u_L⟩
      · refine Sc (ix_up u_i4) (fun c3 => ?_) (fun _ => Sn)
        refine Sg (fun g4 => ?_)
        refine Sc (ix_up (ui_add u_i4 (rfl : Ui (1) (1)) g4)) (fun c5 => ?_) (fun _ => Sn)
        refine Sg (fun g6 => ?_)
        refine Sc (ix_up (ui_add u_i4 (rfl : Ui (2) (2)) g6)) (fun c7 => ?_) (fun _ => Sn)
        refine Sg (fun g8 => ?_)
        refine Sc (ix_up (ui_add u_i4 (rfl : Ui (3) (3)) g8)) (fun c9 => ?_) (fun _ => Sn)
        refine Sg (fun g10 => ?_)
        refine Sc (ix_up (ui_add u_i4 (rfl : Ui (4) (4)) g10)) (fun c11 => ?_) (fun _ => Sn)
        refine Sg (fun g12 => ?_)
        refine Sc (ix_up (ui_add u_i4 (rfl : Ui (5) (5)) g12)) (fun c13 => ?_) (fun _ => Sn)
        refine Sc Iff.rfl (fun c14 => ?_) (fun _ => Sn)
        refine Sb3 (ks_156 n (dp - 1) e 0 _ _ _ _ _ _ _ _ _ _ _ _ _ _ _ _ u_I u_L (ui_rd (a := 89) u_I u_i4 c3.1) (ui_rd (a := 89) u_I (ui_add u_i4 (rfl : Ui (1) (1)) g4) c5.1) (ui_rd (a := 89) u_I (ui_add u_i4 (rfl : Ui (2) (2)) g6) c7.1) (ui_rd (a := 89) u_I (ui_add u_i4 (rfl : Ui (3) (3)) g8) c9.1) (ui_rd (a := 89) u_I (ui_add u_i4 (rfl : Ui (4) (4)) g10) c11.1) (ui_rd (a := 89) u_I (ui_add u_i4 (rfl : Ui (5) (5)) g12) c13.1)) (fun x0_49 x0_49' I0_49 I0_49' L0_49 L0_49' u_x0_49 u_I0_49 u_L0_49 => ?_)
        refine Sc (eq_up u_x0_49 (rfl : Ui 0 0)) (fun c15 => ?_) (fun c15 => ?_)
        · exact (ih dp e 2 _ _ _ _ _ _ _ _ _ _ u_I0_49 u_L0_49 u_i2 u_i3 u_i4)
        · refine Sc (ix_up u_i4) (fun c16 => ?_) (fun _ => Sn)
          refine Sc (ix_up (ui_add u_i4 (rfl : Ui (1) (1)) g4)) (fun c17 => ?_) (fun _ => Sn)
          refine Sc (ix_up (ui_add u_i4 (rfl : Ui (2) (2)) g6)) (fun c18 => ?_) (fun _ => Sn)
          refine Sc (ix_up (ui_add u_i4 (rfl : Ui (3) (3)) g8)) (fun c19 => ?_) (fun _ => Sn)
          refine Sc (ix_up (ui_add u_i4 (rfl : Ui (4) (4)) g10)) (fun c20 => ?_) (fun _ => Sn)
          refine Sc (ix_up (ui_add u_i4 (rfl : Ui (5) (5)) g12)) (fun c21 => ?_) (fun _ => Sn)
          refine Sc Iff.rfl (fun c22 => ?_) (fun _ => Sn)
          refine Sb3 (ks_158 n (dp - 1) e 0 _ _ _ _ _ _ _ _ _ _ _ _ _ _ _ _ u_I0_49 u_L0_49 (ui_rd (a := 89) u_I0_49 u_i4 c16.1) (ui_rd (a := 89) u_I0_49 (ui_add u_i4 (rfl : Ui (1) (1)) g4) c17.1) (ui_rd (a := 89) u_I0_49 (ui_add u_i4 (rfl : Ui (2) (2)) g6) c18.1) (ui_rd (a := 89) u_I0_49 (ui_add u_i4 (rfl : Ui (3) (3)) g8) c19.1) (ui_rd (a := 89) u_I0_49 (ui_add u_i4 (rfl : Ui (4) (4)) g10) c20.1) (ui_rd (a := 89) u_I0_49 (ui_add u_i4 (rfl : Ui (5) (5)) g12) c21.1)) (fun x1_90 x1_90' I1_90 I1_90' L1_90 L1_90' u_x1_90 u_I1_90 u_L1_90 => ?_)
          refine Sc (eq_up u_x1_90 (rfl : Ui (-1) (-1))) (fun c23 => ?_) (fun c23 => ?_)
          · exact (ih dp e 2 _ _ _ _ _ _ _ _ _ _ u_I1_90 u_L1_90 u_i2 u_i3 u_i4)
          · refine Sg (fun g24 => ?_)
            exact (ih dp e 2 _ _ _ _ _ _ _ _ _ _ u_I1_90 u_L1_90 u_i2 (ui_add u_i3 (rfl : Ui (Int32.ofInt (1)) (1)) g24) u_i4)
    refine Sc Iff.rfl (fun _ => ?_) (fun _ => ?_)
    · refine Sg (fun g1 => ?_)
      exact (ih dp e 1 _ _ _ _ _ _ _ _ _ _ u_I u_L u_i2 u_i3 (ui_add u_i4 (rfl : Ui (Int32.ofInt (6)) (6)) g1))
    exact Sn
set_option maxHeartbeats 4000000 in
set_option maxRecDepth 100000 in
def kf_160 : Nat → Nat → EN → Nat → JI → JI → Option (Int × JI × JI)
  | 0, _, _, _, _, _ => none
  | n + 1, dp, e, lab, I, L =>
    if lab = 0 then (if (I 0 13) = 0 then (if 1 ≤ dp then ((kf_15 n (dp - 1) e 0 I L (-6)).bind (fun ⟨x0_10, I0_10, L0_10⟩ => (some ((x0_10 : Int), I0_10, L0_10)))) else none) else (if (-2147483648 ≤ (I 0 13) + 5 ∧ (I 0 13) + 5 ≤ 2147483647) ∧ (-2147483647 ≤ ((I 0 13) + 5)) then (stI (Int.tdiv ((I 0 13) + 5) 6) (fun v_23 => (if 1 ≤ dp then ((kf_161 n (dp - 1) e 0 I L (I 0 13) 0 0).bind (fun ⟨x0_36, I0_36, L0_36⟩ => (if -2147483648 ≤ v_23 - x0_36 ∧ v_23 - x0_36 ≤ 2147483647 then (stI (w2 I0_36 0 16 (v_23 - x0_36)) (fun I_44 => (stI (w2 I_44 0 13 0) (fun I_49 => (if 1 ≤ dp then ((kf_157 n (dp - 1) e 0 I_49 L0_36).bind (fun ⟨I1_56, L1_56⟩ => (if 1 ≤ dp then ((kf_19 n (dp - 1) e 0 I1_56 L1_56 x0_36).bind (fun ⟨x2_61, I2_61, L2_61⟩ => (some ((x2_61 : Int), I2_61, L2_61)))) else none))) else none))))) else none))) else none))) else none))
    else none
set_option maxRecDepth 100000 in
theorem ke_160_0 (n : Nat) (dp : Nat) (e : EN) (I : JI) (L : JI) : kf_160 (n + 1) dp e 0 I L = (if (I 0 13) = 0 then (if 1 ≤ dp then ((kf_15 n (dp - 1) e 0 I L (-6)).bind (fun ⟨x0_10, I0_10, L0_10⟩ => (some ((x0_10 : Int), I0_10, L0_10)))) else none) else (if (-2147483648 ≤ (I 0 13) + 5 ∧ (I 0 13) + 5 ≤ 2147483647) ∧ (-2147483647 ≤ ((I 0 13) + 5)) then (stI (Int.tdiv ((I 0 13) + 5) 6) (fun v_23 => (if 1 ≤ dp then ((kf_161 n (dp - 1) e 0 I L (I 0 13) 0 0).bind (fun ⟨x0_36, I0_36, L0_36⟩ => (if -2147483648 ≤ v_23 - x0_36 ∧ v_23 - x0_36 ≤ 2147483647 then (stI (w2 I0_36 0 16 (v_23 - x0_36)) (fun I_44 => (stI (w2 I_44 0 13 0) (fun I_49 => (if 1 ≤ dp then ((kf_157 n (dp - 1) e 0 I_49 L0_36).bind (fun ⟨I1_56, L1_56⟩ => (if 1 ≤ dp then ((kf_19 n (dp - 1) e 0 I1_56 L1_56 x0_36).bind (fun ⟨x2_61, I2_61, L2_61⟩ => (some ((x2_61 : Int), I2_61, L2_61)))) else none))) else none))))) else none))) else none))) else none)) := by rw [kf_160.eq_2, if_pos (show (0 : Nat) = 0 from rfl)]
set_option maxHeartbeats 8000000 in
set_option maxRecDepth 100000 in
theorem ks_160 : ∀ (n : Nat) (dp : Nat) (e : EN) (lab : Nat) (I : Nat → Nat → Int32) (I' : JI) (L : Nat → Nat → Int64) (L' : JI), Rli I I' → Rll L L' → Sim R3 (g_160 n dp e lab I L) (kf_160 n dp e lab I' L') := by
  intro n
  induction n with
  | zero => intros; rw [kf_160.eq_1]; exact Sn
  | succ n ih =>
    intro dp e lab I I' L L' u_I u_L
    rw [g_160.eq_2, kf_160.eq_2]
    refine Sc Iff.rfl (fun _ => ?_) (fun _ => ?_)
    · refine Sc (eq_up (u_I 0 13) (rfl : Ui 0 0)) (fun c1 => ?_) (fun c1 => ?_)
      · refine Sc Iff.rfl (fun c2 => ?_) (fun _ => Sn)
        refine Sb3 (ks_15 n (dp - 1) e 0 _ _ _ _ _ _ u_I u_L (rfl : Ui (-6) (-6))) (fun x0_10 x0_10' I0_10 I0_10' L0_10 L0_10' u_x0_10 u_I0_10 u_L0_10 => ?_)
        exact Sr ⟨u_x0_10, u_I0_10, u_L0_10⟩
      · refine Sg (fun g3 => ?_)
        refine SsI (ui_div (ui_add (u_I 0 13) (rfl : Ui (5) (5)) g3.1) (rfl : Ui (6) (6)) g3.2) (fun v_23 v_23' u_v_23 => ?_)
        refine Sc Iff.rfl (fun c4 => ?_) (fun _ => Sn)
        refine Sb3 (ks_161 n (dp - 1) e 0 _ _ _ _ _ _ _ _ _ _ u_I u_L (u_I 0 13) (rfl : Ui 0 0) (rfl : Ui 0 0)) (fun x0_36 x0_36' I0_36 I0_36' L0_36 L0_36' u_x0_36 u_I0_36 u_L0_36 => ?_)
        refine Sg (fun g5 => ?_)
        refine SsJ (ri_up u_I0_36 (rfl : ((16 : Nat) : Int) = 16) (ui_sub u_v_23 u_x0_36 g5)) (fun I_44 I_44' u_I_44 => ?_)
        refine SsJ (ri_up u_I_44 (rfl : ((13 : Nat) : Int) = 13) (rfl : Ui (0) (0))) (fun I_49 I_49' u_I_49 => ?_)
        refine Sc Iff.rfl (fun c6 => ?_) (fun _ => Sn)
        refine Sb2 (ks_157 n (dp - 1) e 0 _ _ _ _ u_I_49 u_L0_36) (fun I1_56 I1_56' L1_56 L1_56' u_I1_56 u_L1_56 => ?_)
        refine Sc Iff.rfl (fun c7 => ?_) (fun _ => Sn)
        refine Sb3 (ks_19 n (dp - 1) e 0 _ _ _ _ _ _ u_I1_56 u_L1_56 u_x0_36) (fun x2_61 x2_61' I2_61 I2_61' L2_61 L2_61' u_x2_61 u_I2_61 u_L2_61 => ?_)
        exact Sr ⟨u_x2_61, u_I2_61, u_L2_61⟩
    exact Sn
set_option maxHeartbeats 4000000 in
set_option maxRecDepth 100000 in
def kf_162 : Nat → Nat → EN → Nat → JI → JI → Option (Int × JI × JI)
  | 0, _, _, _, _, _ => none
  | n + 1, dp, e, lab, I, L =>
    if lab = 0 then (some (((I 0 16) : Int), I, L))
    else none
set_option maxRecDepth 100000 in
theorem ke_162_0 (n : Nat) (dp : Nat) (e : EN) (I : JI) (L : JI) : kf_162 (n + 1) dp e 0 I L = (some (((I 0 16) : Int), I, L)) := by rw [kf_162.eq_2, if_pos (show (0 : Nat) = 0 from rfl)]
set_option maxHeartbeats 8000000 in
set_option maxRecDepth 100000 in
theorem ks_162 : ∀ (n : Nat) (dp : Nat) (e : EN) (lab : Nat) (I : Nat → Nat → Int32) (I' : JI) (L : Nat → Nat → Int64) (L' : JI), Rli I I' → Rll L L' → Sim R3 (g_162 n dp e lab I L) (kf_162 n dp e lab I' L') := by
  intro n
  induction n with
  | zero => intros; rw [kf_162.eq_1]; exact Sn
  | succ n ih =>
    intro dp e lab I I' L L' u_I u_L
    rw [g_162.eq_2, kf_162.eq_2]
    refine Sc Iff.rfl (fun _ => ?_) (fun _ => ?_)
    · exact Sr ⟨(u_I 0 16), u_I, u_L⟩
    exact Sn
set_option maxHeartbeats 4000000 in
set_option maxRecDepth 100000 in
def kf_166 : Nat → Nat → EN → Nat → JI → JI → Int → Int → Int → Int → Int → Int → Int → Int → Nat → Nat → Option (JI × JI)
  | 0, _, _, _, _, _, _, _, _, _, _, _, _, _, _, _ => none
  | n + 1, dp, e, lab, I, L, i1, i2, i5, i6, i7, i8, i9, i10, a3, a4 =>
    if lab = 0 then (if ((a3 < e.1) ∧ (((e.2.1 a3).1 = 13) ∧ ((e.2.1 a3).2 < (2 ^ 31)))) ∧ (((0 : Int) ≤ 0) ∧ (0 < (e.2.1 a3).2)) then (stI (w2 I a3 0 0) (fun I_3 => (if ((a4 < e.1) ∧ (((e.2.1 a4).1 = 13) ∧ ((e.2.1 a4).2 < (2 ^ 31)))) ∧ (((0 : Int) ≤ 0) ∧ (0 < (e.2.1 a4).2)) then (stI (w2 I_3 a4 0 0) (fun I_8 => (kf_166 n dp e 1 I_8 L i1 i2 0 0 0 0 0 0 a3 a4))) else none))) else none)
    else if lab = 1 then (if i2 ≤ i5 then (some (I, L)) else (if -2147483648 ≤ i1 + i5 ∧ i1 + i5 ≤ 2147483647 then (if 0 ≤ (i1 + i5) ∧ (i1 + i5) < 16 then (if -2147483648 ≤ (I 82 (i1 + i5)) * 7 ∧ (I 82 (i1 + i5)) * 7 ≤ 2147483647 then (stI ((I 82 (i1 + i5)) * 7) (fun v_30 => (if -2147483648 ≤ v_30 + 0 ∧ v_30 + 0 ≤ 2147483647 then (if 0 ≤ (v_30 + 0) ∧ (v_30 + 0) < 112 then (stI (I 7 (v_30 + 0)) (fun v_44 => (if -2147483648 ≤ v_30 + 1 ∧ v_30 + 1 ≤ 2147483647 then (if 0 ≤ (v_30 + 1) ∧ (v_30 + 1) < 112 then (if -2147483648 ≤ v_44 * (I 7 (v_30 + 1)) ∧ v_44 * (I 7 (v_30 + 1)) ≤ 2147483647 then (stI (v_44 * (I 7 (v_30 + 1))) (fun v_61 => (stI (bL 1 i5) (fun v_67 => (kf_166 n dp e 2 I L i1 i2 i5 v_30 v_44 v_61 v_67 0 a3 a4))))) else none) else none) else none))) else none) else none))) else none) else none) else none))
    else if lab = 2 then (if i9 ≤ i10 then (if -2147483648 ≤ i5 + 1 ∧ i5 + 1 ≤ 2147483647 then (kf_166 n dp e 1 I L i1 i2 (i5 + 1) 0 0 0 0 0 a3 a4) else none) else (if ((a3 < e.1) ∧ (((e.2.1 a3).1 = 13) ∧ ((e.2.1 a3).2 < (2 ^ 31)))) ∧ (0 ≤ i10 ∧ i10 < (((e.2.1 a3).2 : Nat) : Int)) then (if -2147483648 ≤ i9 + i10 ∧ i9 + i10 ≤ 2147483647 then (if ((a3 < e.1) ∧ (((e.2.1 a3).1 = 13) ∧ ((e.2.1 a3).2 < (2 ^ 31)))) ∧ (0 ≤ (i9 + i10) ∧ (i9 + i10) < (((e.2.1 a3).2 : Nat) : Int)) then (if -2147483648 ≤ (I a3 i10) + i7 ∧ (I a3 i10) + i7 ≤ 2147483647 then (stI (w2 I a3 (i9 + i10) ((I a3 i10) + i7)) (fun I_92 => (if ((a4 < e.1) ∧ (((e.2.1 a4).1 = 13) ∧ ((e.2.1 a4).2 < (2 ^ 31)))) ∧ (0 ≤ i10 ∧ i10 < (((e.2.1 a4).2 : Nat) : Int)) then (if ((a4 < e.1) ∧ (((e.2.1 a4).1 = 13) ∧ ((e.2.1 a4).2 < (2 ^ 31)))) ∧ (0 ≤ (i9 + i10) ∧ (i9 + i10) < (((e.2.1 a4).2 : Nat) : Int)) then (if -2147483648 ≤ (I_92 a4 i10) + i8 ∧ (I_92 a4 i10) + i8 ≤ 2147483647 then (stI (w2 I_92 a4 (i9 + i10) ((I_92 a4 i10) + i8)) (fun I_108 => (if -2147483648 ≤ i10 + 1 ∧ i10 + 1 ≤ 2147483647 then (kf_166 n dp e 2 I_108 L i1 i2 i5 i6 i7 i8 i9 (i10 + 1) a3 a4) else none))) else none) else none) else none))) else none) else none) else none) else none))
    else none
set_option maxRecDepth 100000 in
theorem ke_166_0 (n : Nat) (dp : Nat) (e : EN) (I : JI) (L : JI) (i1 : Int) (i2 : Int) (i5 : Int) (i6 : Int) (i7 : Int) (i8 : Int) (i9 : Int) (i10 : Int) (a3 : Nat) (a4 : Nat) : kf_166 (n + 1) dp e 0 I L i1 i2 i5 i6 i7 i8 i9 i10 a3 a4 = (if ((a3 < e.1) ∧ (((e.2.1 a3).1 = 13) ∧ ((e.2.1 a3).2 < (2 ^ 31)))) ∧ (((0 : Int) ≤ 0) ∧ (0 < (e.2.1 a3).2)) then (stI (w2 I a3 0 0) (fun I_3 => (if ((a4 < e.1) ∧ (((e.2.1 a4).1 = 13) ∧ ((e.2.1 a4).2 < (2 ^ 31)))) ∧ (((0 : Int) ≤ 0) ∧ (0 < (e.2.1 a4).2)) then (stI (w2 I_3 a4 0 0) (fun I_8 => (kf_166 n dp e 1 I_8 L i1 i2 0 0 0 0 0 0 a3 a4))) else none))) else none) := by rw [kf_166.eq_2, if_pos (show (0 : Nat) = 0 from rfl)]
set_option maxRecDepth 100000 in
theorem ke_166_1 (n : Nat) (dp : Nat) (e : EN) (I : JI) (L : JI) (i1 : Int) (i2 : Int) (i5 : Int) (i6 : Int) (i7 : Int) (i8 : Int) (i9 : Int) (i10 : Int) (a3 : Nat) (a4 : Nat) : kf_166 (n + 1) dp e 1 I L i1 i2 i5 i6 i7 i8 i9 i10 a3 a4 = (if i2 ≤ i5 then (some (I, L)) else (if -2147483648 ≤ i1 + i5 ∧ i1 + i5 ≤ 2147483647 then (if 0 ≤ (i1 + i5) ∧ (i1 + i5) < 16 then (if -2147483648 ≤ (I 82 (i1 + i5)) * 7 ∧ (I 82 (i1 + i5)) * 7 ≤ 2147483647 then (stI ((I 82 (i1 + i5)) * 7) (fun v_30 => (if -2147483648 ≤ v_30 + 0 ∧ v_30 + 0 ≤ 2147483647 then (if 0 ≤ (v_30 + 0) ∧ (v_30 + 0) < 112 then (stI (I 7 (v_30 + 0)) (fun v_44 => (if -2147483648 ≤ v_30 + 1 ∧ v_30 + 1 ≤ 2147483647 then (if 0 ≤ (v_30 + 1) ∧ (v_30 + 1) < 112 then (if -2147483648 ≤ v_44 * (I 7 (v_30 + 1)) ∧ v_44 * (I 7 (v_30 + 1)) ≤ 2147483647 then (stI (v_44 * (I 7 (v_30 + 1))) (fun v_61 => (stI (bL 1 i5) (fun v_67 => (kf_166 n dp e 2 I L i1 i2 i5 v_30 v_44 v_61 v_67 0 a3 a4))))) else none) else none) else none))) else none) else none))) else none) else none) else none)) := by rw [kf_166.eq_2, if_neg (show ¬ ((1 : Nat) = 0) by decide), if_pos (show (1 : Nat) = 1 from rfl)]
set_option maxRecDepth 100000 in
theorem ke_166_2 (n : Nat) (dp : Nat) (e : EN) (I : JI) (L : JI) (i1 : Int) (i2 : Int) (i5 : Int) (i6 : Int) (i7 : Int) (i8 : Int) (i9 : Int) (i10 : Int) (a3 : Nat) (a4 : Nat) : kf_166 (n + 1) dp e 2 I L i1 i2 i5 i6 i7 i8 i9 i10 a3 a4 = (if i9 ≤ i10 then (if -2147483648 ≤ i5 + 1 ∧ i5 + 1 ≤ 2147483647 then (kf_166 n dp e 1 I L i1 i2 (i5 + 1) 0 0 0 0 0 a3 a4) else none) else (if ((a3 < e.1) ∧ (((e.2.1 a3).1 = 13) ∧ ((e.2.1 a3).2 < (2 ^ 31)))) ∧ (0 ≤ i10 ∧ i10 < (((e.2.1 a3).2 : Nat) : Int)) then (if -2147483648 ≤ i9 + i10 ∧ i9 + i10 ≤ 2147483647 then (if ((a3 < e.1) ∧ (((e.2.1 a3).1 = 13) ∧ ((e.2.1 a3).2 < (2 ^ 31)))) ∧ (0 ≤ (i9 + i10) ∧ (i9 + i10) < (((e.2.1 a3).2 : Nat) : Int)) then (if -2147483648 ≤ (I a3 i10) + i7 ∧ (I a3 i10) + i7 ≤ 2147483647 then (stI (w2 I a3 (i9 + i10) ((I a3 i10) + i7)) (fun I_92 => (if ((a4 < e.1) ∧ (((e.2.1 a4).1 = 13) ∧ ((e.2.1 a4).2 < (2 ^ 31)))) ∧ (0 ≤ i10 ∧ i10 < (((e.2.1 a4).2 : Nat) : Int)) then (if ((a4 < e.1) ∧ (((e.2.1 a4).1 = 13) ∧ ((e.2.1 a4).2 < (2 ^ 31)))) ∧ (0 ≤ (i9 + i10) ∧ (i9 + i10) < (((e.2.1 a4).2 : Nat) : Int)) then (if -2147483648 ≤ (I_92 a4 i10) + i8 ∧ (I_92 a4 i10) + i8 ≤ 2147483647 then (stI (w2 I_92 a4 (i9 + i10) ((I_92 a4 i10) + i8)) (fun I_108 => (if -2147483648 ≤ i10 + 1 ∧ i10 + 1 ≤ 2147483647 then (kf_166 n dp e 2 I_108 L i1 i2 i5 i6 i7 i8 i9 (i10 + 1) a3 a4) else none))) else none) else none) else none))) else none) else none) else none) else none)) := by rw [kf_166.eq_2, if_neg (show ¬ ((2 : Nat) = 0) by decide), if_neg (show ¬ ((2 : Nat) = 1) by decide), if_pos (show (2 : Nat) = 2 from rfl)]
set_option maxHeartbeats 8000000 in
set_option maxRecDepth 100000 in
theorem ks_166 : ∀ (n : Nat) (dp : Nat) (e : EN) (lab : Nat) (I : Nat → Nat → Int32) (I' : JI) (L : Nat → Nat → Int64) (L' : JI) (i1 : Int32) (i1' : Int) (i2 : Int32) (i2' : Int) (i5 : Int32) (i5' : Int) (i6 : Int32) (i6' : Int) (i7 : Int32) (i7' : Int) (i8 : Int32) (i8' : Int) (i9 : Int32) (i9' : Int) (i10 : Int32) (i10' : Int) (a3 : Nat) (a4 : Nat), Rli I I' → Rll L L' → Ui i1 i1' → Ui i2 i2' → Ui i5 i5' → Ui i6 i6' → Ui i7 i7' → Ui i8 i8' → Ui i9 i9' → Ui i10 i10' → Sim R2 (g_166 n dp e lab I L i1 i2 i5 i6 i7 i8 i9 i10 a3 a4) (kf_166 n dp e lab I' L' i1' i2' i5' i6' i7' i8' i9' i10' a3 a4) := by
  intro n
  induction n with
  | zero => intros; rw [kf_166.eq_1]; exact Sn
  | succ n ih =>
    intro dp e lab I I' L L' i1 i1' i2 i2' i5 i5' i6 i6' i7 i7' i8 i8' i9 i9' i10 i10' a3 a4 u_I u_L u_i1 u_i2 u_i5 u_i6 u_i7 u_i8 u_i9 u_i10
    rw [g_166.eq_2, kf_166.eq_2]
    refine Sc Iff.rfl (fun _ => ?_) (fun _ => ?_)
    · refine Sc (and_congr Iff.rfl (and_congr (le_up (rfl : Ui 0 0) (rfl : Ui (0) (0))) Iff.rfl)) (fun c1 => ?_) (fun _ => Sn)
      refine SsJ (ri_up u_I (rfl : ((0 : Nat) : Int) = 0) (rfl : Ui (0) (0))) (fun I_3 I_3' u_I_3 => ?_)
      refine Sc (and_congr Iff.rfl (and_congr (le_up (rfl : Ui 0 0) (rfl : Ui (0) (0))) Iff.rfl)) (fun c2 => ?_) (fun _ => Sn)
      refine SsJ (ri_up u_I_3 (rfl : ((0 : Nat) : Int) = 0) (rfl : Ui (0) (0))) (fun I_8 I_8' u_I_8 => ?_)
      exact (ih dp e 1 _ _ _ _ _ _ _ _ _ _ _ _ _ _ _ _ _ _ _ _ a3 a4 u_I_8 u_L u_i1 u_i2 (rfl : Ui (0) (0)) (rfl : Ui 0 0) (rfl : Ui 0 0) (rfl : Ui 0 0) (rfl : Ui 0 0) (rfl : Ui 0 0))
    refine Sc Iff.rfl (fun _ => ?_) (fun _ => ?_)
    · refine Sc (le_up u_i2 u_i5) (fun c1 => ?_) (fun c1 => ?_)
      · exact Sr ⟨u_I, u_L⟩
      · refine Sg (fun g2 => ?_)
        refine Sc (ix_up (ui_add u_i1 u_i5 g2)) (fun c3 => ?_) (fun _ => Sn)
        refine Sg (fun g4 => ?_)
        refine SsI (ui_mul (ui_rd (a := 82) u_I (ui_add u_i1 u_i5 g2) c3.1) (rfl : Ui (7) (7)) g4) (fun v_30 v_30' u_v_30 => ?_)
        refine Sg (fun g5 => ?_)
        refine Sc (ix_up (ui_add u_v_30 (rfl : Ui (0) (0)) g5)) (fun c6 => ?_) (fun _ => Sn)
        refine SsI (ui_rd (a := 7) u_I (ui_add u_v_30 (rfl : Ui (0) (0)) g5) c6.1) (fun v_44 v_44' u_v_44 => ?_)
        refine Sg (fun g7 => ?_)
        refine Sc (ix_up (ui_add u_v_30 (rfl : Ui (1) (1)) g7)) (fun c8 => ?_) (fun _ => Sn)
        refine Sg (fun g9 => ?_)
        refine SsI (ui_mul u_v_44 (ui_rd (a := 7) u_I (ui_add u_v_30 (rfl : Ui (1) (1)) g7) c8.1) g9) (fun v_61 v_61' u_v_61 => ?_)
        refine SsI (ui_shl (rfl : Ui (1) (1)) u_i5) (fun v_67 v_67' u_v_67 => ?_)
        exact (ih dp e 2 _ _ _ _ _ _ _ _ _ _ _ _ _ _ _ _ _ _ _ _ a3 a4 u_I u_L u_i1 u_i2 u_i5 u_v_30 u_v_44 u_v_61 u_v_67 (rfl : Ui (0) (0)))
    refine Sc Iff.rfl (fun _ => ?_) (fun _ => ?_)
    · refine Sc (le_up u_i9 u_i10) (fun c1 => ?_) (fun c1 => ?_)
      · refine Sg (fun g2 => ?_)
        exact (ih dp e 1 _ _ _ _ _ _ _ _ _ _ _ _ _ _ _ _ _ _ _ _ a3 a4 u_I u_L u_i1 u_i2 (ui_add u_i5 (rfl : Ui (Int32.ofInt (1)) (1)) g2) (rfl : Ui 0 0) (rfl : Ui 0 0) (rfl : Ui 0 0) (rfl : Ui 0 0) (rfl : Ui 0 0))
      · refine Sc (and_congr Iff.rfl (ix_up u_i10)) (fun c3 => ?_) (fun _ => Sn)
        refine Sg (fun g4 => ?_)
        refine Sc (and_congr Iff.rfl (ix_up (ui_add u_i9 u_i10 g4))) (fun c5 => ?_) (fun _ => Sn)
        refine Sg (fun g6 => ?_)
        refine SsJ (ri_up u_I (kc_up (ui_add u_i9 u_i10 g4) c5.2.1) (ui_add (ui_rd (a := a3) u_I u_i10 c3.2.1) u_i7 g6)) (fun I_92 I_92' u_I_92 => ?_)
        refine Sc (and_congr Iff.rfl (ix_up u_i10)) (fun c7 => ?_) (fun _ => Sn)
        refine Sc (and_congr Iff.rfl (ix_up (ui_add u_i9 u_i10 g4))) (fun c8 => ?_) (fun _ => Sn)
        refine Sg (fun g9 => ?_)
        refine SsJ (ri_up u_I_92 (kc_up (ui_add u_i9 u_i10 g4) c8.2.1) (ui_add (ui_rd (a := a4) u_I_92 u_i10 c7.2.1) u_i8 g9)) (fun I_108 I_108' u_I_108 => ?_)
        refine Sg (fun g10 => ?_)
        exact (ih dp e 2 _ _ _ _ _ _ _ _ _ _ _ _ _ _ _ _ _ _ _ _ a3 a4 u_I_108 u_L u_i1 u_i2 u_i5 u_i6 u_i7 u_i8 u_i9 (ui_add u_i10 (rfl : Ui (Int32.ofInt (1)) (1)) g10))
    exact Sn
set_option maxHeartbeats 4000000 in
set_option maxRecDepth 100000 in
def kf_165 : Nat → Nat → EN → Nat → JI → JI → Int → Int → Option (JI × JI)
  | 0, _, _, _, _, _, _, _ => none
  | n + 1, dp, e, lab, I, L, i1, i2 =>
    if lab = 0 then (kf_165 n dp e 1 I L 0 0)
    else if lab = 1 then (if (I 1 9) ≤ i2 then (if 1 ≤ dp then (stI (w2 I 81 6 (min 8 i1)) (fun I_57 => (if -2147483648 ≤ i1 - (I_57 81 6) ∧ i1 - (I_57 81 6) ≤ 2147483647 then (stI (w2 I_57 81 7 (i1 - (I_57 81 6))) (fun I_67 => (if 1 ≤ dp then ((kf_166 n (dp - 1) e 0 I_67 L 0 (I_67 81 6) 0 0 0 0 0 0 83 84).bind (fun ⟨I0_84, L0_84⟩ => (if 1 ≤ dp then ((kf_166 n (dp - 1) e 0 I0_84 L0_84 (I0_84 81 6) (I0_84 81 7) 0 0 0 0 0 0 85 86).bind (fun ⟨I1_104, L1_104⟩ => (some (I1_104, L1_104)))) else none))) else none))) else none))) else none) else (if (-2147483648 ≤ i2 * 7 ∧ i2 * 7 ≤ 2147483647) ∧ (-2147483648 ≤ (i2 * 7) + 6 ∧ (i2 * 7) + 6 ≤ 2147483647) then (if 0 ≤ ((i2 * 7) + 6) ∧ ((i2 * 7) + 6) < 112 then (if (I 7 ((i2 * 7) + 6)) = 1 then (if 0 ≤ i1 ∧ i1 < 16 then (stI (w2 I 82 i1 i2) (fun I_40 => (if -2147483648 ≤ i1 + 1 ∧ i1 + 1 ≤ 2147483647 then (kf_165 n dp e 2 I_40 L (i1 + 1) i2) else none))) else none) else (kf_165 n dp e 2 I L i1 i2)) else none) else none))
    else if lab = 2 then (if -2147483648 ≤ i2 + 1 ∧ i2 + 1 ≤ 2147483647 then (kf_165 n dp e 1 I L i1 (i2 + 1)) else none)
    else none
set_option maxRecDepth 100000 in
theorem ke_165_0 (n : Nat) (dp : Nat) (e : EN) (I : JI) (L : JI) (i1 : Int) (i2 : Int) : kf_165 (n + 1) dp e 0 I L i1 i2 = (kf_165 n dp e 1 I L 0 0) := by rw [kf_165.eq_2, if_pos (show (0 : Nat) = 0 from rfl)]
set_option maxRecDepth 100000 in
theorem ke_165_1 (n : Nat) (dp : Nat) (e : EN) (I : JI) (L : JI) (i1 : Int) (i2 : Int) : kf_165 (n + 1) dp e 1 I L i1 i2 = (if (I 1 9) ≤ i2 then (if 1 ≤ dp then (stI (w2 I 81 6 (min 8 i1)) (fun I_57 => (if -2147483648 ≤ i1 - (I_57 81 6) ∧ i1 - (I_57 81 6) ≤ 2147483647 then (stI (w2 I_57 81 7 (i1 - (I_57 81 6))) (fun I_67 => (if 1 ≤ dp then ((kf_166 n (dp - 1) e 0 I_67 L 0 (I_67 81 6) 0 0 0 0 0 0 83 84).bind (fun ⟨I0_84, L0_84⟩ => (if 1 ≤ dp then ((kf_166 n (dp - 1) e 0 I0_84 L0_84 (I0_84 81 6) (I0_84 81 7) 0 0 0 0 0 0 85 86).bind (fun ⟨I1_104, L1_104⟩ => (some (I1_104, L1_104)))) else none))) else none))) else none))) else none) else (if (-2147483648 ≤ i2 * 7 ∧ i2 * 7 ≤ 2147483647) ∧ (-2147483648 ≤ (i2 * 7) + 6 ∧ (i2 * 7) + 6 ≤ 2147483647) then (if 0 ≤ ((i2 * 7) + 6) ∧ ((i2 * 7) + 6) < 112 then (if (I 7 ((i2 * 7) + 6)) = 1 then (if 0 ≤ i1 ∧ i1 < 16 then (stI (w2 I 82 i1 i2) (fun I_40 => (if -2147483648 ≤ i1 + 1 ∧ i1 + 1 ≤ 2147483647 then (kf_165 n dp e 2 I_40 L (i1 + 1) i2) else none))) else none) else (kf_165 n dp e 2 I L i1 i2)) else none) else none)) := by rw [kf_165.eq_2, if_neg (show ¬ ((1 : Nat) = 0) by decide), if_pos (show (1 : Nat) = 1 from rfl)]
set_option maxRecDepth 100000 in
theorem ke_165_2 (n : Nat) (dp : Nat) (e : EN) (I : JI) (L : JI) (i1 : Int) (i2 : Int) : kf_165 (n + 1) dp e 2 I L i1 i2 = (if -2147483648 ≤ i2 + 1 ∧ i2 + 1 ≤ 2147483647 then (kf_165 n dp e 1 I L i1 (i2 + 1)) else none) := by rw [kf_165.eq_2, if_neg (show ¬ ((2 : Nat) = 0) by decide), if_neg (show ¬ ((2 : Nat) = 1) by decide), if_pos (show (2 : Nat) = 2 from rfl)]
set_option maxHeartbeats 8000000 in
set_option maxRecDepth 100000 in
theorem ks_165 : ∀ (n : Nat) (dp : Nat) (e : EN) (lab : Nat) (I : Nat → Nat → Int32) (I' : JI) (L : Nat → Nat → Int64) (L' : JI) (i1 : Int32) (i1' : Int) (i2 : Int32) (i2' : Int), Rli I I' → Rll L L' → Ui i1 i1' → Ui i2 i2' → Sim R2 (g_165 n dp e lab I L i1 i2) (kf_165 n dp e lab I' L' i1' i2') := by
  intro n
  induction n with
  | zero => intros; rw [kf_165.eq_1]; exact Sn
  | succ n ih =>
    intro dp e lab I I' L L' i1 i1' i2 i2' u_I u_L u_i1 u_i2
    rw [g_165.eq_2, kf_165.eq_2]
    refine Sc Iff.rfl (fun _ => ?_) (fun _ => ?_)
    · exact (ih dp e 1 _ _ _ _ _ _ _ _ u_I u_L (rfl : Ui (0) (0)) (rfl : Ui (0) (0)))
    refine Sc Iff.rfl (fun _ => ?_) (fun _ => ?_)
    · refine Sc (le_up (u_I 1 9) u_i2) (fun c1 => ?_) (fun c1 => ?_)
      · refine Sc Iff.rfl (fun c2 => ?_) (fun _ => Sn)
        refine SsJ (ri_up u_I (rfl : ((6 : Nat) : Int) = 6) (ui_min (rfl : Ui (8) (8)) u_i1)) (fun I_57 I_57' u_I_57 => ?_)
        refine Sg (fun g3 => ?_)
        refine SsJ (ri_up u_I_57 (rfl : ((7 : Nat) : Int) = 7) (ui_sub u_i1 (u_I_57 81 6) g3)) (fun I_67 I_67' u_I_67 => ?_)
        refine Sc Iff.rfl (fun c4 => ?_) (fun _ => Sn)
        refine Sb2 (ks_166 n (dp - 1) e 0 _ _ _ _ _ _ _ _ _ _ _ _ _ _ _ _ _ _ _ _ 83 84 u_I_67 u_L (rfl : Ui (0) (0)) (u_I_67 81 6) (rfl : Ui 0 0) (rfl : Ui 0 0) (rfl : Ui 0 0) (rfl : Ui 0 0) (rfl : Ui 0 0) (rfl : Ui 0 0)) (fun I0_84 I0_84' L0_84 L0_84' u_I0_84 u_L0_84 => ?_)
        refine Sc Iff.rfl (fun c5 => ?_) (fun _ => Sn)
        refine Sb2 (ks_166 n (dp - 1) e 0 _ _ _ _ _ _ _ _ _ _ _ _ _ _ _ _ _ _ _ _ 85 86 u_I0_84 u_L0_84 (u_I0_84 81 6) (u_I0_84 81 7) (rfl : Ui 0 0) (rfl : Ui 0 0) (rfl : Ui 0 0) (rfl : Ui 0 0) (rfl : Ui 0 0) (rfl : Ui 0 0)) (fun I1_104 I1_104' L1_104 L1_104' u_I1_104 u_L1_104 => ?_)
        exact Sr ⟨u_I1_104, u_L1_104⟩
      · refine Sg (fun g6 => ?_)
        refine Sc (ix_up (ui_add (ui_mul u_i2 (rfl : Ui (7) (7)) g6.1) (rfl : Ui (6) (6)) g6.2)) (fun c7 => ?_) (fun _ => Sn)
        refine Sc (eq_up (ui_rd (a := 7) u_I (ui_add (ui_mul u_i2 (rfl : Ui (7) (7)) g6.1) (rfl : Ui (6) (6)) g6.2) c7.1) (rfl : Ui (1) (1))) (fun c8 => ?_) (fun c8 => ?_)
        · refine Sc (ix_up u_i1) (fun c9 => ?_) (fun _ => Sn)
          refine SsJ (ri_up u_I (kc_up u_i1 c9.1) u_i2) (fun I_40 I_40' u_I_40 => ?_)
          refine Sg (fun g10 => ?_)
          exact (ih dp e 2 _ _ _ _ _ _ _ _ u_I_40 u_L (ui_add u_i1 (rfl : Ui (Int32.ofInt (1)) (1)) g10) u_i2)
        · exact (ih dp e 2 _ _ _ _ _ _ _ _ u_I u_L u_i1 u_i2)
    refine Sc Iff.rfl (fun _ => ?_) (fun _ => ?_)
    · refine Sg (fun g1 => ?_)
      exact (ih dp e 1 _ _ _ _ _ _ _ _ u_I u_L u_i1 (ui_add u_i2 (rfl : Ui (Int32.ofInt (1)) (1)) g1))
    exact Sn
set_option maxHeartbeats 4000000 in
set_option maxRecDepth 100000 in
def kf_168 : Nat → Nat → EN → Nat → JI → JI → Int → Int → Int → Option (Int × JI × JI)
  | 0, _, _, _, _, _, _, _, _ => none
  | n + 1, dp, e, lab, I, L, i1, i2, i3 =>
    if lab = 0 then (kf_168 n dp e 1 I L i1 0 0)
    else if lab = 1 then (if -2147483648 ≤ (I 81 6) + (I 81 7) ∧ (I 81 6) + (I 81 7) ≤ 2147483647 then (if ((I 81 6) + (I 81 7)) ≤ i3 then (some ((i2 : Int), I, L)) else (if 0 ≤ i3 ∧ i3 < 16 then (stI (bO i2 (bL (bA (bR i1 i3) 1) (I 82 i3))) (fun v_31 => (if -2147483648 ≤ i3 + 1 ∧ i3 + 1 ≤ 2147483647 then (kf_168 n dp e 1 I L i1 v_31 (i3 + 1)) else none))) else none)) else none)
    else none
set_option maxRecDepth 100000 in
theorem ke_168_0 (n : Nat) (dp : Nat) (e : EN) (I : JI) (L : JI) (i1 : Int) (i2 : Int) (i3 : Int) : kf_168 (n + 1) dp e 0 I L i1 i2 i3 = (kf_168 n dp e 1 I L i1 0 0) := by rw [kf_168.eq_2, if_pos (show (0 : Nat) = 0 from rfl)]
set_option maxRecDepth 100000 in
theorem ke_168_1 (n : Nat) (dp : Nat) (e : EN) (I : JI) (L : JI) (i1 : Int) (i2 : Int) (i3 : Int) : kf_168 (n + 1) dp e 1 I L i1 i2 i3 = (if -2147483648 ≤ (I 81 6) + (I 81 7) ∧ (I 81 6) + (I 81 7) ≤ 2147483647 then (if ((I 81 6) + (I 81 7)) ≤ i3 then (some ((i2 : Int), I, L)) else (if 0 ≤ i3 ∧ i3 < 16 then (stI (bO i2 (bL (bA (bR i1 i3) 1) (I 82 i3))) (fun v_31 => (if -2147483648 ≤ i3 + 1 ∧ i3 + 1 ≤ 2147483647 then (kf_168 n dp e 1 I L i1 v_31 (i3 + 1)) else none))) else none)) else none) := by rw [kf_168.eq_2, if_neg (show ¬ ((1 : Nat) = 0) by decide), if_pos (show (1 : Nat) = 1 from rfl)]
set_option maxHeartbeats 8000000 in
set_option maxRecDepth 100000 in
theorem ks_168 : ∀ (n : Nat) (dp : Nat) (e : EN) (lab : Nat) (I : Nat → Nat → Int32) (I' : JI) (L : Nat → Nat → Int64) (L' : JI) (i1 : Int32) (i1' : Int) (i2 : Int32) (i2' : Int) (i3 : Int32) (i3' : Int), Rli I I' → Rll L L' → Ui i1 i1' → Ui i2 i2' → Ui i3 i3' → Sim R3 (g_168 n dp e lab I L i1 i2 i3) (kf_168 n dp e lab I' L' i1' i2' i3') := by
  intro n
  induction n with
  | zero => intros; rw [kf_168.eq_1]; exact Sn
  | succ n ih =>
    intro dp e lab I I' L L' i1 i1' i2 i2' i3 i3' u_I u_L u_i1 u_i2 u_i3
    rw [g_168.eq_2, kf_168.eq_2]
    refine Sc Iff.rfl (fun _ => ?_) (fun _ => ?_)
    · exact (ih dp e 1 _ _ _ _ _ _ _ _ _ _ u_I u_L u_i1 (rfl : Ui (0) (0)) (rfl : Ui (0) (0)))
    refine Sc Iff.rfl (fun _ => ?_) (fun _ => ?_)
    · refine Sg (fun g1 => ?_)
      refine Sc (le_up (ui_add (u_I 81 6) (u_I 81 7) g1) u_i3) (fun c2 => ?_) (fun c2 => ?_)
      · exact Sr ⟨u_i2, u_I, u_L⟩
      · refine Sc (ix_up u_i3) (fun c3 => ?_) (fun _ => Sn)
        refine SsI (ui_or u_i2 (ui_shl (ui_and (ui_shr u_i1 u_i3) (rfl : Ui (1) (1))) (ui_rd (a := 82) u_I u_i3 c3.1))) (fun v_31 v_31' u_v_31 => ?_)
        refine Sg (fun g4 => ?_)
        exact (ih dp e 1 _ _ _ _ _ _ _ _ _ _ u_I u_L u_i1 u_v_31 (ui_add u_i3 (rfl : Ui (Int32.ofInt (1)) (1)) g4))
    exact Sn
set_option maxHeartbeats 4000000 in
set_option maxRecDepth 100000 in
def kf_167 : Nat → Nat → EN → Nat → JI → JI → Int → Int → Int → Int → Int → Int → Option (JI × JI)
  | 0, _, _, _, _, _, _, _, _, _, _, _ => none
  | n + 1, dp, e, lab, I, L, i1, i2, i3, i4, i5, i6 =>
    if lab = 0 then (if 0 ≤ i1 ∧ i1 < 256 then (if -2147483648 ≤ (I 81 8) - (I 85 i1) ∧ (I 81 8) - (I 85 i1) ≤ 2147483647 then (stI ((I 81 8) - (I 85 i1)) (fun v_11 => (if 0 ≤ i1 ∧ i1 < 256 then (if -2147483648 ≤ (I 81 9) - (I 85 i1) ∧ (I 81 9) - (I 85 i1) ≤ 2147483647 then (stI ((I 81 9) - (I 85 i1)) (fun v_23 => (if 0 ≤ i1 ∧ i1 < 256 then (if 0 ≤ i1 ∧ i1 < 256 then (if (-2147483648 ≤ (I 85 i1) * (I 81 10) ∧ (I 85 i1) * (I 81 10) ≤ 2147483647) ∧ (-2147483648 ≤ (I 86 i1) - ((I 85 i1) * (I 81 10)) ∧ (I 86 i1) - ((I 85 i1) * (I 81 10)) ≤ 2147483647) then (stI ((I 86 i1) - ((I 85 i1) * (I 81 10))) (fun v_42 => (kf_167 n dp e 1 I L i1 v_11 v_23 v_42 0 0))) else none) else none) else none))) else none) else none))) else none) else none)
    else if lab = 1 then (if (bL 1 (I 81 6)) ≤ i5 then (some (I, L)) else (if 0 ≤ i5 ∧ i5 < 256 then (stI (I 83 i5) (fun v_65 => (if v_65 < i2 then (kf_167 n dp e 2 I L i1 i2 i3 i4 i5 v_65) else (if v_65 ≤ i3 then (if 0 ≤ i5 ∧ i5 < 256 then (if (-2147483648 ≤ i4 + (I 84 i5) ∧ i4 + (I 84 i5) ≤ 2147483647) ∧ (-2147483648 ≤ v_65 * (I 81 10) ∧ v_65 * (I 81 10) ≤ 2147483647) ∧ (-2147483648 ≤ (i4 + (I 84 i5)) - (v_65 * (I 81 10)) ∧ (i4 + (I 84 i5)) - (v_65 * (I 81 10)) ≤ 2147483647) then (stI ((i4 + (I 84 i5)) - (v_65 * (I 81 10))) (fun v_100 => (if v_100 < 0 then (kf_167 n dp e 2 I L i1 i2 i3 i4 i5 v_65) else (if -2147483648 ≤ (I 81 12) + 1 ∧ (I 81 12) + 1 ≤ 2147483647 then (stI (w2 I 81 12 ((I 81 12) + 1)) (fun I_114 => (if (I_114 81 13) ≤ v_100 then (kf_167 n dp e 2 I_114 L i1 i2 i3 i4 i5 v_65) else (stI (w2 I_114 81 13 v_100) (fun I_129 => (if 1 ≤ dp then ((kf_168 n (dp - 1) e 0 I_129 L (bO (bL i1 (I_129 81 6)) i5) 0 0).bind (fun ⟨x0_143, I0_143, L0_143⟩ => (stI (w2 I0_143 81 14 x0_143) (fun I_146 => (kf_167 n dp e 2 I_146 L0_143 i1 i2 i3 i4 i5 v_65))))) else none)))))) else none)))) else none) else none) else (kf_167 n dp e 2 I L i1 i2 i3 i4 i5 v_65))))) else none))
    else if lab = 2 then (if -2147483648 ≤ i5 + 1 ∧ i5 + 1 ≤ 2147483647 then (kf_167 n dp e 1 I L i1 i2 i3 i4 (i5 + 1) 0) else none)
    else none
set_option maxRecDepth 100000 in
theorem ke_167_0 (n : Nat) (dp : Nat) (e : EN) (I : JI) (L : JI) (i1 : Int) (i2 : Int) (i3 : Int) (i4 : Int) (i5 : Int) (i6 : Int) : kf_167 (n + 1) dp e 0 I L i1 i2 i3 i4 i5 i6 = (if 0 ≤ i1 ∧ i1 < 256 then (if -2147483648 ≤ (I 81 8) - (I 85 i1) ∧ (I 81 8) - (I 85 i1) ≤ 2147483647 then (stI ((I 81 8) - (I 85 i1)) (fun v_11 => (if 0 ≤ i1 ∧ i1 < 256 then (if -2147483648 ≤ (I 81 9) - (I 85 i1) ∧ (I 81 9) - (I 85 i1) ≤ 2147483647 then (stI ((I 81 9) - (I 85 i1)) (fun v_23 => (if 0 ≤ i1 ∧ i1 < 256 then (if 0 ≤ i1 ∧ i1 < 256 then (if (-2147483648 ≤ (I 85 i1) * (I 81 10) ∧ (I 85 i1) * (I 81 10) ≤ 2147483647) ∧ (-2147483648 ≤ (I 86 i1) - ((I 85 i1) * (I 81 10)) ∧ (I 86 i1) - ((I 85 i1) * (I 81 10)) ≤ 2147483647) then (stI ((I 86 i1) - ((I 85 i1) * (I 81 10))) (fun v_42 => (kf_167 n dp e 1 I L i1 v_11 v_23 v_42 0 0))) else none) else none) else none))) else none) else none))) else none) else none) := by rw [kf_167.eq_2, if_pos (show (0 : Nat) = 0 from rfl)]
set_option maxRecDepth 100000 in
theorem ke_167_1 (n : Nat) (dp : Nat) (e : EN) (I : JI) (L : JI) (i1 : Int) (i2 : Int) (i3 : Int) (i4 : Int) (i5 : Int) (i6 : Int) : kf_167 (n + 1) dp e 1 I L i1 i2 i3 i4 i5 i6 = (if (bL 1 (I 81 6)) ≤ i5 then (some (I, L)) else (if 0 ≤ i5 ∧ i5 < 256 then (stI (I 83 i5) (fun v_65 => (if v_65 < i2 then (kf_167 n dp e 2 I L i1 i2 i3 i4 i5 v_65) else (if v_65 ≤ i3 then (if 0 ≤ i5 ∧ i5 < 256 then (if (-2147483648 ≤ i4 + (I 84 i5) ∧ i4 + (I 84 i5) ≤ 2147483647) ∧ (-2147483648 ≤ v_65 * (I 81 10) ∧ v_65 * (I 81 10) ≤ 2147483647) ∧ (-2147483648 ≤ (i4 + (I 84 i5)) - (v_65 * (I 81 10)) ∧ (i4 + (I 84 i5)) - (v_65 * (I 81 10)) ≤ 2147483647) then (stI ((i4 + (I 84 i5)) - (v_65 * (I 81 10))) (fun v_100 => (if v_100 < 0 then (kf_167 n dp e 2 I L i1 i2 i3 i4 i5 v_65) else (if -2147483648 ≤ (I 81 12) + 1 ∧ (I 81 12) + 1 ≤ 2147483647 then (stI (w2 I 81 12 ((I 81 12) + 1)) (fun I_114 => (if (I_114 81 13) ≤ v_100 then (kf_167 n dp e 2 I_114 L i1 i2 i3 i4 i5 v_65) else (stI (w2 I_114 81 13 v_100) (fun I_129 => (if 1 ≤ dp then ((kf_168 n (dp - 1) e 0 I_129 L (bO (bL i1 (I_129 81 6)) i5) 0 0).bind (fun ⟨x0_143, I0_143, L0_143⟩ => (stI (w2 I0_143 81 14 x0_143) (fun I_146 => (kf_167 n dp e 2 I_146 L0_143 i1 i2 i3 i4 i5 v_65))))) else none)))))) else none)))) else none) else none) else (kf_167 n dp e 2 I L i1 i2 i3 i4 i5 v_65))))) else none)) := by rw [kf_167.eq_2, if_neg (show ¬ ((1 : Nat) = 0) by decide), if_pos (show (1 : Nat) = 1 from rfl)]
set_option maxRecDepth 100000 in
theorem ke_167_2 (n : Nat) (dp : Nat) (e : EN) (I : JI) (L : JI) (i1 : Int) (i2 : Int) (i3 : Int) (i4 : Int) (i5 : Int) (i6 : Int) : kf_167 (n + 1) dp e 2 I L i1 i2 i3 i4 i5 i6 = (if -2147483648 ≤ i5 + 1 ∧ i5 + 1 ≤ 2147483647 then (kf_167 n dp e 1 I L i1 i2 i3 i4 (i5 + 1) 0) else none) := by rw [kf_167.eq_2, if_neg (show ¬ ((2 : Nat) = 0) by decide), if_neg (show ¬ ((2 : Nat) = 1) by decide), if_pos (show (2 : Nat) = 2 from rfl)]
set_option maxHeartbeats 8000000 in
set_option maxRecDepth 100000 in
theorem ks_167 : ∀ (n : Nat) (dp : Nat) (e : EN) (lab : Nat) (I : Nat → Nat → Int32) (I' : JI) (L : Nat → Nat → Int64) (L' : JI) (i1 : Int32) (i1' : Int) (i2 : Int32) (i2' : Int) (i3 : Int32) (i3' : Int) (i4 : Int32) (i4' : Int) (i5 : Int32) (i5' : Int) (i6 : Int32) (i6' : Int), Rli I I' → Rll L L' → Ui i1 i1' → Ui i2 i2' → Ui i3 i3' → Ui i4 i4' → Ui i5 i5' → Ui i6 i6' → Sim R2 (g_167 n dp e lab I L i1 i2 i3 i4 i5 i6) (kf_167 n dp e lab I' L' i1' i2' i3' i4' i5' i6') := by
  intro n
  induction n with
  | zero => intros; rw [kf_167.eq_1]; exact Sn
  | succ n ih =>
    intro dp e lab I I' L L' i1 i1' i2 i2' i3 i3' i4 i4' i5 i5' i6 i6' u_I u_L u_i1 u_i2 u_i3 u_i4 u_i5 u_i6
    rw [g_167.eq_2, kf_167.eq_2]
    refine Sc Iff.rfl (fun _ => ?_) (fun _ => ?_)
    · refine Sc (ix_up u_i1) (fun c1 => ?_) (fun _ => Sn)
      refine Sg (fun g2 => ?_)
      refine SsI (ui_sub (u_I 81 8) (ui_rd (a := 85) u_I u_i1 c1.1) g2) (fun v_11 v_11' u_v_11 => ?_)
      refine Sc (ix_up u_i1) (fun c3 => ?_) (fun _ => Sn)
      refine Sg (fun g4 => ?_)
      refine SsI (ui_sub (u_I 81 9) (ui_rd (a := 85) u_I u_i1 c3.1) g4) (fun v_23 v_23' u_v_23 => ?_)
      refine Sc (ix_up u_i1) (fun c5 => ?_) (fun _ => Sn)
      refine Sc (ix_up u_i1) (fun c6 => ?_) (fun _ => Sn)
      refine Sg (fun g7 => ?_)
      refine SsI (ui_sub (ui_rd (a := 86) u_I u_i1 c6.1) (ui_mul (ui_rd (a := 85) u_I u_i1 c6.1) (u_I 81 10) g7.1) g7.2) (fun v_42 v_42' u_v_42 => ?_)
      exact (ih dp e 1 _ _ _ _ _ _ _ _ _ _ _ _ _ _ _ _ u_I u_L u_i1 u_v_11 u_v_23 u_v_42 (rfl : Ui (0) (0)) (rfl : Ui 0 0))
    refine Sc Iff.rfl (fun _ => ?_) (fun _ => ?_)
    · refine Sc (le_up (ui_shl (rfl : Ui (1) (1)) (u_I 81 6)) u_i5) (fun c1 => ?_) (fun c1 => ?_)
      · exact Sr ⟨u_I, u_L⟩
      · refine Sc (ix_up u_i5) (fun c2 => ?_) (fun _ => Sn)
        refine SsI (ui_rd (a := 83) u_I u_i5 c2.1) (fun v_65 v_65' u_v_65 => ?_)
        refine Sc (lt_up u_v_65 u_i2) (fun c3 => ?_) (fun c3 => ?_)
        · exact (ih dp e 2 _ _ _ _ _ _ _ _ _ _ _ _ _ _ _ _ u_I u_L u_i1 u_i2 u_i3 u_i4 u_i5 u_v_65)
        · refine Sc (le_up u_v_65 u_i3) (fun c4 => ?_) (fun c4 => ?_)
          · refine Sc (ix_up u_i5) (fun c5 => ?_) (fun _ => Sn)
            refine Sg (fun g6 => ?_)
            refine SsI (ui_sub (ui_add u_i4 (ui_rd (a := 84) u_I u_i5 c5.1) g6.1) (ui_mul u_v_65 (u_I 81 10) g6.2.1) g6.2.2) (fun v_100 v_100' u_v_100 => ?_)
            refine Sc (lt_up u_v_100 (rfl : Ui 0 0)) (fun c7 => ?_) (fun c7 => ?_)
            · exact (ih dp e 2 _ _ _ _ _ _ _ _ _ _ _ _ _ _ _ _ u_I u_L u_i1 u_i2 u_i3 u_i4 u_i5 u_v_65)
            · refine Sg (fun g8 => ?_)
              refine SsJ (ri_up u_I (rfl : ((12 : Nat) : Int) = 12) (ui_add (u_I 81 12) (rfl : Ui (1) (1)) g8)) (fun I_114 I_114' u_I_114 => ?_)
              refine Sc (le_up (u_I_114 81 13) u_v_100) (fun c9 => ?_) (fun c9 => ?_)
              · exact (ih dp e 2 _ _ _ _ _ _ _ _ _ _ _ _ _ _ _ _ u_I_114 u_L u_i1 u_i2 u_i3 u_i4 u_i5 u_v_65)
              · refine SsJ (ri_up u_I_114 (rfl : ((13 : Nat) : Int) = 13) u_v_100) (fun I_129 I_129' u_I_129 => ?_)
                refine Sc Iff.rfl (fun c10 => ?_) (fun _ => Sn)
                refine Sb3 (ks_168 n (dp - 1) e 0 _ _ _ _ _ _ _ _ _ _ u_I_129 u_L (ui_or (ui_shl u_i1 (u_I_129 81 6)) u_i5) (rfl : Ui 0 0) (rfl : Ui 0 0)) (fun x0_143 x0_143' I0_143 I0_143' L0_143 L0_143' u_x0_143 u_I0_143 u_L0_143 => ?_)
                refine SsJ (ri_up u_I0_143 (rfl : ((14 : Nat) : Int) = 14) u_x0_143) (fun I_146 I_146' u_I_146 => ?_)
                exact (ih dp e 2 _ _ _ _ _ _ _ _ _ _ _ _ _ _ _ _ u_I_146 u_L0_143 u_i1 u_i2 u_i3 u_i4 u_i5 u_v_65)
          · exact (ih dp e 2 _ _ _ _ _ _ _ _ _ _ _ _ _ _ _ _ u_I u_L u_i1 u_i2 u_i3 u_i4 u_i5 u_v_65)
    refine Sc Iff.rfl (fun _ => ?_) (fun _ => ?_)
    · refine Sg (fun g1 => ?_)
      exact (ih dp e 1 _ _ _ _ _ _ _ _ _ _ _ _ _ _ _ _ u_I u_L u_i1 u_i2 u_i3 u_i4 (ui_add u_i5 (rfl : Ui (Int32.ofInt (1)) (1)) g1) (rfl : Ui 0 0))
    exact Sn
set_option maxHeartbeats 4000000 in
set_option maxRecDepth 100000 in
def kf_164 : Nat → Nat → EN → Nat → JI → JI → Int → Int → Int → Int → Int → Option (JI × JI)
  | 0, _, _, _, _, _, _, _, _, _, _ => none
  | n + 1, dp, e, lab, I, L, i1, i2, i3, i4, i5 =>
    if lab = 0 then (if (I 81 11) = 0 then (if i1 = (I 81 8) then (if i2 = (I 81 9) then (if i3 = (I 81 10) then (some (I, L)) else (kf_164 n dp e 1 I L i1 i2 i3 0 0)) else (kf_164 n dp e 1 I L i1 i2 i3 0 0)) else (kf_164 n dp e 1 I L i1 i2 i3 0 0)) else (kf_164 n dp e 1 I L i1 i2 i3 0 0))
    else if lab = 1 then (if (I 81 11) = 0 then (kf_164 n dp e 2 I L i1 i2 i3 0 0) else (if 1 ≤ dp then ((kf_165 n (dp - 1) e 0 I L 0 0).bind (fun ⟨I0_40, L0_40⟩ => (stI (w2 I0_40 81 11 0) (fun I_45 => (kf_164 n dp e 2 I_45 L0_40 i1 i2 i3 0 0))))) else none))
    else if lab = 2 then (stI (w2 I 81 8 i1) (fun I_50 => (stI (w2 I_50 81 9 i2) (fun I_55 => (stI (w2 I_55 81 10 i3) (fun I_60 => (stI (w2 I_60 81 12 0) (fun I_65 => (stI (w2 I_65 81 13 1000000000) (fun I_71 => (stI (w2 I_71 81 14 0) (fun I_76 => (if -2147483648 ≤ (bL 1 (I_76 81 6)) - 1 ∧ (bL 1 (I_76 81 6)) - 1 ≤ 2147483647 then (if 0 ≤ ((bL 1 (I_76 81 6)) - 1) ∧ ((bL 1 (I_76 81 6)) - 1) < 256 then (stI (I_76 83 ((bL 1 (I_76 81 6)) - 1)) (fun v_92 => (kf_164 n dp e 3 I_76 L i1 i2 i3 v_92 0))) else none) else none)))))))))))))
    else if lab = 3 then (if (bL 1 (I 81 7)) ≤ i5 then (some (I, L)) else (if 0 ≤ i5 ∧ i5 < 256 then (if i2 < (I 85 i5) then (kf_164 n dp e 4 I L i1 i2 i3 i4 i5) else (if 0 ≤ i5 ∧ i5 < 256 then (if -2147483648 ≤ (I 85 i5) + i4 ∧ (I 85 i5) + i4 ≤ 2147483647 then (if ((I 85 i5) + i4) < i1 then (kf_164 n dp e 4 I L i1 i2 i3 i4 i5) else (if 1 ≤ dp then ((kf_167 n (dp - 1) e 0 I L i5 0 0 0 0 0).bind (fun ⟨I0_136, L0_136⟩ => (kf_164 n dp e 4 I0_136 L0_136 i1 i2 i3 i4 i5))) else none)) else none) else none)) else none))
    else if lab = 4 then (if -2147483648 ≤ i5 + 1 ∧ i5 + 1 ≤ 2147483647 then (kf_164 n dp e 3 I L i1 i2 i3 i4 (i5 + 1)) else none)
    else none
set_option maxRecDepth 100000 in
theorem ke_164_0 (n : Nat) (dp : Nat) (e : EN) (I : JI) (L : JI) (i1 : Int) (i2 : Int) (i3 : Int) (i4 : Int) (i5 : Int) : kf_164 (n + 1) dp e 0 I L i1 i2 i3 i4 i5 = (if (I 81 11) = 0 then (if i1 = (I 81 8) then (if i2 = (I 81 9) then (if i3 = (I 81 10) then (some (I, L)) else (kf_164 n dp e 1 I L i1 i2 i3 0 0)) else (kf_164 n dp e 1 I L i1 i2 i3 0 0)) else (kf_164 n dp e 1 I L i1 i2 i3 0 0)) else (kf_164 n dp e 1 I L i1 i2 i3 0 0)) := by rw [kf_164.eq_2, if_pos (show (0 : Nat) = 0 from rfl)]
set_option maxRecDepth 100000 in
theorem ke_164_1 (n : Nat) (dp : Nat) (e : EN) (I : JI) (L : JI) (i1 : Int) (i2 : Int) (i3 : Int) (i4 : Int) (i5 : Int) : kf_164 (n + 1) dp e 1 I L i1 i2 i3 i4 i5 = (if (I 81 11) = 0 then (kf_164 n dp e 2 I L i1 i2 i3 0 0) else (if 1 ≤ dp then ((kf_165 n (dp - 1) e 0 I L 0 0).bind (fun ⟨I0_40, L0_40⟩ => (stI (w2 I0_40 81 11 0) (fun I_45 => (kf_164 n dp e 2 I_45 L0_40 i1 i2 i3 0 0))))) else none)) := by rw [kf_164.eq_2, if_neg (show ¬ ((1 : Nat) = 0) by decide), if_pos (show (1 : Nat) = 1 from rfl)]
set_option maxRecDepth 100000 in
theorem ke_164_2 (n : Nat) (dp : Nat) (e : EN) (I : JI) (L : JI) (i1 : Int) (i2 : Int) (i3 : Int) (i4 : Int) (i5 : Int) : kf_164 (n + 1) dp e 2 I L i1 i2 i3 i4 i5 = (stI (w2 I 81 8 i1) (fun I_50 => (stI (w2 I_50 81 9 i2) (fun I_55 => (stI (w2 I_55 81 10 i3) (fun I_60 => (stI (w2 I_60 81 12 0) (fun I_65 => (stI (w2 I_65 81 13 1000000000) (fun I_71 => (stI (w2 I_71 81 14 0) (fun I_76 => (if -2147483648 ≤ (bL 1 (I_76 81 6)) - 1 ∧ (bL 1 (I_76 81 6)) - 1 ≤ 2147483647 then (if 0 ≤ ((bL 1 (I_76 81 6)) - 1) ∧ ((bL 1 (I_76 81 6)) - 1) < 256 then (stI (I_76 83 ((bL 1 (I_76 81 6)) - 1)) (fun v_92 => (kf_164 n dp e 3 I_76 L i1 i2 i3 v_92 0))) else none) else none))))))))))))) := by rw [kf_164.eq_2, if_neg (show ¬ ((2 : Nat) = 0) by decide), if_neg (show ¬ ((2 : Nat) = 1) by decide), if_pos (show (2 : Nat) = 2 from rfl)]
set_option maxRecDepth 100000 in
theorem ke_164_3 (n : Nat) (dp : Nat) (e : EN) (I : JI) (L : JI) (i1 : Int) (i2 : Int) (i3 : Int) (i4 : Int) (i5 : Int) : kf_164 (n + 1) dp e 3 I L i1 i2 i3 i4 i5 = (if (bL 1 (I 81 7)) ≤ i5 then (some (I, L)) else (if 0 ≤ i5 ∧ i5 < 256 then (if i2 < (I 85 i5) then (kf_164 n dp e 4 I L i1 i2 i3 i4 i5) else (if 0 ≤ i5 ∧ i5 < 256 then (if -2147483648 ≤ (I 85 i5) + i4 ∧ (I 85 i5) + i4 ≤ 2147483647 then (if ((I 85 i5) + i4) < i1 then (kf_164 n dp e 4 I L i1 i2 i3 i4 i5) else (if 1 ≤ dp then ((kf_167 n (dp - 1) e 0 I L i5 0 0 0 0 0).bind (fun ⟨I0_136, L0_136⟩ => (kf_164 n dp e 4 I0_136 L0_136 i1 i2 i3 i4 i5))) else none)) else none) else none)) else none)) := by rw [kf_164.eq_2, if_neg (show ¬ ((3 : Nat) = 0) by decide), if_neg (show ¬ ((3 : Nat) = 1) by decide), if_neg (show ¬ ((3 : Nat) = 2) by decide), if_pos (show (3 : Nat) = 3 from rfl)]
set_option maxRecDepth 100000 in
theorem ke_164_4 (n : Nat) (dp : Nat) (e : EN) (I : JI) (L : JI) (i1 : Int) (i2 : Int) (i3 : Int) (i4 : Int) (i5 : Int) : kf_164 (n + 1) dp e 4 I L i1 i2 i3 i4 i5 = (if -2147483648 ≤ i5 + 1 ∧ i5 + 1 ≤ 2147483647 then (kf_164 n dp e 3 I L i1 i2 i3 i4 (i5 + 1)) else none) := by rw [kf_164.eq_2, if_neg (show ¬ ((4 : Nat) = 0) by decide), if_neg (show ¬ ((4 : Nat) = 1) by decide), if_neg (show ¬ ((4 : Nat) = 2) by decide), if_neg (show ¬ ((4 : Nat) = 3) by decide), if_pos (show (4 : Nat) = 4 from rfl)]
set_option maxHeartbeats 8000000 in
set_option maxRecDepth 100000 in
theorem ks_164 : ∀ (n : Nat) (dp : Nat) (e : EN) (lab : Nat) (I : Nat → Nat → Int32) (I' : JI) (L : Nat → Nat → Int64) (L' : JI) (i1 : Int32) (i1' : Int) (i2 : Int32) (i2' : Int) (i3 : Int32) (i3' : Int) (i4 : Int32) (i4' : Int) (i5 : Int32) (i5' : Int), Rli I I' → Rll L L' → Ui i1 i1' → Ui i2 i2' → Ui i3 i3' → Ui i4 i4' → Ui i5 i5' → Sim R2 (g_164 n dp e lab I L i1 i2 i3 i4 i5) (kf_164 n dp e lab I' L' i1' i2' i3' i4' i5') := by
  intro n
  induction n with
  | zero => intros; rw [kf_164.eq_1]; exact Sn
  | succ n ih =>
    intro dp e lab I I' L L' i1 i1' i2 i2' i3 i3' i4 i4' i5 i5' u_I u_L u_i1 u_i2 u_i3 u_i4 u_i5
    rw [g_164.eq_2, kf_164.eq_2]
    refine Sc Iff.rfl (fun _ => ?_) (fun _ => ?_)
    · refine Sc (eq_up (u_I 81 11) (rfl : Ui 0 0)) (fun c1 => ?_) (fun c1 => ?_)
      · refine Sc (eq_up u_i1 (u_I 81 8)) (fun c2 => ?_) (fun c2 => ?_)
        · refine Sc (eq_up u_i2 (u_I 81 9)) (fun c3 => ?_) (fun c3 => ?_)
          · refine Sc (eq_up u_i3 (u_I 81 10)) (fun c4 => ?_) (fun c4 => ?_)
            · exact Sr ⟨u_I, u_L⟩
            · exact (ih dp e 1 _ _ _ _ _ _ _ _ _ _ _ _ _ _ u_I u_L u_i1 u_i2 u_i3 (rfl : Ui 0 0) (rfl : Ui 0 0))
          · exact (ih dp e 1 _ _ _ _ _ _ _ _ _ _ _ _ _ _ u_I u_L u_i1 u_i2 u_i3 (rfl : Ui 0 0) (rfl : Ui 0 0))
        · exact (ih dp e 1 _ _ _ _ _ _ _ _ _ _ _ _ _ _ u_I u_L u_i1 u_i2 u_i3 (rfl : Ui 0 0) (rfl : Ui 0 0))
      · exact (ih dp e 1 _ _ _ _ _ _ _ _ _ _ _ _ _ _ u_I u_L u_i1 u_i2 u_i3 (rfl : Ui 0 0) (rfl : Ui 0 0))
    refine Sc Iff.rfl (fun _ => ?_) (fun _ => ?_)
    · refine Sc (eq_up (u_I 81 11) (rfl : Ui 0 0)) (fun c1 => ?_) (fun c1 => ?_)
      · exact (ih dp e 2 _ _ _ _ _ _ _ _ _ _ _ _ _ _ u_I u_L u_i1 u_i2 u_i3 (rfl : Ui 0 0) (rfl : Ui 0 0))
      · refine Sc Iff.rfl (fun c2 => ?_) (fun _ => Sn)
        refine Sb2 (ks_165 n (dp - 1) e 0 _ _ _ _ _ _ _ _ u_I u_L (rfl : Ui 0 0) (rfl : Ui 0 0)) (fun I0_40 I0_40' L0_40 L0_40' u_I0_40 u_L0_40 => ?_)
        refine SsJ (ri_up u_I0_40 (rfl : ((11 : Nat) : Int) = 11) (rfl : Ui (0) (0))) (fun I_45 I_45' u_I_45 => ?_)
        exact (ih dp e 2 _ _ _ _ _ _ _ _ _ _ _ _ _ _ u_I_45 u_L0_40 u_i1 u_i2 u_i3 (rfl : Ui 0 0) (rfl : Ui 0 0))
    refine Sc Iff.rfl (fun _ => ?_) (fun _ => ?_)
    · refine SsJ (ri_up u_I (rfl : ((8 : Nat) : Int) = 8) u_i1) (fun I_50 I_50' u_I_50 => ?_)
      refine SsJ (ri_up u_I_50 (rfl : ((9 : Nat) : Int) = 9) u_i2) (fun I_55 I_55' u_I_55 => ?_)
      refine SsJ (ri_up u_I_55 (rfl : ((10 : Nat) : Int) = 10) u_i3) (fun I_60 I_60' u_I_60 => ?_)
      refine SsJ (ri_up u_I_60 (rfl : ((12 : Nat) : Int) = 12) (rfl : Ui (0) (0))) (fun I_65 I_65' u_I_65 => ?_)
      refine SsJ (ri_up u_I_65 (rfl : ((13 : Nat) : Int) = 13) (rfl : Ui (1000000000) (1000000000))) (fun I_71 I_71' u_I_71 => ?_)
      refine SsJ (ri_up u_I_71 (rfl : ((14 : Nat) : Int) = 14) (rfl : Ui (0) (0))) (fun I_76 I_76' u_I_76 => ?_)
      refine Sg (fun g1 => ?_)
      refine Sc (ix_up (ui_sub (ui_shl (rfl : Ui (1) (1)) (u_I_76 81 6)) (rfl : Ui (1) (1)) g1)) (fun c2 => ?_) (fun _ => Sn)
      refine SsI (ui_rd (a := 83) u_I_76 (ui_sub (ui_shl (rfl : Ui (1) (1)) (u_I_76 81 6)) (rfl : Ui (1) (1)) g1) c2.1) (fun v_92 v_92' u_v_92 => ?_)
      exact (ih dp e 3 _ _ _ _ _ _ _ _ _ _ _ _ _ _ u_I_76 u_L u_i1 u_i2 u_i3 u_v_92 (rfl : Ui (0) (0)))
    refine Sc Iff.rfl (fun _ => ?_) (fun _ => ?_)
    · refine Sc (le_up (ui_shl (rfl : Ui (1) (1)) (u_I 81 7)) u_i5) (fun c1 => ?_) (fun c1 => ?_)
      · exact Sr ⟨u_I, u_L⟩
      · refine Sc (ix_up u_i5) (fun c2 => ?_) (fun _ => Sn)
        refine Sc (lt_up u_i2 (ui_rd (a := 85) u_I u_i5 c2.1)) (fun c3 => ?_) (fun c3 => ?_)
        · exact (ih dp e 4 _ _ _ _ _ _ _ _ _ _ _ _ _ _ u_I u_L u_i1 u_i2 u_i3 u_i4 u_i5)
        · refine Sc (ix_up u_i5) (fun c4 => ?_) (fun _ => Sn)
          refine Sg (fun g5 => ?_)
          refine Sc (lt_up (ui_add (ui_rd (a := 85) u_I u_i5 c4.1) u_i4 g5) u_i1) (fun c6 => ?_) (fun c6 => ?_)
          · exact (ih dp e 4 _ _ _ _ _ _ _ _ _ _ _ _ _ _ u_I u_L u_i1 u_i2 u_i3 u_i4 u_i5)
          · refine Sc Iff.rfl (fun c7 => ?_) (fun _ => Sn)
            refine Sb2 (ks_167 n (dp - 1) e 0 _ _ _ _ _ _ _ _ _ _ _ _ _ _ _ _ u_I u_L u_i5 (rfl : Ui 0 0) (rfl : Ui 0 0) (rfl : Ui 0 0) (rfl : Ui 0 0) (rfl : Ui 0 0)) (fun I0_136 I0_136' L0_136 L0_136' u_I0_136 u_L0_136 => ?_)
            exact (ih dp e 4 _ _ _ _ _ _ _ _ _ _ _ _ _ _ u_I0_136 u_L0_136 u_i1 u_i2 u_i3 u_i4 u_i5)
    refine Sc Iff.rfl (fun _ => ?_) (fun _ => ?_)
    · refine Sg (fun g1 => ?_)
      exact (ih dp e 3 _ _ _ _ _ _ _ _ _ _ _ _ _ _ u_I u_L u_i1 u_i2 u_i3 u_i4 (ui_add u_i5 (rfl : Ui (Int32.ofInt (1)) (1)) g1))
    exact Sn
set_option maxHeartbeats 4000000 in
set_option maxRecDepth 100000 in
def kf_163 : Nat → Nat → EN → Nat → JI → JI → Int → Int → Int → Int → Option (Int × JI × JI)
  | 0, _, _, _, _, _, _, _, _, _ => none
  | n + 1, dp, e, lab, I, L, i1, i2, i3, i4 =>
    if lab = 0 then (if 1 ≤ dp then ((kf_14 n (dp - 1) e 0 I L i1 1 1584).bind (fun ⟨x0_5, I0_5, L0_5⟩ => (if x0_5 = 0 then (some (((-1) : Int), I0_5, L0_5)) else (if 1 ≤ dp then ((kf_14 n (dp - 1) e 0 I0_5 L0_5 i2 1 1584).bind (fun ⟨x1_16, I1_16, L1_16⟩ => (if x1_16 = 0 then (some (((-1) : Int), I1_16, L1_16)) else (if 1 ≤ dp then ((kf_14 n (dp - 1) e 0 I1_16 L1_16 i3 0 100).bind (fun ⟨x2_26, I2_26, L2_26⟩ => (if x2_26 = 0 then (some (((-1) : Int), I2_26, L2_26)) else (if 1 ≤ dp then ((kf_14 n (dp - 1) e 0 I2_26 L2_26 i4 0 2).bind (fun ⟨x3_36, I3_36, L3_36⟩ => (if x3_36 = 0 then (some (((-1) : Int), I3_36, L3_36)) else (if 1 ≤ dp then ((kf_164 n (dp - 1) e 0 I3_36 L3_36 i1 i2 i3 0 0).bind (fun ⟨I4_51, L4_51⟩ => (if i4 = 2 then (some (((I4_51 81 12) : Int), I4_51, L4_51)) else (if (I4_51 81 12) = 0 then (some (((-1) : Int), I4_51, L4_51)) else (if i4 = 0 then (some (((I4_51 81 13) : Int), I4_51, L4_51)) else (some (((I4_51 81 14) : Int), I4_51, L4_51))))))) else none)))) else none)))) else none)))) else none)))) else none)
    else none
set_option maxRecDepth 100000 in
theorem ke_163_0 (n : Nat) (dp : Nat) (e : EN) (I : JI) (L : JI) (i1 : Int) (i2 : Int) (i3 : Int) (i4 : Int) : kf_163 (n + 1) dp e 0 I L i1 i2 i3 i4 = (if 1 ≤ dp then ((kf_14 n (dp - 1) e 0 I L i1 1 1584).bind (fun ⟨x0_5, I0_5, L0_5⟩ => (if x0_5 = 0 then (some (((-1) : Int), I0_5, L0_5)) else (if 1 ≤ dp then ((kf_14 n (dp - 1) e 0 I0_5 L0_5 i2 1 1584).bind (fun ⟨x1_16, I1_16, L1_16⟩ => (if x1_16 = 0 then (some (((-1) : Int), I1_16, L1_16)) else (if 1 ≤ dp then ((kf_14 n (dp - 1) e 0 I1_16 L1_16 i3 0 100).bind (fun ⟨x2_26, I2_26, L2_26⟩ => (if x2_26 = 0 then (some (((-1) : Int), I2_26, L2_26)) else (if 1 ≤ dp then ((kf_14 n (dp - 1) e 0 I2_26 L2_26 i4 0 2).bind (fun ⟨x3_36, I3_36, L3_36⟩ => (if x3_36 = 0 then (some (((-1) : Int), I3_36, L3_36)) else (if 1 ≤ dp then ((kf_164 n (dp - 1) e 0 I3_36 L3_36 i1 i2 i3 0 0).bind (fun ⟨I4_51, L4_51⟩ => (if i4 = 2 then (some (((I4_51 81 12) : Int), I4_51, L4_51)) else (if (I4_51 81 12) = 0 then (some (((-1) : Int), I4_51, L4_51)) else (if i4 = 0 then (some (((I4_51 81 13) : Int), I4_51, L4_51)) else (some (((I4_51 81 14) : Int), I4_51, L4_51))))))) else none)))) else none)))) else none)))) else none)))) else none) := by rw [kf_163.eq_2, if_pos (show (0 : Nat) = 0 from rfl)]
set_option maxHeartbeats 8000000 in
set_option maxRecDepth 100000 in
theorem ks_163 : ∀ (n : Nat) (dp : Nat) (e : EN) (lab : Nat) (I : Nat → Nat → Int32) (I' : JI) (L : Nat → Nat → Int64) (L' : JI) (i1 : Int32) (i1' : Int) (i2 : Int32) (i2' : Int) (i3 : Int32) (i3' : Int) (i4 : Int32) (i4' : Int), Rli I I' → Rll L L' → Ui i1 i1' → Ui i2 i2' → Ui i3 i3' → Ui i4 i4' → Sim R3 (g_163 n dp e lab I L i1 i2 i3 i4) (kf_163 n dp e lab I' L' i1' i2' i3' i4') := by
  intro n
  induction n with
  | zero => intros; rw [kf_163.eq_1]; exact Sn
  | succ n ih =>
    intro dp e lab I I' L L' i1 i1' i2 i2' i3 i3' i4 i4' u_I u_L u_i1 u_i2 u_i3 u_i4
    rw [g_163.eq_2, kf_163.eq_2]
    refine Sc Iff.rfl (fun _ => ?_) (fun _ => ?_)
    · refine Sc Iff.rfl (fun c1 => ?_) (fun _ => Sn)
      refine Sb3 (ks_14 n (dp - 1) e 0 _ _ _ _ _ _ _ _ _ _ u_I u_L u_i1 (rfl : Ui (1) (1)) (rfl : Ui (1584) (1584))) (fun x0_5 x0_5' I0_5 I0_5' L0_5 L0_5' u_x0_5 u_I0_5 u_L0_5 => ?_)
      refine Sc (eq_up u_x0_5 (rfl : Ui 0 0)) (fun c2 => ?_) (fun c2 => ?_)
      · exact Sr ⟨(rfl : Ui (-1) (-1)), u_I0_5, u_L0_5⟩
      · refine Sc Iff.rfl (fun c3 => ?_) (fun _ => Sn)
        refine Sb3 (ks_14 n (dp - 1) e 0 _ _ _ _ _ _ _ _ _ _ u_I0_5 u_L0_5 u_i2 (rfl : Ui (1) (1)) (rfl : Ui (1584) (1584))) (fun x1_16 x1_16' I1_16 I1_16' L1_16 L1_16' u_x1_16 u_I1_16 u_L1_16 => ?_)
        refine Sc (eq_up u_x1_16 (rfl : Ui 0 0)) (fun c4 => ?_) (fun c4 => ?_)
        · exact Sr ⟨(rfl : Ui (-1) (-1)), u_I1_16, u_L1_16⟩
        · refine Sc Iff.rfl (fun c5 => ?_) (fun _ => Sn)
          refine Sb3 (ks_14 n (dp - 1) e 0 _ _ _ _ _ _ _ _ _ _ u_I1_16 u_L1_16 u_i3 (rfl : Ui (0) (0)) (rfl : Ui (100) (100))) (fun x2_26 x2_26' I2_26 I2_26' L2_26 L2_26' u_x2_26 u_I2_26 u_L2_26 => ?_)
          refine Sc (eq_up u_x2_26 (rfl : Ui 0 0)) (fun c6 => ?_) (fun c6 => ?_)
          · exact Sr ⟨(rfl : Ui (-1) (-1)), u_I2_26, u_L2_26⟩
          · refine Sc Iff.rfl (fun c7 => ?_) (fun _ => Sn)
            refine Sb3 (ks_14 n (dp - 1) e 0 _ _ _ _ _ _ _ _ _ _ u_I2_26 u_L2_26 u_i4 (rfl : Ui (0) (0)) (rfl : Ui (2) (2))) (fun x3_36 x3_36' I3_36 I3_36' L3_36 L3_36' u_x3_36 u_I3_36 u_L3_36 => ?_)
            refine Sc (eq_up u_x3_36 (rfl : Ui 0 0)) (fun c8 => ?_) (fun c8 => ?_)
            · exact Sr ⟨(rfl : Ui (-1) (-1)), u_I3_36, u_L3_36⟩
            · refine Sc Iff.rfl (fun c9 => ?_) (fun _ => Sn)
              refine Sb2 (ks_164 n (dp - 1) e 0 _ _ _ _ _ _ _ _ _ _ _ _ _ _ u_I3_36 u_L3_36 u_i1 u_i2 u_i3 (rfl : Ui 0 0) (rfl : Ui 0 0)) (fun I4_51 I4_51' L4_51 L4_51' u_I4_51 u_L4_51 => ?_)
              refine Sc (eq_up u_i4 (rfl : Ui (2) (2))) (fun c10 => ?_) (fun c10 => ?_)
              · exact Sr ⟨(u_I4_51 81 12), u_I4_51, u_L4_51⟩
              · refine Sc (eq_up (u_I4_51 81 12) (rfl : Ui 0 0)) (fun c11 => ?_) (fun c11 => ?_)
                · exact Sr ⟨(rfl : Ui (-1) (-1)), u_I4_51, u_L4_51⟩
                · refine Sc (eq_up u_i4 (rfl : Ui 0 0)) (fun c12 => ?_) (fun c12 => ?_)
                  · exact Sr ⟨(u_I4_51 81 13), u_I4_51, u_L4_51⟩
                  · exact Sr ⟨(u_I4_51 81 14), u_I4_51, u_L4_51⟩
    exact Sn
set_option maxHeartbeats 4000000 in
set_option maxRecDepth 100000 in
def kf_171 : Nat → Nat → EN → Nat → JI → JI → Int → Int → Int → Int → Int → Int → Option (Int × JI × JI)
  | 0, _, _, _, _, _, _, _, _, _, _, _ => none
  | n + 1, dp, e, lab, I, L, i1, i2, i3, i4, i5, i6 =>
    if lab = 0 then (if -2147483648 ≤ i2 + 1 ∧ i2 + 1 ≤ 2147483647 then (kf_171 n dp e 1 I L i1 i2 (-1) (i2 + 1) 0 0) else none)
    else if lab = 1 then (if (I 1 9) ≤ i5 then (some ((i3 : Int), I, L)) else (if (-2147483648 ≤ i5 * 7 ∧ i5 * 7 ≤ 2147483647) ∧ (-2147483648 ≤ (i5 * 7) + 2 ∧ (i5 * 7) + 2 ≤ 2147483647) then (if 0 ≤ ((i5 * 7) + 2) ∧ ((i5 * 7) + 2) < 112 then (stI (I 7 ((i5 * 7) + 2)) (fun v_37 => (if -2147483648 ≤ (i5 * 7) + 6 ∧ (i5 * 7) + 6 ≤ 2147483647 then (if 0 ≤ ((i5 * 7) + 6) ∧ ((i5 * 7) + 6) < 112 then (if (I 7 ((i5 * 7) + 6)) = 1 then (if v_37 < i1 then (kf_171 n dp e 2 I L i1 i2 i3 i4 i5 v_37) else (if i4 ≤ v_37 then (kf_171 n dp e 2 I L i1 i2 i3 i4 i5 v_37) else (kf_171 n dp e 2 I L i1 i2 i5 v_37 i5 v_37))) else (kf_171 n dp e 2 I L i1 i2 i3 i4 i5 v_37)) else none) else none))) else none) else none))
    else if lab = 2 then (if -2147483648 ≤ i5 + 1 ∧ i5 + 1 ≤ 2147483647 then (kf_171 n dp e 1 I L i1 i2 i3 i4 (i5 + 1) 0) else none)
    else none
set_option maxRecDepth 100000 in
theorem ke_171_0 (n : Nat) (dp : Nat) (e : EN) (I : JI) (L : JI) (i1 : Int) (i2 : Int) (i3 : Int) (i4 : Int) (i5 : Int) (i6 : Int) : kf_171 (n + 1) dp e 0 I L i1 i2 i3 i4 i5 i6 = (if -2147483648 ≤ i2 + 1 ∧ i2 + 1 ≤ 2147483647 then (kf_171 n dp e 1 I L i1 i2 (-1) (i2 + 1) 0 0) else none) := by rw [kf_171.eq_2, if_pos (show (0 : Nat) = 0 from rfl)]
set_option maxRecDepth 100000 in
theorem ke_171_1 (n : Nat) (dp : Nat) (e : EN) (I : JI) (L : JI) (i1 : Int) (i2 : Int) (i3 : Int) (i4 : Int) (i5 : Int) (i6 : Int) : kf_171 (n + 1) dp e 1 I L i1 i2 i3 i4 i5 i6 = (if (I 1 9) ≤ i5 then (some ((i3 : Int), I, L)) else (if (-2147483648 ≤ i5 * 7 ∧ i5 * 7 ≤ 2147483647) ∧ (-2147483648 ≤ (i5 * 7) + 2 ∧ (i5 * 7) + 2 ≤ 2147483647) then (if 0 ≤ ((i5 * 7) + 2) ∧ ((i5 * 7) + 2) < 112 then (stI (I 7 ((i5 * 7) + 2)) (fun v_37 => (if -2147483648 ≤ (i5 * 7) + 6 ∧ (i5 * 7) + 6 ≤ 2147483647 then (if 0 ≤ ((i5 * 7) + 6) ∧ ((i5 * 7) + 6) < 112 then (if (I 7 ((i5 * 7) + 6)) = 1 then (if v_37 < i1 then (kf_171 n dp e 2 I L i1 i2 i3 i4 i5 v_37) else (if i4 ≤ v_37 then (kf_171 n dp e 2 I L i1 i2 i3 i4 i5 v_37) else (kf_171 n dp e 2 I L i1 i2 i5 v_37 i5 v_37))) else (kf_171 n dp e 2 I L i1 i2 i3 i4 i5 v_37)) else none) else none))) else none) else none)) := by rw [kf_171.eq_2, if_neg (show ¬ ((1 : Nat) = 0) by decide), if_pos (show (1 : Nat) = 1 from rfl)]
set_option maxRecDepth 100000 in
theorem ke_171_2 (n : Nat) (dp : Nat) (e : EN) (I : JI) (L : JI) (i1 : Int) (i2 : Int) (i3 : Int) (i4 : Int) (i5 : Int) (i6 : Int) : kf_171 (n + 1) dp e 2 I L i1 i2 i3 i4 i5 i6 = (if -2147483648 ≤ i5 + 1 ∧ i5 + 1 ≤ 2147483647 then (kf_171 n dp e 1 I L i1 i2 i3 i4 (i5 + 1) 0) else none) := by rw [kf_171.eq_2, if_neg (show ¬ ((2 : Nat) = 0) by decide), if_neg (show ¬ ((2 : Nat) = 1) by decide), if_pos (show (2 : Nat) = 2 from rfl)]
set_option maxHeartbeats 8000000 in
set_option maxRecDepth 100000 in
theorem ks_171 : ∀ (n : Nat) (dp : Nat) (e : EN) (lab : Nat) (I : Nat → Nat → Int32) (I' : JI) (L : Nat → Nat → Int64) (L' : JI) (i1 : Int32) (i1' : Int) (i2 : Int32) (i2' : Int) (i3 : Int32) (i3' : Int) (i4 : Int32) (i4' : Int) (i5 : Int32) (i5' : Int) (i6 : Int32) (i6' : Int), Rli I I' → Rll L L' → Ui i1 i1' → Ui i2 i2' → Ui i3 i3' → Ui i4 i4' → Ui i5 i5' → Ui i6 i6' → Sim R3 (g_171 n dp e lab I L i1 i2 i3 i4 i5 i6) (kf_171 n dp e lab I' L' i1' i2' i3' i4' i5' i6') := by
  intro n
  induction n with
  | zero => intros; rw [kf_171.eq_1]; exact Sn
  | succ n ih =>
    intro dp e lab I I' L L' i1 i1' i2 i2' i3 i3' i4 i4' i5 i5' i6 i6' u_I u_L u_i1 u_i2 u_i3 u_i4 u_i5 u_i6
    rw [g_171.eq_2, kf_171.eq_2]
    refine Sc Iff.rfl (fun _ => ?_) (fun _ => ?_)
    · refine Sg (fun g1 => ?_)
      exact (ih dp e 1 _ _ _ _ _ _ _ _ _ _ _ _ _ _ _ _ u_I u_L u_i1 u_i2 (rfl : Ui (-1) (-1)) (ui_add u_i2 (rfl : Ui (1) (1)) g1) (rfl : Ui (0) (0)) (rfl : Ui 0 0))
    refine Sc Iff.rfl (fun _ => ?_) (fun _ => ?_)
    · refine Sc (le_up (u_I 1 9) u_i5) (fun c1 => ?_) (fun c1 => ?_)
      · exact Sr ⟨u_i3, u_I, u_L⟩
      · refine Sg (fun g2 => ?_)
        refine Sc (ix_up (ui_add (ui_mul u_i5 (rfl : Ui (7) (7)) g2.1) (rfl : Ui (2) (2)) g2.2)) (fun c3 => ?_) (fun _ => Sn)
        refine SsI (ui_rd (a := 7) u_I (ui_add (ui_mul u_i5 (rfl : Ui (7) (7)) g2.1) (rfl : Ui (2) (2)) g2.2) c3.1) (fun v_37 v_37' u_v_37 => ?_)
        refine Sg (fun g4 => ?_)
        refine Sc (ix_up (ui_add (ui_mul u_i5 (rfl : Ui (7) (7)) g2.1) (rfl : Ui (6) (6)) g4)) (fun c5 => ?_) (fun _ => Sn)
        refine Sc (eq_up (ui_rd (a := 7) u_I (ui_add (ui_mul u_i5 (rfl : Ui (7) (7)) g2.1) (rfl : Ui (6) (6)) g4) c5.1) (rfl : Ui (1) (1))) (fun c6 => ?_) (fun c6 => ?_)
        · refine Sc (lt_up u_v_37 u_i1) (fun c7 => ?_) (fun c7 => ?_)
          · exact (ih dp e 2 _ _ _ _ _ _ _ _ _ _ _ _ _ _ _ _ u_I u_L u_i1 u_i2 u_i3 u_i4 u_i5 u_v_37)
          · refine Sc (le_up u_i4 u_v_37) (fun c8 => ?_) (fun c8 => ?_)
            · exact (ih dp e 2 _ _ _ _ _ _ _ _ _ _ _ _ _ _ _ _ u_I u_L u_i1 u_i2 u_i3 u_i4 u_i5 u_v_37)
            · exact (ih dp e 2 _ _ _ _ _ _ _ _ _ _ _ _ _ _ _ _ u_I u_L u_i1 u_i2 u_i5 u_v_37 u_i5 u_v_37)
        · exact (ih dp e 2 _ _ _ _ _ _ _ _ _ _ _ _ _ _ _ _ u_I u_L u_i1 u_i2 u_i3 u_i4 u_i5 u_v_37)
    refine Sc Iff.rfl (fun _ => ?_) (fun _ => ?_)
    · refine Sg (fun g1 => ?_)
      exact (ih dp e 1 _ _ _ _ _ _ _ _ _ _ _ _ _ _ _ _ u_I u_L u_i1 u_i2 u_i3 u_i4 (ui_add u_i5 (rfl : Ui (Int32.ofInt (1)) (1)) g1) (rfl : Ui 0 0))
    exact Sn
set_option maxHeartbeats 4000000 in
set_option maxRecDepth 100000 in
def kf_170 : Nat → Nat → EN → Nat → JI → JI → Int → Int → Int → Int → Int → Int → Option (Int × JI × JI)
  | 0, _, _, _, _, _, _, _, _, _, _, _ => none
  | n + 1, dp, e, lab, I, L, i1, i2, i3, i4, i5, i6 =>
    if lab = 0 then (kf_170 n dp e 1 I L i1 i2 i3 i4 0 0)
    else if lab = 1 then (if i1 ≤ i6 then (some ((i5 : Int), I, L)) else (if 1 ≤ dp then (if (-2147483648 ≤ i2 - i4 ∧ i2 - i4 ≤ 2147483647) ∧ (-2147483648 ≤ i2 - i3 ∧ i2 - i3 ≤ 2147483647) then ((kf_171 n (dp - 1) e 0 I L (i2 - i4) (i2 - i3) 0 0 0 0).bind (fun ⟨x0_20, I0_20, L0_20⟩ => (if x0_20 = (-1) then (some ((i5 : Int), I0_20, L0_20)) else (if (-2147483648 ≤ x0_20 * 7 ∧ x0_20 * 7 ≤ 2147483647) ∧ (-2147483648 ≤ (x0_20 * 7) + 6 ∧ (x0_20 * 7) + 6 ≤ 2147483647) then (if 0 ≤ ((x0_20 * 7) + 6) ∧ ((x0_20 * 7) + 6) < 112 then (stI (w2 I0_20 7 ((x0_20 * 7) + 6) 0) (fun I_50 => (stI (bO i5 (bL 1 x0_20)) (fun v_58 => (if -2147483648 ≤ i6 + 1 ∧ i6 + 1 ≤ 2147483647 then (kf_170 n dp e 1 I_50 L0_20 i1 i2 i3 i4 v_58 (i6 + 1)) else none))))) else none) else none)))) else none) else none))
    else none
set_option maxRecDepth 100000 in
theorem ke_170_0 (n : Nat) (dp : Nat) (e : EN) (I : JI) (L : JI) (i1 : Int) (i2 : Int) (i3 : Int) (i4 : Int) (i5 : Int) (i6 : Int) : kf_170 (n + 1) dp e 0 I L i1 i2 i3 i4 i5 i6 = (kf_170 n dp e 1 I L i1 i2 i3 i4 0 0) := by rw [kf_170.eq_2, if_pos (show (0 : Nat) = 0 from rfl)]
set_option maxRecDepth 100000 in
theorem ke_170_1 (n : Nat) (dp : Nat) (e : EN) (I : JI) (L : JI) (i1 : Int) (i2 : Int) (i3 : Int) (i4 : Int) (i5 : Int) (i6 : Int) : kf_170 (n + 1) dp e 1 I L i1 i2 i3 i4 i5 i6 = (if i1 ≤ i6 then (some ((i5 : Int), I, L)) else (if 1 ≤ dp then (if (-2147483648 ≤ i2 - i4 ∧ i2 - i4 ≤ 2147483647) ∧ (-2147483648 ≤ i2 - i3 ∧ i2 - i3 ≤ 2147483647) then ((kf_171 n (dp - 1) e 0 I L (i2 - i4) (i2 - i3) 0 0 0 0).bind (fun ⟨x0_20, I0_20, L0_20⟩ => (if x0_20 = (-1) then (some ((i5 : Int), I0_20, L0_20)) else (if (-2147483648 ≤ x0_20 * 7 ∧ x0_20 * 7 ≤ 2147483647) ∧ (-2147483648 ≤ (x0_20 * 7) + 6 ∧ (x0_20 * 7) + 6 ≤ 2147483647) then (if 0 ≤ ((x0_20 * 7) + 6) ∧ ((x0_20 * 7) + 6) < 112 then (stI (w2 I0_20 7 ((x0_20 * 7) + 6) 0) (fun I_50 => (stI (bO i5 (bL 1 x0_20)) (fun v_58 => (if -2147483648 ≤ i6 + 1 ∧ i6 + 1 ≤ 2147483647 then (kf_170 n dp e 1 I_50 L0_20 i1 i2 i3 i4 v_58 (i6 + 1)) else none))))) else none) else none)))) else none) else none)) := by rw [kf_170.eq_2, if_neg (show ¬ ((1 : Nat) = 0) by decide), if_pos (show (1 : Nat) = 1 from rfl)]
set_option maxHeartbeats 8000000 in
set_option maxRecDepth 100000 in
theorem ks_170 : ∀ (n : Nat) (dp : Nat) (e : EN) (lab : Nat) (I : Nat → Nat → Int32) (I' : JI) (L : Nat → Nat → Int64) (L' : JI) (i1 : Int32) (i1' : Int) (i2 : Int32) (i2' : Int) (i3 : Int32) (i3' : Int) (i4 : Int32) (i4' : Int) (i5 : Int32) (i5' : Int) (i6 : Int32) (i6' : Int), Rli I I' → Rll L L' → Ui i1 i1' → Ui i2 i2' → Ui i3 i3' → Ui i4 i4' → Ui i5 i5' → Ui i6 i6' → Sim R3 (g_170 n dp e lab I L i1 i2 i3 i4 i5 i6) (kf_170 n dp e lab I' L' i1' i2' i3' i4' i5' i6') := by
  intro n
  induction n with
  | zero => intros; rw [kf_170.eq_1]; exact Sn
  | succ n ih =>
    intro dp e lab I I' L L' i1 i1' i2 i2' i3 i3' i4 i4' i5 i5' i6 i6' u_I u_L u_i1 u_i2 u_i3 u_i4 u_i5 u_i6
    rw [g_170.eq_2, kf_170.eq_2]
    refine Sc Iff.rfl (fun _ => ?_) (fun _ => ?_)
    · exact (ih dp e 1 _ _ _ _ _ _ _ _ _ _ _ _ _ _ _ _ u_I u_L u_i1 u_i2 u_i3 u_i4 (rfl : Ui (0) (0)) (rfl : Ui (0) (0)))
    refine Sc Iff.rfl (fun _ => ?_) (fun _ => ?_)
    · refine Sc (le_up u_i1 u_i6) (fun c1 => ?_) (fun c1 => ?_)
      · exact Sr ⟨u_i5, u_I, u_L⟩
      · refine Sc Iff.rfl (fun c2 => ?_) (fun _ => Sn)
        refine Sg (fun g3 => ?_)
        refine Sb3 (ks_171 n (dp - 1) e 0 _ _ _ _ _ _ _ _ _ _ _ _ _ _ _ _ u_I u_L (ui_sub u_i2 u_i4 g3.1) (ui_sub u_i2 u_i3 g3.2) (rfl : Ui 0 0) (rfl : Ui 0 0) (rfl : Ui 0 0) (rfl : Ui 0 0)) (fun x0_20 x0_20' I0_20 I0_20' L0_20 L0_20' u_x0_20 u_I0_20 u_L0_20 => ?_)
        refine Sc (eq_up u_x0_20 (rfl : Ui (-1) (-1))) (fun c4 => ?_) (fun c4 => ?_)
        · exact Sr ⟨u_i5, u_I0_20, u_L0_20⟩
        · refine Sg (fun g5 => ?_)
          refine Sc (ix_up (ui_add (ui_mul u_x0_20 (rfl : Ui (7) (7)) g5.1) (rfl : Ui (6) (6)) g5.2)) (fun c6 => ?_) (fun _ => Sn)
          refine SsJ (ri_up u_I0_20 (kc_up (ui_add (ui_mul u_x0_20 (rfl : Ui (7) (7)) g5.1) (rfl : Ui (6) (6)) g5.2) c6.1) (rfl : Ui (0) (0))) (fun I_50 I_50' u_I_50 => ?_)
          refine SsI (ui_or u_i5 (ui_shl (rfl : Ui (1) (1)) u_x0_20)) (fun v_58 v_58' u_v_58 => ?_)
          refine Sg (fun g7 => ?_)
          exact (ih dp e 1 _ _ _ _ _ _ _ _ _ _ _ _ _ _ _ _ u_I_50 u_L0_20 u_i1 u_i2 u_i3 u_i4 u_v_58 (ui_add u_i6 (rfl : Ui (Int32.ofInt (1)) (1)) g7))
    exact Sn
set_option maxHeartbeats 4000000 in
set_option maxRecDepth 100000 in
def kf_169 : Nat → Nat → EN → Nat → JI → JI → Int → Int → Int → Int → Option (Int × JI × JI)
  | 0, _, _, _, _, _, _, _, _, _ => none
  | n + 1, dp, e, lab, I, L, i1, i2, i3, i4 =>
    if lab = 0 then (if 1 ≤ dp then ((kf_14 n (dp - 1) e 0 I L i1 1 16).bind (fun ⟨x0_4, I0_4, L0_4⟩ => (if x0_4 = 0 then (if 1 ≤ dp then ((kf_15 n (dp - 1) e 0 I0_4 L0_4 (-1)).bind (fun ⟨x1_43, I1_43, L1_43⟩ => (some ((x1_43 : Int), I1_43, L1_43)))) else none) else (if 1 ≤ dp then ((kf_14 n (dp - 1) e 0 I0_4 L0_4 i2 0 99).bind (fun ⟨x1_14, I1_14, L1_14⟩ => (if x1_14 = 0 then (if 1 ≤ dp then ((kf_15 n (dp - 1) e 0 I1_14 L1_14 (-1)).bind (fun ⟨x2_43, I2_43, L2_43⟩ => (some ((x2_43 : Int), I2_43, L2_43)))) else none) else (if 1 ≤ dp then ((kf_14 n (dp - 1) e 0 I1_14 L1_14 i3 0 99).bind (fun ⟨x2_24, I2_24, L2_24⟩ => (if x2_24 = 0 then (if 1 ≤ dp then ((kf_15 n (dp - 1) e 0 I2_24 L2_24 (-1)).bind (fun ⟨x3_43, I3_43, L3_43⟩ => (some ((x3_43 : Int), I3_43, L3_43)))) else none) else (if 1 ≤ dp then ((kf_14 n (dp - 1) e 0 I2_24 L2_24 i4 0 99).bind (fun ⟨x3_35, I3_35, L3_35⟩ => (if x3_35 = 0 then (if 1 ≤ dp then ((kf_15 n (dp - 1) e 0 I3_35 L3_35 (-1)).bind (fun ⟨x4_43, I4_43, L4_43⟩ => (some ((x4_43 : Int), I4_43, L4_43)))) else none) else (if 1 ≤ dp then ((kf_157 n (dp - 1) e 0 I3_35 L3_35).bind (fun ⟨I4_51, L4_51⟩ => (if 1 ≤ dp then ((kf_170 n (dp - 1) e 0 I4_51 L4_51 i1 i2 i3 i4 0 0).bind (fun ⟨x5_64, I5_64, L5_64⟩ => (if 1 ≤ dp then ((kf_19 n (dp - 1) e 0 I5_64 L5_64 x5_64).bind (fun ⟨x6_67, I6_67, L6_67⟩ => (some ((x6_67 : Int), I6_67, L6_67)))) else none))) else none))) else none)))) else none)))) else none)))) else none)))) else none)
    else none
set_option maxRecDepth 100000 in
theorem ke_169_0 (n : Nat) (dp : Nat) (e : EN) (I : JI) (L : JI) (i1 : Int) (i2 : Int) (i3 : Int) (i4 : Int) : kf_169 (n + 1) dp e 0 I L i1 i2 i3 i4 = (if 1 ≤ dp then ((kf_14 n (dp - 1) e 0 I L i1 1 16).bind (fun ⟨x0_4, I0_4, L0_4⟩ => (if x0_4 = 0 then (if 1 ≤ dp then ((kf_15 n (dp - 1) e 0 I0_4 L0_4 (-1)).bind (fun ⟨x1_43, I1_43, L1_43⟩ => (some ((x1_43 : Int), I1_43, L1_43)))) else none) else (if 1 ≤ dp then ((kf_14 n (dp - 1) e 0 I0_4 L0_4 i2 0 99).bind (fun ⟨x1_14, I1_14, L1_14⟩ => (if x1_14 = 0 then (if 1 ≤ dp then ((kf_15 n (dp - 1) e 0 I1_14 L1_14 (-1)).bind (fun ⟨x2_43, I2_43, L2_43⟩ => (some ((x2_43 : Int), I2_43, L2_43)))) else none) else (if 1 ≤ dp then ((kf_14 n (dp - 1) e 0 I1_14 L1_14 i3 0 99).bind (fun ⟨x2_24, I2_24, L2_24⟩ => (if x2_24 = 0 then (if 1 ≤ dp then ((kf_15 n (dp - 1) e 0 I2_24 L2_24 (-1)).bind (fun ⟨x3_43, I3_43, L3_43⟩ => (some ((x3_43 : Int), I3_43, L3_43)))) else none) else (if 1 ≤ dp then ((kf_14 n (dp - 1) e 0 I2_24 L2_24 i4 0 99).bind (fun ⟨x3_35, I3_35, L3_35⟩ => (if x3_35 = 0 then (if 1 ≤ dp then ((kf_15 n (dp - 1) e 0 I3_35 L3_35 (-1)).bind (fun ⟨x4_43, I4_43, L4_43⟩ => (some ((x4_43 : Int), I4_43, L4_43)))) else none) else (if 1 ≤ dp then ((kf_157 n (dp - 1) e 0 I3_35 L3_35).bind (fun ⟨I4_51, L4_51⟩ => (if 1 ≤ dp then ((kf_170 n (dp - 1) e 0 I4_51 L4_51 i1 i2 i3 i4 0 0).bind (fun ⟨x5_64, I5_64, L5_64⟩ => (if 1 ≤ dp then ((kf_19 n (dp - 1) e 0 I5_64 L5_64 x5_64).bind (fun ⟨x6_67, I6_67, L6_67⟩ => (some ((x6_67 : Int), I6_67, L6_67)))) else none))) else none))) else none)))) else none)))) else none)))) else none)))) else none) := by rw [kf_169.eq_2, if_pos (show (0 : Nat) = 0 from rfl)]
set_option maxHeartbeats 8000000 in
set_option maxRecDepth 100000 in
theorem ks_169 : ∀ (n : Nat) (dp : Nat) (e : EN) (lab : Nat) (I : Nat → Nat → Int32) (I' : JI) (L : Nat → Nat → Int64) (L' : JI) (i1 : Int32) (i1' : Int) (i2 : Int32) (i2' : Int) (i3 : Int32) (i3' : Int) (i4 : Int32) (i4' : Int), Rli I I' → Rll L L' → Ui i1 i1' → Ui i2 i2' → Ui i3 i3' → Ui i4 i4' → Sim R3 (g_169 n dp e lab I L i1 i2 i3 i4) (kf_169 n dp e lab I' L' i1' i2' i3' i4') := by
  intro n
  induction n with
  | zero => intros; rw [kf_169.eq_1]; exact Sn
  | succ n ih =>
    intro dp e lab I I' L L' i1 i1' i2 i2' i3 i3' i4 i4' u_I u_L u_i1 u_i2 u_i3 u_i4
    rw [g_169.eq_2, kf_169.eq_2]
    refine Sc Iff.rfl (fun _ => ?_) (fun _ => ?_)
    · refine Sc Iff.rfl (fun c1 => ?_) (fun _ => Sn)
      refine Sb3 (ks_14 n (dp - 1) e 0 _ _ _ _ _ _ _ _ _ _ u_I u_L u_i1 (rfl : Ui (1) (1)) (rfl : Ui (16) (16))) (fun x0_4 x0_4' I0_4 I0_4' L0_4 L0_4' u_x0_4 u_I0_4 u_L0_4 => ?_)
      refine Sc (eq_up u_x0_4 (rfl : Ui 0 0)) (fun c2 => ?_) (fun c2 => ?_)
      · refine Sc Iff.rfl (fun c3 => ?_) (fun _ => Sn)
        refine Sb3 (ks_15 n (dp - 1) e 0 _ _ _ _ _ _ u_I0_4 u_L0_4 (rfl : Ui (-1) (-1))) (fun x1_43 x1_43' I1_43 I1_43' L1_43 L1_43' u_x1_43 u_I1_43 u_L1_43 => ?_)
        exact Sr ⟨u_x1_43, u_I1_43, u_L1_43⟩
      · refine Sc Iff.rfl (fun c4 => ?_) (fun _ => Sn)
        refine Sb3 (ks_14 n (dp - 1) e 0 _ _ _ _ _ _ _ _ _ _ u_I0_4 u_L0_4 u_i2 (rfl : Ui (0) (0)) (rfl : Ui (99) (99))) (fun x1_14 x1_14' I1_14 I1_14' L1_14 L1_14' u_x1_14 u_I1_14 u_L1_14 => ?_)
        refine Sc (eq_up u_x1_14 (rfl : Ui 0 0)) (fun c5 => ?_) (fun c5 => ?_)
        · refine Sc Iff.rfl (fun c6 => ?_) (fun _ => Sn)
          refine Sb3 (ks_15 n (dp - 1) e 0 _ _ _ _ _ _ u_I1_14 u_L1_14 (rfl : Ui (-1) (-1))) (fun x2_43 x2_43' I2_43 I2_43' L2_43 L2_43' u_x2_43 u_I2_43 u_L2_43 => ?_)
          exact Sr ⟨u_x2_43, u_I2_43, u_L2_43⟩
        · refine Sc Iff.rfl (fun c7 => ?_) (fun _ => Sn)
          refine Sb3 (ks_14 n (dp - 1) e 0 _ _ _ _ _ _ _ _ _ _ u_I1_14 u_L1_14 u_i3 (rfl : Ui (0) (0)) (rfl : Ui (99) (99))) (fun x2_24 x2_24' I2_24 I2_24' L2_24 L2_24' u_x2_24 u_I2_24 u_L2_24 => ?_)
          refine Sc (eq_up u_x2_24 (rfl : Ui 0 0)) (fun c8 => ?_) (fun c8 => ?_)
          · refine Sc Iff.rfl (fun c9 => ?_) (fun _ => Sn)
            refine Sb3 (ks_15 n (dp - 1) e 0 _ _ _ _ _ _ u_I2_24 u_L2_24 (rfl : Ui (-1) (-1))) (fun x3_43 x3_43' I3_43 I3_43' L3_43 L3_43' u_x3_43 u_I3_43 u_L3_43 => ?_)
            exact Sr ⟨u_x3_43, u_I3_43, u_L3_43⟩
          · refine Sc Iff.rfl (fun c10 => ?_) (fun _ => Sn)
            refine Sb3 (ks_14 n (dp - 1) e 0 _ _ _ _ _ _ _ _ _ _ u_I2_24 u_L2_24 u_i4 (rfl : Ui (0) (0)) (rfl : Ui (99) (99))) (fun x3_35 x3_35' I3_35 I3_35' L3_35 L3_35' u_x3_35 u_I3_35 u_L3_35 => ?_)
            refine Sc (eq_up u_x3_35 (rfl : Ui 0 0)) (fun c11 => ?_) (fun c11 => ?_)
            · refine Sc Iff.rfl (fun c12 => ?_) (fun _ => Sn)
              refine Sb3 (ks_15 n (dp - 1) e 0 _ _ _ _ _ _ u_I3_35 u_L3_35 (rfl : Ui (-1) (-1))) (fun x4_43 x4_43' I4_43 I4_43' L4_43 L4_43' u_x4_43 u_I4_43 u_L4_43 => ?_)
              exact Sr ⟨u_x4_43, u_I4_43, u_L4_43⟩
            · refine Sc Iff.rfl (fun c13 => ?_) (fun _ => Sn)
              refine Sb2 (ks_157 n (dp - 1) e 0 _ _ _ _ u_I3_35 u_L3_35) (fun I4_51 I4_51' L4_51 L4_51' u_I4_51 u_L4_51 => ?_)
              refine Sc Iff.rfl (fun c14 => ?_) (fun _ => Sn)
              refine Sb3 (ks_170 n (dp - 1) e 0 _ _ _ _ _ _ _ _ _ _ _ _ _ _ _ _ u_I4_51 u_L4_51 u_i1 u_i2 u_i3 u_i4 (rfl : Ui 0 0) (rfl : Ui 0 0)) (fun x5_64 x5_64' I5_64 I5_64' L5_64 L5_64' u_x5_64 u_I5_64 u_L5_64 => ?_)
              refine Sc Iff.rfl (fun c15 => ?_) (fun _ => Sn)
              refine Sb3 (ks_19 n (dp - 1) e 0 _ _ _ _ _ _ u_I5_64 u_L5_64 u_x5_64) (fun x6_67 x6_67' I6_67 I6_67' L6_67 L6_67' u_x6_67 u_I6_67 u_L6_67 => ?_)
              exact Sr ⟨u_x6_67, u_I6_67, u_L6_67⟩
    exact Sn
set_option maxHeartbeats 4000000 in
set_option maxRecDepth 100000 in
def kf_172 : Nat → Nat → EN → Nat → JI → JI → Int → Option (Int × JI × JI)
  | 0, _, _, _, _, _, _ => none
  | n + 1, dp, e, lab, I, L, i1 =>
    if lab = 0 then (if 1 ≤ dp then (if -2147483648 ≤ (I 1 9) - 1 ∧ (I 1 9) - 1 ≤ 2147483647 then ((kf_14 n (dp - 1) e 0 I L i1 0 ((I 1 9) - 1)).bind (fun ⟨x0_11, I0_11, L0_11⟩ => (if x0_11 = 0 then (if 1 ≤ dp then ((kf_15 n (dp - 1) e 0 I0_11 L0_11 (-2)).bind (fun ⟨x1_20, I1_20, L1_20⟩ => (some ((x1_20 : Int), I1_20, L1_20)))) else none) else (if (-2147483648 ≤ i1 * 7 ∧ i1 * 7 ≤ 2147483647) ∧ (-2147483648 ≤ (i1 * 7) + 6 ∧ (i1 * 7) + 6 ≤ 2147483647) then (stI ((i1 * 7) + 6) (fun v_31 => (if 0 ≤ v_31 ∧ v_31 < 112 then (if (I0_11 7 v_31) = 1 then (if 1 ≤ dp then ((kf_15 n (dp - 1) e 0 I0_11 L0_11 (-3)).bind (fun ⟨x1_48, I1_48, L1_48⟩ => (some ((x1_48 : Int), I1_48, L1_48)))) else none) else (if 0 ≤ v_31 ∧ v_31 < 112 then (stI (w2 I0_11 7 v_31 1) (fun I_61 => (if 1 ≤ dp then ((kf_157 n (dp - 1) e 0 I_61 L0_11).bind (fun ⟨I1_66, L1_66⟩ => (if 1 ≤ dp then ((kf_19 n (dp - 1) e 0 I1_66 L1_66 0).bind (fun ⟨x2_71, I2_71, L2_71⟩ => (some ((x2_71 : Int), I2_71, L2_71)))) else none))) else none))) else none)) else none))) else none)))) else none) else none)
    else none
set_option maxRecDepth 100000 in
theorem ke_172_0 (n : Nat) (dp : Nat) (e : EN) (I : JI) (L : JI) (i1 : Int) : kf_172 (n + 1) dp e 0 I L i1 = (if 1 ≤ dp then (if -2147483648 ≤ (I 1 9) - 1 ∧ (I 1 9) - 1 ≤ 2147483647 then ((kf_14 n (dp - 1) e 0 I L i1 0 ((I 1 9) - 1)).bind (fun ⟨x0_11, I0_11, L0_11⟩ => (if x0_11 = 0 then (if 1 ≤ dp then ((kf_15 n (dp - 1) e 0 I0_11 L0_11 (-2)).bind (fun ⟨x1_20, I1_20, L1_20⟩ => (some ((x1_20 : Int), I1_20, L1_20)))) else none) else (if (-2147483648 ≤ i1 * 7 ∧ i1 * 7 ≤ 2147483647) ∧ (-2147483648 ≤ (i1 * 7) + 6 ∧ (i1 * 7) + 6 ≤ 2147483647) then (stI ((i1 * 7) + 6) (fun v_31 => (if 0 ≤ v_31 ∧ v_31 < 112 then (if (I0_11 7 v_31) = 1 then (if 1 ≤ dp then ((kf_15 n (dp - 1) e 0 I0_11 L0_11 (-3)).bind (fun ⟨x1_48, I1_48, L1_48⟩ => (some ((x1_48 : Int), I1_48, L1_48)))) else none) else (if 0 ≤ v_31 ∧ v_31 < 112 then (stI (w2 I0_11 7 v_31 1) (fun I_61 => (if 1 ≤ dp then ((kf_157 n (dp - 1) e 0 I_61 L0_11).bind (fun ⟨I1_66, L1_66⟩ => (if 1 ≤ dp then ((kf_19 n (dp - 1) e 0 I1_66 L1_66 0).bind (fun ⟨x2_71, I2_71, L2_71⟩ => (some ((x2_71 : Int), I2_71, L2_71)))) else none))) else none))) else none)) else none))) else none)))) else none) else none) := by rw [kf_172.eq_2, if_pos (show (0 : Nat) = 0 from rfl)]
set_option maxHeartbeats 8000000 in
set_option maxRecDepth 100000 in
theorem ks_172 : ∀ (n : Nat) (dp : Nat) (e : EN) (lab : Nat) (I : Nat → Nat → Int32) (I' : JI) (L : Nat → Nat → Int64) (L' : JI) (i1 : Int32) (i1' : Int), Rli I I' → Rll L L' → Ui i1 i1' → Sim R3 (g_172 n dp e lab I L i1) (kf_172 n dp e lab I' L' i1') := by
  intro n
  induction n with
  | zero => intros; rw [kf_172.eq_1]; exact Sn
  | succ n ih =>
    intro dp e lab I I' L L' i1 i1' u_I u_L u_i1
    rw [g_172.eq_2, kf_172.eq_2]
    refine Sc Iff.rfl (fun _ => ?_) (fun _ => ?_)
    · refine Sc Iff.rfl (fun c1 => ?_) (fun _ => Sn)
      refine Sg (fun g2 => ?_)
      refine Sb3 (ks_14 n (dp - 1) e 0 _ _ _ _ _ _ _ _ _ _ u_I u_L u_i1 (rfl : Ui (0) (0)) (ui_sub (u_I 1 9) (rfl : Ui (1) (1)) g2)) (fun x0_11 x0_11' I0_11 I0_11' L0_11 L0_11' u_x0_11 u_I0_11 u_L0_11 => ?_)
      refine Sc (eq_up u_x0_11 (rfl : Ui 0 0)) (fun c3 => ?_) (fun c3 => ?_)
      · refine Sc Iff.rfl (fun c4 => ?_) (fun _ => Sn)
        refine Sb3 (ks_15 n (dp - 1) e 0 _ _ _ _ _ _ u_I0_11 u_L0_11 (rfl : Ui (-2) (-2))) (fun x1_20 x1_20' I1_20 I1_20' L1_20 L1_20' u_x1_20 u_I1_20 u_L1_20 => ?_)
        exact Sr ⟨u_x1_20, u_I1_20, u_L1_20⟩
      · refine Sg (fun g5 => ?_)
        refine SsI (ui_add (ui_mul u_i1 (rfl : Ui (7) (7)) g5.1) (rfl : Ui (6) (6)) g5.2) (fun v_31 v_31' u_v_31 => ?_)
        refine Sc (ix_up u_v_31) (fun c6 => ?_) (fun _ => Sn)
        refine Sc (eq_up (ui_rd (a := 7) u_I0_11 u_v_31 c6.1) (rfl : Ui (1) (1))) (fun c7 => ?_) (fun c7 => ?_)
        · refine Sc Iff.rfl (fun c8 => ?_) (fun _ => Sn)
          refine Sb3 (ks_15 n (dp - 1) e 0 _ _ _ _ _ _ u_I0_11 u_L0_11 (rfl : Ui (-3) (-3))) (fun x1_48 x1_48' I1_48 I1_48' L1_48 L1_48' u_x1_48 u_I1_48 u_L1_48 => ?_)
          exact Sr ⟨u_x1_48, u_I1_48, u_L1_48⟩
        · refine Sc (ix_up u_v_31) (fun c9 => ?_) (fun _ => Sn)
          refine SsJ (ri_up u_I0_11 (kc_up u_v_31 c9.1) (rfl : Ui (1) (1))) (fun I_61 I_61' u_I_61 => ?_)
          refine Sc Iff.rfl (fun c10 => ?_) (fun _ => Sn)
          refine Sb2 (ks_157 n (dp - 1) e 0 _ _ _ _ u_I_61 u_L0_11) (fun I1_66 I1_66' L1_66 L1_66' u_I1_66 u_L1_66 => ?_)
          refine Sc Iff.rfl (fun c11 => ?_) (fun _ => Sn)
          refine Sb3 (ks_19 n (dp - 1) e 0 _ _ _ _ _ _ u_I1_66 u_L1_66 (rfl : Ui (0) (0))) (fun x2_71 x2_71' I2_71 I2_71' L2_71 L2_71' u_x2_71 u_I2_71 u_L2_71 => ?_)
          exact Sr ⟨u_x2_71, u_I2_71, u_L2_71⟩
    exact Sn
set_option maxHeartbeats 4000000 in
set_option maxRecDepth 100000 in
def kf_177 : Nat → Nat → EN → Nat → JI → JI → Int → Int → Option (Int × JI × JI)
  | 0, _, _, _, _, _, _, _ => none
  | n + 1, dp, e, lab, I, L, i1, i2 =>
    if lab = 0 then (if -2147483648 ≤ i1 + 5 ∧ i1 + 5 ≤ 2147483647 then (if 0 ≤ (i1 + 5) ∧ (i1 + 5) < 112 then (if -2147483648 ≤ i2 + 5 ∧ i2 + 5 ≤ 2147483647 then (if 0 ≤ (i2 + 5) ∧ (i2 + 5) < 112 then (if (bA (I 7 (i1 + 5)) (I 7 (i2 + 5))) = 0 then (if -2147483648 ≤ i1 + 2 ∧ i1 + 2 ≤ 2147483647 then (if 0 ≤ (i1 + 2) ∧ (i1 + 2) < 112 then (if -2147483648 ≤ i2 + 2 ∧ i2 + 2 ≤ 2147483647 then (if 0 ≤ (i2 + 2) ∧ (i2 + 2) < 112 then (if (I 7 (i1 + 2)) = (I 7 (i2 + 2)) then (if -2147483648 ≤ i1 + 3 ∧ i1 + 3 ≤ 2147483647 then (if 0 ≤ (i1 + 3) ∧ (i1 + 3) < 112 then (if -2147483648 ≤ i2 + 3 ∧ i2 + 3 ≤ 2147483647 then (if 0 ≤ (i2 + 3) ∧ (i2 + 3) < 112 then (if (I 7 (i1 + 3)) = (I 7 (i2 + 3)) then (if -2147483648 ≤ i1 + 4 ∧ i1 + 4 ≤ 2147483647 then (if 0 ≤ (i1 + 4) ∧ (i1 + 4) < 112 then (if -2147483648 ≤ i2 + 4 ∧ i2 + 4 ≤ 2147483647 then (if 0 ≤ (i2 + 4) ∧ (i2 + 4) < 112 then (if (I 7 (i1 + 4)) = (I 7 (i2 + 4)) then (some ((1 : Int), I, L)) else (some ((0 : Int), I, L))) else none) else none) else none) else none) else (some ((0 : Int), I, L))) else none) else none) else none) else none) else (some ((0 : Int), I, L))) else none) else none) else none) else none) else (some ((1 : Int), I, L))) else none) else none) else none) else none)
    else none
set_option maxRecDepth 100000 in
theorem ke_177_0 (n : Nat) (dp : Nat) (e : EN) (I : JI) (L : JI) (i1 : Int) (i2 : Int) : kf_177 (n + 1) dp e 0 I L i1 i2 = (if -2147483648 ≤ i1 + 5 ∧ i1 + 5 ≤ 2147483647 then (if 0 ≤ (i1 + 5) ∧ (i1 + 5) < 112 then (if -2147483648 ≤ i2 + 5 ∧ i2 + 5 ≤ 2147483647 then (if 0 ≤ (i2 + 5) ∧ (i2 + 5) < 112 then (if (bA (I 7 (i1 + 5)) (I 7 (i2 + 5))) = 0 then (if -2147483648 ≤ i1 + 2 ∧ i1 + 2 ≤ 2147483647 then (if 0 ≤ (i1 + 2) ∧ (i1 + 2) < 112 then (if -2147483648 ≤ i2 + 2 ∧ i2 + 2 ≤ 2147483647 then (if 0 ≤ (i2 + 2) ∧ (i2 + 2) < 112 then (if (I 7 (i1 + 2)) = (I 7 (i2 + 2)) then (if -2147483648 ≤ i1 + 3 ∧ i1 + 3 ≤ 2147483647 then (if 0 ≤ (i1 + 3) ∧ (i1 + 3) < 112 then (if -2147483648 ≤ i2 + 3 ∧ i2 + 3 ≤ 2147483647 then (if 0 ≤ (i2 + 3) ∧ (i2 + 3) < 112 then (if (I 7 (i1 + 3)) = (I 7 (i2 + 3)) then (if -2147483648 ≤ i1 + 4 ∧ i1 + 4 ≤ 2147483647 then (if 0 ≤ (i1 + 4) ∧ (i1 + 4) < 112 then (if -2147483648 ≤ i2 + 4 ∧ i2 + 4 ≤ 2147483647 then (if 0 ≤ (i2 + 4) ∧ (i2 + 4) < 112 then (if (I 7 (i1 + 4)) = (I 7 (i2 + 4)) then (some ((1 : Int), I, L)) else (some ((0 : Int), I, L))) else none) else none) else none) else none) else (some ((0 : Int), I, L))) else none) else none) else none) else none) else (some ((0 : Int), I, L))) else none) else none) else none) else none) else (some ((1 : Int), I, L))) else none) else none) else none) else none) := by rw [kf_177.eq_2, if_pos (show (0 : Nat) = 0 from rfl)]
set_option maxHeartbeats 8000000 in
set_option maxRecDepth 100000 in
theorem ks_177 : ∀ (n : Nat) (dp : Nat) (e : EN) (lab : Nat) (I : Nat → Nat → Int32) (I' : JI) (L : Nat → Nat → Int64) (L' : JI) (i1 : Int32) (i1' : Int) (i2 : Int32) (i2' : Int), Rli I I' → Rll L L' → Ui i1 i1' → Ui i2 i2' → Sim R3 (g_177 n dp e lab I L i1 i2) (kf_177 n dp e lab I' L' i1' i2') := by
  intro n
  induction n with
  | zero => intros; rw [kf_177.eq_1]; exact Sn
  | succ n ih =>
    intro dp e lab I I' L L' i1 i1' i2 i2' u_I u_L u_i1 u_i2
    rw [g_177.eq_2, kf_177.eq_2]
    refine Sc Iff.rfl (fun _ => ?_) (fun _ => ?_)
    · refine Sg (fun g1 => ?_)
      refine Sc (ix_up (ui_add u_i1 (rfl : Ui (5) (5)) g1)) (fun c2 => ?_) (fun _ => Sn)
      refine Sg (fun g3 => ?_)
      refine Sc (ix_up (ui_add u_i2 (rfl : Ui (5) (5)) g3)) (fun c4 => ?_) (fun _ => Sn)
      refine Sc (eq_up (ui_and (ui_rd (a := 7) u_I (ui_add u_i1 (rfl : Ui (5) (5)) g1) c2.1) (ui_rd (a := 7) u_I (ui_add u_i2 (rfl : Ui (5) (5)) g3) c4.1)) (rfl : Ui 0 0)) (fun c5 => ?_) (fun c5 => ?_)
      · refine Sg (fun g6 => ?_)
        refine Sc (ix_up (ui_add u_i1 (rfl : Ui (2) (2)) g6)) (fun c7 => ?_) (fun _ => Sn)
        refine Sg (fun g8 => ?_)
        refine Sc (ix_up (ui_add u_i2 (rfl : Ui (2) (2)) g8)) (fun c9 => ?_) (fun _ => Sn)
        refine Sc (eq_up (ui_rd (a := 7) u_I (ui_add u_i1 (rfl : Ui (2) (2)) g6) c7.1) (ui_rd (a := 7) u_I (ui_add u_i2 (rfl : Ui (2) (2)) g8) c9.1)) (fun c10 => ?_) (fun c10 => ?_)
        · refine Sg (fun g11 => ?_)
          refine Sc (ix_up (ui_add u_i1 (rfl : Ui (3) (3)) g11)) (fun c12 => ?_) (fun _ => Sn)
          refine Sg (fun g13 => ?_)
          refine Sc (ix_up (ui_add u_i2 (rfl : Ui (3) (3)) g13)) (fun c14 => ?_) (fun _ => Sn)
          refine Sc (eq_up (ui_rd (a := 7) u_I (ui_add u_i1 (rfl : Ui (3) (3)) g11) c12.1) (ui_rd (a := 7) u_I (ui_add u_i2 (rfl : Ui (3) (3)) g13) c14.1)) (fun c15 => ?_) (fun c15 => ?_)
          · refine Sg (fun g16 => ?_)
            refine Sc (ix_up (ui_add u_i1 (rfl : Ui (4) (4)) g16)) (fun c17 => ?_) (fun _ => Sn)
            refine Sg (fun g18 => ?_)
            refine Sc (ix_up (ui_add u_i2 (rfl : Ui (4) (4)) g18)) (fun c19 => ?_) (fun _ => Sn)
            refine Sc (eq_up (ui_rd (a := 7) u_I (ui_add u_i1 (rfl : Ui (4) (4)) g16) c17.1) (ui_rd (a := 7) u_I (ui_add u_i2 (rfl : Ui (4) (4)) g18) c19.1)) (fun c20 => ?_) (fun c20 => ?_)
            · exact Sr ⟨(rfl : Ui (1) (1)), u_I, u_L⟩
            · exact Sr ⟨(rfl : Ui (0) (0)), u_I, u_L⟩
          · exact Sr ⟨(rfl : Ui (0) (0)), u_I, u_L⟩
        · exact Sr ⟨(rfl : Ui (0) (0)), u_I, u_L⟩
      · exact Sr ⟨(rfl : Ui (1) (1)), u_I, u_L⟩
    exact Sn
set_option maxHeartbeats 4000000 in
set_option maxRecDepth 100000 in
def kf_176 : Nat → Nat → EN → Nat → JI → JI → Int → Int → Int → Option (Int × JI × JI)
  | 0, _, _, _, _, _, _, _, _ => none
  | n + 1, dp, e, lab, I, L, i1, i2, i3 =>
    if lab = 0 then (kf_176 n dp e 1 I L i1 i2 0)
    else if lab = 1 then (if (I 1 9) ≤ i3 then (some ((0 : Int), I, L)) else (if 0 ≤ i3 ∧ i3 < 16 then (if (I 88 i3) = i2 then (if 1 ≤ dp then (if (-2147483648 ≤ i1 * 7 ∧ i1 * 7 ≤ 2147483647) ∧ (-2147483648 ≤ i3 * 7 ∧ i3 * 7 ≤ 2147483647) then ((kf_177 n (dp - 1) e 0 I L (i1 * 7) (i3 * 7)).bind (fun ⟨x0_32, I0_32, L0_32⟩ => (if x0_32 = 0 then (kf_176 n dp e 2 I0_32 L0_32 i1 i2 i3) else (some ((1 : Int), I0_32, L0_32))))) else none) else none) else (kf_176 n dp e 2 I L i1 i2 i3)) else none))
    else if lab = 2 then (if -2147483648 ≤ i3 + 1 ∧ i3 + 1 ≤ 2147483647 then (kf_176 n dp e 1 I L i1 i2 (i3 + 1)) else none)
    else none
set_option maxRecDepth 100000 in
theorem ke_176_0 (n : Nat) (dp : Nat) (e : EN) (I : JI) (L : JI) (i1 : Int) (i2 : Int) (i3 : Int) : kf_176 (n + 1) dp e 0 I L i1 i2 i3 = (kf_176 n dp e 1 I L i1 i2 0) := by rw [kf_176.eq_2, if_pos (show (0 : Nat) = 0 from rfl)]
set_option maxRecDepth 100000 in
theorem ke_176_1 (n : Nat) (dp : Nat) (e : EN) (I : JI) (L : JI) (i1 : Int) (i2 : Int) (i3 : Int) : kf_176 (n + 1) dp e 1 I L i1 i2 i3 = (if (I 1 9) ≤ i3 then (some ((0 : Int), I, L)) else (if 0 ≤ i3 ∧ i3 < 16 then (if (I 88 i3) = i2 then (if 1 ≤ dp then (if (-2147483648 ≤ i1 * 7 ∧ i1 * 7 ≤ 2147483647) ∧ (-2147483648 ≤ i3 * 7 ∧ i3 * 7 ≤ 2147483647) then ((kf_177 n (dp - 1) e 0 I L (i1 * 7) (i3 * 7)).bind (fun ⟨x0_32, I0_32, L0_32⟩ => (if x0_32 = 0 then (kf_176 n dp e 2 I0_32 L0_32 i1 i2 i3) else (some ((1 : Int), I0_32, L0_32))))) else none) else none) else (kf_176 n dp e 2 I L i1 i2 i3)) else none)) := by rw [kf_176.eq_2, if_neg (show ¬ ((1 : Nat) = 0) by decide), if_pos (show (1 : Nat) = 1 from rfl)]
set_option maxRecDepth 100000 in
theorem ke_176_2 (n : Nat) (dp : Nat) (e : EN) (I : JI) (L : JI) (i1 : Int) (i2 : Int) (i3 : Int) : kf_176 (n + 1) dp e 2 I L i1 i2 i3 = (if -2147483648 ≤ i3 + 1 ∧ i3 + 1 ≤ 2147483647 then (kf_176 n dp e 1 I L i1 i2 (i3 + 1)) else none) := by rw [kf_176.eq_2, if_neg (show ¬ ((2 : Nat) = 0) by decide), if_neg (show ¬ ((2 : Nat) = 1) by decide), if_pos (show (2 : Nat) = 2 from rfl)]
set_option maxHeartbeats 8000000 in
set_option maxRecDepth 100000 in
theorem ks_176 : ∀ (n : Nat) (dp : Nat) (e : EN) (lab : Nat) (I : Nat → Nat → Int32) (I' : JI) (L : Nat → Nat → Int64) (L' : JI) (i1 : Int32) (i1' : Int) (i2 : Int32) (i2' : Int) (i3 : Int32) (i3' : Int), Rli I I' → Rll L L' → Ui i1 i1' → Ui i2 i2' → Ui i3 i3' → Sim R3 (g_176 n dp e lab I L i1 i2 i3) (kf_176 n dp e lab I' L' i1' i2' i3') := by
  intro n
  induction n with
  | zero => intros; rw [kf_176.eq_1]; exact Sn
  | succ n ih =>
    intro dp e lab I I' L L' i1 i1' i2 i2' i3 i3' u_I u_L u_i1 u_i2 u_i3
    rw [g_176.eq_2, kf_176.eq_2]
    refine Sc Iff.rfl (fun _ => ?_) (fun _ => ?_)
    · exact (ih dp e 1 _ _ _ _ _ _ _ _ _ _ u_I u_L u_i1 u_i2 (rfl : Ui (0) (0)))
    refine Sc Iff.rfl (fun _ => ?_) (fun _ => ?_)
    · refine Sc (le_up (u_I 1 9) u_i3) (fun c1 => ?_) (fun c1 => ?_)
      · exact Sr ⟨(rfl : Ui (0) (0)), u_I, u_L⟩
      · refine Sc (ix_up u_i3) (fun c2 => ?_) (fun _ => Sn)
        refine Sc (eq_up (ui_rd (a := 88) u_I u_i3 c2.1) u_i2) (fun c3 => ?_) (fun c3 => ?_)
        · refine Sc Iff.rfl (fun c4 => ?_) (fun _ => Sn)
          refine Sg (fun g5 => ?_)
          refine Sb3 (ks_177 n (dp - 1) e 0 _ _ _ _ _ _ _ _ u_I u_L (ui_mul u_i1 (rfl : Ui (7) (7)) g5.1) (ui_mul u_i3 (rfl : Ui (7) (7)) g5.2)) (fun x0_32 x0_32' I0_32 I0_32' L0_32 L0_32' u_x0_32 u_I0_32 u_L0_32 => ?_)
          refine Sc (eq_up u_x0_32 (rfl : Ui 0 0)) (fun c6 => ?_) (fun c6 => ?_)
          · exact (ih dp e 2 _ _ _ _ _ _ _ _ _ _ u_I0_32 u_L0_32 u_i1 u_i2 u_i3)
          · exact Sr ⟨(rfl : Ui (1) (1)), u_I0_32, u_L0_32⟩
        · exact (ih dp e 2 _ _ _ _ _ _ _ _ _ _ u_I u_L u_i1 u_i2 u_i3)
    refine Sc Iff.rfl (fun _ => ?_) (fun _ => ?_)
    · refine Sg (fun g1 => ?_)
      exact (ih dp e 1 _ _ _ _ _ _ _ _ _ _ u_I u_L u_i1 u_i2 (ui_add u_i3 (rfl : Ui (Int32.ofInt (1)) (1)) g1))
    exact Sn
set_option maxHeartbeats 4000000 in
set_option maxRecDepth 100000 in
def kf_175 : Nat → Nat → EN → Nat → JI → JI → Int → Int → Int → Int → Option (JI × JI)
  | 0, _, _, _, _, _, _, _, _, _ => none
  | n + 1, dp, e, lab, I, L, i1, i2, i3, i4 =>
    if lab = 0 then (kf_175 n dp e 1 I L i1 0 0 0)
    else if lab = 1 then (if (I 1 9) ≤ i2 then (kf_175 n dp e 2 I L i1 1 1 0) else (if (-2147483648 ≤ i2 * 7 ∧ i2 * 7 ≤ 2147483647) ∧ (-2147483648 ≤ (i2 * 7) + 5 ∧ (i2 * 7) + 5 ≤ 2147483647) then (if 0 ≤ ((i2 * 7) + 5) ∧ ((i2 * 7) + 5) < 112 then (if (bA (I 7 ((i2 * 7) + 5)) i1) = 0 then (if 0 ≤ i2 ∧ i2 < 16 then (stI (w2 I 88 i2 (-1)) (fun I_42 => (if -2147483648 ≤ i2 + 1 ∧ i2 + 1 ≤ 2147483647 then (kf_175 n dp e 1 I_42 L i1 (i2 + 1) 0 0) else none))) else none) else (if 0 ≤ i2 ∧ i2 < 16 then (stI (w2 I 88 i2 0) (fun I_42 => (if -2147483648 ≤ i2 + 1 ∧ i2 + 1 ≤ 2147483647 then (kf_175 n dp e 1 I_42 L i1 (i2 + 1) 0 0) else none))) else none)) else none) else none))
    else if lab = 2 then (if 16 ≤ i3 then (some (I, L)) else (if i2 = 0 then (some (I, L)) else (kf_175 n dp e 3 I L i1 0 i3 0)))
    else if lab = 3 then (if (I 1 9) ≤ i4 then (if -2147483648 ≤ i3 + 1 ∧ i3 + 1 ≤ 2147483647 then (kf_175 n dp e 2 I L i1 i2 (i3 + 1) 0) else none) else (if 0 ≤ i4 ∧ i4 < 16 then (if (I 88 i4) = (-1) then (if 1 ≤ dp then (if -2147483648 ≤ i3 - 1 ∧ i3 - 1 ≤ 2147483647 then ((kf_176 n (dp - 1) e 0 I L i4 (i3 - 1) 0).bind (fun ⟨x0_97, I0_97, L0_97⟩ => (if x0_97 = 0 then (kf_175 n dp e 4 I0_97 L0_97 i1 i2 i3 i4) else (if 0 ≤ i4 ∧ i4 < 16 then (stI (w2 I0_97 88 i4 i3) (fun I_110 => (kf_175 n dp e 4 I_110 L0_97 i1 1 i3 i4))) else none)))) else none) else none) else (kf_175 n dp e 4 I L i1 i2 i3 i4)) else none))
    else if lab = 4 then (if -2147483648 ≤ i4 + 1 ∧ i4 + 1 ≤ 2147483647 then (kf_175 n dp e 3 I L i1 i2 i3 (i4 + 1)) else none)
    else none
set_option maxRecDepth 100000 in
theorem ke_175_0 (n : Nat) (dp : Nat) (e : EN) (I : JI) (L : JI) (i1 : Int) (i2 : Int) (i3 : Int) (i4 : Int) : kf_175 (n + 1) dp e 0 I L i1 i2 i3 i4 = (kf_175 n dp e 1 I L i1 0 0 0) := by rw [kf_175.eq_2, if_pos (show (0 : Nat) = 0 from rfl)]
set_option maxRecDepth 100000 in
theorem ke_175_1 (n : Nat) (dp : Nat) (e : EN) (I : JI) (L : JI) (i1 : Int) (i2 : Int) (i3 : Int) (i4 : Int) : kf_175 (n + 1) dp e 1 I L i1 i2 i3 i4 = (if (I 1 9) ≤ i2 then (kf_175 n dp e 2 I L i1 1 1 0) else (if (-2147483648 ≤ i2 * 7 ∧ i2 * 7 ≤ 2147483647) ∧ (-2147483648 ≤ (i2 * 7) + 5 ∧ (i2 * 7) + 5 ≤ 2147483647) then (if 0 ≤ ((i2 * 7) + 5) ∧ ((i2 * 7) + 5) < 112 then (if (bA (I 7 ((i2 * 7) + 5)) i1) = 0 then (if 0 ≤ i2 ∧ i2 < 16 then (stI (w2 I 88 i2 (-1)) (fun I_42 => (if -2147483648 ≤ i2 + 1 ∧ i2 + 1 ≤ 2147483647 then (kf_175 n dp e 1 I_42 L i1 (i2 + 1) 0 0) else none))) else none) else (if 0 ≤ i2 ∧ i2 < 16 then (stI (w2 I 88 i2 0) (fun I_42 => (if -2147483648 ≤ i2 + 1 ∧ i2 + 1 ≤ 2147483647 then (kf_175 n dp e 1 I_42 L i1 (i2 + 1) 0 0) else none))) else none)) else none) else none)) := by rw [kf_175.eq_2, if_neg (show ¬ ((1 : Nat) = 0) by decide), if_pos (show (1 : Nat) = 1 from rfl)]
set_option maxRecDepth 100000 in
theorem ke_175_2 (n : Nat) (dp : Nat) (e : EN) (I : JI) (L : JI) (i1 : Int) (i2 : Int) (i3 : Int) (i4 : Int) : kf_175 (n + 1) dp e 2 I L i1 i2 i3 i4 = (if 16 ≤ i3 then (some (I, L)) else (if i2 = 0 then (some (I, L)) else (kf_175 n dp e 3 I L i1 0 i3 0))) := by rw [kf_175.eq_2, if_neg (show ¬ ((2 : Nat) = 0) by decide), if_neg (show ¬ ((2 : Nat) = 1) by decide), if_pos (show (2 : Nat) = 2 from rfl)]
set_option maxRecDepth 100000 in
theorem ke_175_3 (n : Nat) (dp : Nat) (e : EN) (I : JI) (L : JI) (i1 : Int) (i2 : Int) (i3 : Int) (i4 : Int) : kf_175 (n + 1) dp e 3 I L i1 i2 i3 i4 = (if (I 1 9) ≤ i4 then (if -2147483648 ≤ i3 + 1 ∧ i3 + 1 ≤ 2147483647 then (kf_175 n dp e 2 I L i1 i2 (i3 + 1) 0) else none) else (if 0 ≤ i4 ∧ i4 < 16 then (if (I 88 i4) = (-1) then (if 1 ≤ dp then (if -2147483648 ≤ i3 - 1 ∧ i3 - 1 ≤ 2147483647 then ((kf_176 n (dp - 1) e 0 I L i4 (i3 - 1) 0).bind (fun ⟨x0_97, I0_97, L0_97⟩ => (if x0_97 = 0 then (kf_175 n dp e 4 I0_97 L0_97 i1 i2 i3 i4) else (if 0 ≤ i4 ∧ i4 < 16 then (stI (w2 I0_97 88 i4 i3) (fun I_110 => (kf_175 n dp e 4 I_110 L0_97 i1 1 i3 i4))) else none)))) else none) else none) else (kf_175 n dp e 4 I L i1 i2 i3 i4)) else none)) := by rw [kf_175.eq_2, if_neg (show ¬ ((3 : Nat) = 0) by decide), if_neg (show ¬ ((3 : Nat) = 1) by decide), if_neg (show ¬ ((3 : Nat) = 2) by decide), if_pos (show (3 : Nat) = 3 from rfl)]
set_option maxRecDepth 100000 in
theorem ke_175_4 (n : Nat) (dp : Nat) (e : EN) (I : JI) (L : JI) (i1 : Int) (i2 : Int) (i3 : Int) (i4 : Int) : kf_175 (n + 1) dp e 4 I L i1 i2 i3 i4 = (if -2147483648 ≤ i4 + 1 ∧ i4 + 1 ≤ 2147483647 then (kf_175 n dp e 3 I L i1 i2 i3 (i4 + 1)) else none) := by rw [kf_175.eq_2, if_neg (show ¬ ((4 : Nat) = 0) by decide), if_neg (show ¬ ((4 : Nat) = 1) by decide), if_neg (show ¬ ((4 : Nat) = 2) by decide), if_neg (show ¬ ((4 : Nat) = 3) by decide), if_pos (show (4 : Nat) = 4 from rfl)]
set_option maxHeartbeats 8000000 in
set_option maxRecDepth 100000 in
theorem ks_175 : ∀ (n : Nat) (dp : Nat) (e : EN) (lab : Nat) (I : Nat → Nat → Int32) (I' : JI) (L : Nat → Nat → Int64) (L' : JI) (i1 : Int32) (i1' : Int) (i2 : Int32) (i2' : Int) (i3 : Int32) (i3' : Int) (i4 : Int32) (i4' : Int), Rli I I' → Rll L L' → Ui i1 i1' → Ui i2 i2' → Ui i3 i3' → Ui i4 i4' → Sim R2 (g_175 n dp e lab I L i1 i2 i3 i4) (kf_175 n dp e lab I' L' i1' i2' i3' i4') := by
  intro n
  induction n with
  | zero => intros; rw [kf_175.eq_1]; exact Sn
  | succ n ih =>
    intro dp e lab I I' L L' i1 i1' i2 i2' i3 i3' i4 i4' u_I u_L u_i1 u_i2 u_i3 u_i4
    rw [g_175.eq_2, kf_175.eq_2]
    refine Sc Iff.rfl (fun _ => ?_) (fun _ => ?_)
    · exact (ih dp e 1 _ _ _ _ _ _ _ _ _ _ _ _ u_I u_L u_i1 (rfl : Ui (0) (0)) (rfl : Ui 0 0) (rfl : Ui 0 0))
    refine Sc Iff.rfl (fun _ => ?_) (fun _ => ?_)
    · refine Sc (le_up (u_I 1 9) u_i2) (fun c1 => ?_) (fun c1 => ?_)
      · exact (ih dp e 2 _ _ _ _ _ _ _ _ _ _ _ _ u_I u_L u_i1 (rfl : Ui (1) (1)) (rfl : Ui (1) (1)) (rfl : Ui 0 0))
      · refine Sg (fun g2 => ?_)
        refine Sc (ix_up (ui_add (ui_mul u_i2 (rfl : Ui (7) (7)) g2.1) (rfl : Ui (5) (5)) g2.2)) (fun c3 => ?_) (fun _ => Sn)
        refine Sc (eq_up (ui_and (ui_rd (a := 7) u_I (ui_add (ui_mul u_i2 (rfl : Ui (7) (7)) g2.1) (rfl : Ui (5) (5)) g2.2) c3.1) u_i1) (rfl : Ui 0 0)) (fun c4 => ?_) (fun c4 => ?_)
        · refine Sc (ix_up u_i2) (fun c5 => ?_) (fun _ => Sn)
          refine SsJ (ri_up u_I (kc_up u_i2 c5.1) (rfl : Ui (-1) (-1))) (fun I_42 I_42' u_I_42 => ?_)
          refine Sg (fun g6 => ?_)
          exact (ih dp e 1 _ _ _ _ _ _ _ _ _ _ _ _ u_I_42 u_L u_i1 (ui_add u_i2 (rfl : Ui (Int32.ofInt (1)) (1)) g6) (rfl : Ui 0 0) (rfl : Ui 0 0))
        · refine Sc (ix_up u_i2) (fun c7 => ?_) (fun _ => Sn)
          refine SsJ (ri_up u_I (kc_up u_i2 c7.1) (rfl : Ui (0) (0))) (fun I_42 I_42' u_I_42 => ?_)
          refine Sg (fun g8 => ?_)
          exact (ih dp e 1 _ _ _ _ _ _ _ _ _ _ _ _ u_I_42 u_L u_i1 (ui_add u_i2 (rfl : Ui (Int32.ofInt (1)) (1)) g8) (rfl : Ui 0 0) (rfl : Ui 0 0))
    refine Sc Iff.rfl (fun _ => ?_) (fun _ => ?_)
    · refine Sc (le_up (rfl : Ui (16) (16)) u_i3) (fun c1 => ?_) (fun c1 => ?_)
      · exact Sr ⟨u_I, u_L⟩
      · refine Sc (eq_up u_i2 (rfl : Ui 0 0)) (fun c2 => ?_) (fun c2 => ?_)
        · exact Sr ⟨u_I, u_L⟩
        · exact (ih dp e 3 _ _ _ _ _ _ _ _ _ _ _ _ u_I u_L u_i1 (rfl : Ui (0) (0)) u_i3 (rfl : Ui (0) (0)))
    refine Sc Iff.rfl (fun _ => ?_) (fun _ => ?_)
    · refine Sc (le_up (u_I 1 9) u_i4) (fun c1 => ?_) (fun c1 => ?_)
      · refine Sg (fun g2 => ?_)
        exact (ih dp e 2 _ _ _ _ _ _ _ _ _ _ _ _ u_I u_L u_i1 u_i2 (ui_add u_i3 (rfl : Ui (Int32.ofInt (1)) (1)) g2) (rfl : Ui 0 0))
      · refine Sc (ix_up u_i4) (fun c3 => ?_) (fun _ => Sn)
        refine Sc (eq_up (ui_rd (a := 88) u_I u_i4 c3.1) (rfl : Ui (-1) (-1))) (fun c4 => ?_) (fun c4 => ?_)
        · refine Sc Iff.rfl (fun c5 => ?_) (fun _ => Sn)
          refine Sg (fun g6 => ?_)
          refine Sb3 (ks_176 n (dp - 1) e 0 _ _ _ _ _ _ _ _ _ _ u_I u_L u_i4 (ui_sub u_i3 (rfl : Ui (1) (1)) g6) (rfl : Ui 0 0)) (fun x0_97 x0_97' I0_97 I0_97' L0_97 L0_97' u_x0_97 u_I0_97 u_L0_97 => ?_)
          refine Sc (eq_up u_x0_97 (rfl : Ui 0 0)) (fun c7 => ?_) (fun c7 => ?_)
          · exact (ih dp e 4 _ _ _ _ _ _ _ _ _ _ _ _ u_I0_97 u_L0_97 u_i1 u_i2 u_i3 u_i4)
          · refine Sc (ix_up u_i4) (fun c8 => ?_) (fun _ => Sn)
            refine SsJ (ri_up u_I0_97 (kc_up u_i4 c8.1) u_i3) (fun I_110 I_110' u_I_110 => ?_)
            exact (ih dp e 4 _ _ _ _ _ _ _ _ _ _ _ _ u_I_110 u_L0_97 u_i1 (rfl : Ui (1) (1)) u_i3 u_i4)
        · exact (ih dp e 4 _ _ _ _ _ _ _ _ _ _ _ _ u_I u_L u_i1 u_i2 u_i3 u_i4)
    refine Sc Iff.rfl (fun _ => ?_) (fun _ => ?_)
    · refine Sg (fun g1 => ?_)
      exact (ih dp e 3 _ _ _ _ _ _ _ _ _ _ _ _ u_I u_L u_i1 u_i2 u_i3 (ui_add u_i4 (rfl : Ui (Int32.ofInt (1)) (1)) g1))
    exact Sn
set_option maxHeartbeats 4000000 in
set_option maxRecDepth 100000 in
def kf_174 : Nat → Nat → EN → Nat → JI → JI → Int → Int → Int → Option (Int × JI × JI)
  | 0, _, _, _, _, _, _, _, _ => none
  | n + 1, dp, e, lab, I, L, i1, i2, i3 =>
    if lab = 0 then (if 1 ≤ dp then ((kf_175 n (dp - 1) e 0 I L i1 0 0 0).bind (fun ⟨I0_2, L0_2⟩ => (kf_174 n dp e 1 I0_2 L0_2 i1 0 0))) else none)
    else if lab = 1 then (if (I 1 9) ≤ i3 then (some ((i2 : Int), I, L)) else (if 0 ≤ i3 ∧ i3 < 16 then (if (I 88 i3) = (-1) then (kf_174 n dp e 2 I L i1 i2 i3) else (stI (bO i2 (bL 1 i3)) (fun v_35 => (kf_174 n dp e 2 I L i1 v_35 i3)))) else none))
    else if lab = 2 then (if -2147483648 ≤ i3 + 1 ∧ i3 + 1 ≤ 2147483647 then (kf_174 n dp e 1 I L i1 i2 (i3 + 1)) else none)
    else none
set_option maxRecDepth 100000 in
theorem ke_174_0 (n : Nat) (dp : Nat) (e : EN) (I : JI) (L : JI) (i1 : Int) (i2 : Int) (i3 : Int) : kf_174 (n + 1) dp e 0 I L i1 i2 i3 = (if 1 ≤ dp then ((kf_175 n (dp - 1) e 0 I L i1 0 0 0).bind (fun ⟨I0_2, L0_2⟩ => (kf_174 n dp e 1 I0_2 L0_2 i1 0 0))) else none) := by rw [kf_174.eq_2, if_pos (show (0 : Nat) = 0 from rfl)]
set_option maxRecDepth 100000 in
theorem ke_174_1 (n : Nat) (dp : Nat) (e : EN) (I : JI) (L : JI) (i1 : Int) (i2 : Int) (i3 : Int) : kf_174 (n + 1) dp e 1 I L i1 i2 i3 = (if (I 1 9) ≤ i3 then (some ((i2 : Int), I, L)) else (if 0 ≤ i3 ∧ i3 < 16 then (if (I 88 i3) = (-1) then (kf_174 n dp e 2 I L i1 i2 i3) else (stI (bO i2 (bL 1 i3)) (fun v_35 => (kf_174 n dp e 2 I L i1 v_35 i3)))) else none)) := by rw [kf_174.eq_2, if_neg (show ¬ ((1 : Nat) = 0) by decide), if_pos (show (1 : Nat) = 1 from rfl)]
set_option maxRecDepth 100000 in
theorem ke_174_2 (n : Nat) (dp : Nat) (e : EN) (I : JI) (L : JI) (i1 : Int) (i2 : Int) (i3 : Int) : kf_174 (n + 1) dp e 2 I L i1 i2 i3 = (if -2147483648 ≤ i3 + 1 ∧ i3 + 1 ≤ 2147483647 then (kf_174 n dp e 1 I L i1 i2 (i3 + 1)) else none) := by rw [kf_174.eq_2, if_neg (show ¬ ((2 : Nat) = 0) by decide), if_neg (show ¬ ((2 : Nat) = 1) by decide), if_pos (show (2 : Nat) = 2 from rfl)]
set_option maxHeartbeats 8000000 in
set_option maxRecDepth 100000 in
theorem ks_174 : ∀ (n : Nat) (dp : Nat) (e : EN) (lab : Nat) (I : Nat → Nat → Int32) (I' : JI) (L : Nat → Nat → Int64) (L' : JI) (i1 : Int32) (i1' : Int) (i2 : Int32) (i2' : Int) (i3 : Int32) (i3' : Int), Rli I I' → Rll L L' → Ui i1 i1' → Ui i2 i2' → Ui i3 i3' → Sim R3 (g_174 n dp e lab I L i1 i2 i3) (kf_174 n dp e lab I' L' i1' i2' i3') := by
  intro n
  induction n with
  | zero => intros; rw [kf_174.eq_1]; exact Sn
  | succ n ih =>
    intro dp e lab I I' L L' i1 i1' i2 i2' i3 i3' u_I u_L u_i1 u_i2 u_i3
    rw [g_174.eq_2, kf_174.eq_2]
    refine Sc Iff.rfl (fun _ => ?_) (fun _ => ?_)
    · refine Sc Iff.rfl (fun c1 => ?_) (fun _ => Sn)
      refine Sb2 (ks_175 n (dp - 1) e 0 _ _ _ _ _ _ _ _ _ _ _ _ u_I u_L u_i1 (rfl : Ui 0 0) (rfl : Ui 0 0) (rfl : Ui 0 0)) (fun I0_2 I0_2' L0_2 L0_2' u_I0_2 u_L0_2 => ?_)
      exact (ih dp e 1 _ _ _ _ _ _ _ _ _ _ u_I0_2 u_L0_2 u_i1 (rfl : Ui (0) (0)) (rfl : Ui (0) (0)))
    refine Sc Iff.rfl (fun _ => ?_) (fun _ => ?_)
    · refine Sc (le_up (u_I 1 9) u_i3) (fun c1 => ?_) (fun c1 => ?_)
      · exact Sr ⟨u_i2, u_I, u_L⟩
      · refine Sc (ix_up u_i3) (fun c2 => ?_) (fun _ => Sn)
        refine Sc (eq_up (ui_rd (a := 88) u_I u_i3 c2.1) (rfl : Ui (-1) (-1))) (fun c3 => ?_) (fun c3 => ?_)
        · exact (ih dp e 2 _ _ _ _ _ _ _ _ _ _ u_I u_L u_i1 u_i2 u_i3)
        · refine SsI (ui_or u_i2 (ui_shl (rfl : Ui (1) (1)) u_i3)) (fun v_35 v_35' u_v_35 => ?_)
          exact (ih dp e 2 _ _ _ _ _ _ _ _ _ _ u_I u_L u_i1 u_v_35 u_i3)
    refine Sc Iff.rfl (fun _ => ?_) (fun _ => ?_)
    · refine Sg (fun g1 => ?_)
      exact (ih dp e 1 _ _ _ _ _ _ _ _ _ _ u_I u_L u_i1 u_i2 (ui_add u_i3 (rfl : Ui (Int32.ofInt (1)) (1)) g1))
    exact Sn
set_option maxHeartbeats 4000000 in
set_option maxRecDepth 100000 in
def kf_178 : Nat → Nat → EN → Nat → JI → JI → Int → Int → Option (Int × JI × JI)
  | 0, _, _, _, _, _, _, _ => none
  | n + 1, dp, e, lab, I, L, i1, i2 =>
    if lab = 0 then (if 1 ≤ dp then ((kf_175 n (dp - 1) e 0 I L i1 0 0 0).bind (fun ⟨I0_2, L0_2⟩ => (if 0 ≤ i2 ∧ i2 < 16 then (some (((I0_2 88 i2) : Int), I0_2, L0_2)) else none))) else none)
    else none
set_option maxRecDepth 100000 in
theorem ke_178_0 (n : Nat) (dp : Nat) (e : EN) (I : JI) (L : JI) (i1 : Int) (i2 : Int) : kf_178 (n + 1) dp e 0 I L i1 i2 = (if 1 ≤ dp then ((kf_175 n (dp - 1) e 0 I L i1 0 0 0).bind (fun ⟨I0_2, L0_2⟩ => (if 0 ≤ i2 ∧ i2 < 16 then (some (((I0_2 88 i2) : Int), I0_2, L0_2)) else none))) else none) := by rw [kf_178.eq_2, if_pos (show (0 : Nat) = 0 from rfl)]
set_option maxHeartbeats 8000000 in
set_option maxRecDepth 100000 in
theorem ks_178 : ∀ (n : Nat) (dp : Nat) (e : EN) (lab : Nat) (I : Nat → Nat → Int32) (I' : JI) (L : Nat → Nat → Int64) (L' : JI) (i1 : Int32) (i1' : Int) (i2 : Int32) (i2' : Int), Rli I I' → Rll L L' → Ui i1 i1' → Ui i2 i2' → Sim R3 (g_178 n dp e lab I L i1 i2) (kf_178 n dp e lab I' L' i1' i2') := by
  intro n
  induction n with
  | zero => intros; rw [kf_178.eq_1]; exact Sn
  | succ n ih =>
    intro dp e lab I I' L L' i1 i1' i2 i2' u_I u_L u_i1 u_i2
    rw [g_178.eq_2, kf_178.eq_2]
    refine Sc Iff.rfl (fun _ => ?_) (fun _ => ?_)
    · refine Sc Iff.rfl (fun c1 => ?_) (fun _ => Sn)
      refine Sb2 (ks_175 n (dp - 1) e 0 _ _ _ _ _ _ _ _ _ _ _ _ u_I u_L u_i1 (rfl : Ui 0 0) (rfl : Ui 0 0) (rfl : Ui 0 0)) (fun I0_2 I0_2' L0_2 L0_2' u_I0_2 u_L0_2 => ?_)
      refine Sc (ix_up u_i2) (fun c2 => ?_) (fun _ => Sn)
      exact Sr ⟨(ui_rd (a := 88) u_I0_2 u_i2 c2.1), u_I0_2, u_L0_2⟩
    exact Sn
