/-! lifted functions 02, printed by lift.py -/
set_option maxHeartbeats 4000000 in
set_option maxRecDepth 100000 in
def kf_97 : Nat → Nat → EN → Nat → JI → JI → Int → Int → Int → Option (JI × JI)
  | 0, _, _, _, _, _, _, _, _ => none
  | n + 1, dp, e, lab, I, L, i2, i3, i4 =>
    if lab = 0 then (stI (w2 I 26 17 0) (fun I_2 => (stI (w2 I_2 26 18 0) (fun I_7 => (stI (w2 I_7 26 19 1) (fun I_12 => (if 1 ≤ dp then ((kf_36 n (dp - 1) e 0 I_12 L 0 0 0 35).bind (fun ⟨I0_20, L0_20⟩ => (kf_97 n dp e 1 I0_20 L0_20 0 0 0))) else none)))))))
    else if lab = 1 then (if 10 ≤ i2 then (kf_97 n dp e 3 I L i2 0 0) else (if 5 ≤ (I 26 17) then (kf_97 n dp e 3 I L i2 0 0) else (if -2147483648 ≤ 20 + i2 ∧ 20 + i2 ≤ 2147483647 then (if 0 ≤ (20 + i2) ∧ (20 + i2) < 30 then (stI (I 4 (20 + i2)) (fun v_48 => (if -2147483648 ≤ 0 + i2 ∧ 0 + i2 ≤ 2147483647 then (if 0 ≤ (0 + i2) ∧ (0 + i2) < 30 then (if -2147483648 ≤ 10 + i2 ∧ 10 + i2 ≤ 2147483647 then (if 0 ≤ (10 + i2) ∧ (10 + i2) < 30 then (if -2147483648 ≤ (I 4 (0 + i2)) - (I 4 (10 + i2)) ∧ (I 4 (0 + i2)) - (I 4 (10 + i2)) ≤ 2147483647 then (stI ((I 4 (0 + i2)) - (I 4 (10 + i2))) (fun v_67 => (if v_48 ≤ 0 then (kf_97 n dp e 2 I L i2 v_48 v_67) else (if v_67 = 0 then (kf_97 n dp e 2 I L i2 v_48 v_67) else (if 0 ≤ (I 26 17) ∧ (I 26 17) < 5 then (stI (w2 I 34 (I 26 17) i2) (fun I_87 => (if 0 ≤ (I_87 26 17) ∧ (I_87 26 17) < 5 then (stI (w2 I_87 35 (I_87 26 17) v_48) (fun I_97 => (if 0 ≤ (I_97 26 17) ∧ (I_97 26 17) < 5 then (stI (w2 I_97 36 (I_97 26 17) (I_97 26 19)) (fun I_110 => (if 0 ≤ (I_110 26 17) ∧ (I_110 26 17) < 5 then (if -2147483648 ≤ v_67 * 16 ∧ v_67 * 16 ≤ 2147483647 then (stI (w2 I_110 37 (I_110 26 17) (v_67 * 16)) (fun I_124 => (if (-2147483648 ≤ v_48 + 1 ∧ v_48 + 1 ≤ 2147483647) ∧ (-2147483648 ≤ (I_124 26 19) * (v_48 + 1) ∧ (I_124 26 19) * (v_48 + 1) ≤ 2147483647) then (stI (w2 I_124 26 19 ((I_124 26 19) * (v_48 + 1))) (fun I_134 => (if -2147483648 ≤ (I_134 26 17) + 1 ∧ (I_134 26 17) + 1 ≤ 2147483647 then (stI (w2 I_134 26 17 ((I_134 26 17) + 1)) (fun I_144 => (kf_97 n dp e 2 I_144 L i2 v_48 v_67))) else none))) else none))) else none) else none))) else none))) else none))) else none))))) else none) else none) else none) else none) else none))) else none) else none)))
    else if lab = 2 then (if -2147483648 ≤ i2 + 1 ∧ i2 + 1 ≤ 2147483647 then (kf_97 n dp e 1 I L (i2 + 1) 0 0) else none)
    else if lab = 3 then (kf_97 n dp e 4 I L 0 0 0)
    else if lab = 4 then (if 5 ≤ i2 then (some (I, L)) else (if 0 ≤ i2 ∧ i2 < 5 then (if (-2147483648 ≤ 15 - (I 35 i2) ∧ 15 - (I 35 i2) ≤ 2147483647) ∧ (-2147483648 ≤ 5 * i2 ∧ 5 * i2 ≤ 2147483647) then (stI (w2 I 26 18 (bO (I 26 18) (bL (15 - (I 35 i2)) (5 * i2)))) (fun I_179 => (if -2147483648 ≤ i2 + 1 ∧ i2 + 1 ≤ 2147483647 then (kf_97 n dp e 4 I_179 L (i2 + 1) 0 0) else none))) else none) else none))
    else none
set_option maxRecDepth 100000 in
theorem ke_97_0 (n : Nat) (dp : Nat) (e : EN) (I : JI) (L : JI) (i2 : Int) (i3 : Int) (i4 : Int) : kf_97 (n + 1) dp e 0 I L i2 i3 i4 = (stI (w2 I 26 17 0) (fun I_2 => (stI (w2 I_2 26 18 0) (fun I_7 => (stI (w2 I_7 26 19 1) (fun I_12 => (if 1 ≤ dp then ((kf_36 n (dp - 1) e 0 I_12 L 0 0 0 35).bind (fun ⟨I0_20, L0_20⟩ => (kf_97 n dp e 1 I0_20 L0_20 0 0 0))) else none))))))) := by rw [kf_97.eq_2, if_pos (show (0 : Nat) = 0 from rfl)]
set_option maxRecDepth 100000 in
theorem ke_97_1 (n : Nat) (dp : Nat) (e : EN) (I : JI) (L : JI) (i2 : Int) (i3 : Int) (i4 : Int) : kf_97 (n + 1) dp e 1 I L i2 i3 i4 = (if 10 ≤ i2 then (kf_97 n dp e 3 I L i2 0 0) else (if 5 ≤ (I 26 17) then (kf_97 n dp e 3 I L i2 0 0) else (if -2147483648 ≤ 20 + i2 ∧ 20 + i2 ≤ 2147483647 then (if 0 ≤ (20 + i2) ∧ (20 + i2) < 30 then (stI (I 4 (20 + i2)) (fun v_48 => (if -2147483648 ≤ 0 + i2 ∧ 0 + i2 ≤ 2147483647 then (if 0 ≤ (0 + i2) ∧ (0 + i2) < 30 then (if -2147483648 ≤ 10 + i2 ∧ 10 + i2 ≤ 2147483647 then (if 0 ≤ (10 + i2) ∧ (10 + i2) < 30 then (if -2147483648 ≤ (I 4 (0 + i2)) - (I 4 (10 + i2)) ∧ (I 4 (0 + i2)) - (I 4 (10 + i2)) ≤ 2147483647 then (stI ((I 4 (0 + i2)) - (I 4 (10 + i2))) (fun v_67 => (if v_48 ≤ 0 then (kf_97 n dp e 2 I L i2 v_48 v_67) else (if v_67 = 0 then (kf_97 n dp e 2 I L i2 v_48 v_67) else (if 0 ≤ (I 26 17) ∧ (I 26 17) < 5 then (stI (w2 I 34 (I 26 17) i2) (fun I_87 => (if 0 ≤ (I_87 26 17) ∧ (I_87 26 17) < 5 then (stI (w2 I_87 35 (I_87 26 17) v_48) (fun I_97 => (if 0 ≤ (I_97 26 17) ∧ (I_97 26 17) < 5 then (stI (w2 I_97 36 (I_97 26 17) (I_97 26 19)) (fun I_110 => (if 0 ≤ (I_110 26 17) ∧ (I_110 26 17) < 5 then (if -2147483648 ≤ v_67 * 16 ∧ v_67 * 16 ≤ 2147483647 then (stI (w2 I_110 37 (I_110 26 17) (v_67 * 16)) (fun I_124 => (if (-2147483648 ≤ v_48 + 1 ∧ v_48 + 1 ≤ 2147483647) ∧ (-2147483648 ≤ (I_124 26 19) * (v_48 + 1) ∧ (I_124 26 19) * (v_48 + 1) ≤ 2147483647) then (stI (w2 I_124 26 19 ((I_124 26 19) * (v_48 + 1))) (fun I_134 => (if -2147483648 ≤ (I_134 26 17) + 1 ∧ (I_134 26 17) + 1 ≤ 2147483647 then (stI (w2 I_134 26 17 ((I_134 26 17) + 1)) (fun I_144 => (kf_97 n dp e 2 I_144 L i2 v_48 v_67))) else none))) else none))) else none) else none))) else none))) else none))) else none))))) else none) else none) else none) else none) else none))) else none) else none))) := by rw [kf_97.eq_2, if_neg (show ¬ ((1 : Nat) = 0) by decide), if_pos (show (1 : Nat) = 1 from rfl)]
set_option maxRecDepth 100000 in
theorem ke_97_2 (n : Nat) (dp : Nat) (e : EN) (I : JI) (L : JI) (i2 : Int) (i3 : Int) (i4 : Int) : kf_97 (n + 1) dp e 2 I L i2 i3 i4 = (if -2147483648 ≤ i2 + 1 ∧ i2 + 1 ≤ 2147483647 then (kf_97 n dp e 1 I L (i2 + 1) 0 0) else none) := by rw [kf_97.eq_2, if_neg (show ¬ ((2 : Nat) = 0) by decide), if_neg (show ¬ ((2 : Nat) = 1) by decide), if_pos (show (2 : Nat) = 2 from rfl)]
set_option maxRecDepth 100000 in
theorem ke_97_3 (n : Nat) (dp : Nat) (e : EN) (I : JI) (L : JI) (i2 : Int) (i3 : Int) (i4 : Int) : kf_97 (n + 1) dp e 3 I L i2 i3 i4 = (kf_97 n dp e 4 I L 0 0 0) := by rw [kf_97.eq_2, if_neg (show ¬ ((3 : Nat) = 0) by decide), if_neg (show ¬ ((3 : Nat) = 1) by decide), if_neg (show ¬ ((3 : Nat) = 2) by decide), if_pos (show (3 : Nat) = 3 from rfl)]
set_option maxRecDepth 100000 in
theorem ke_97_4 (n : Nat) (dp : Nat) (e : EN) (I : JI) (L : JI) (i2 : Int) (i3 : Int) (i4 : Int) : kf_97 (n + 1) dp e 4 I L i2 i3 i4 = (if 5 ≤ i2 then (some (I, L)) else (if 0 ≤ i2 ∧ i2 < 5 then (if (-2147483648 ≤ 15 - (I 35 i2) ∧ 15 - (I 35 i2) ≤ 2147483647) ∧ (-2147483648 ≤ 5 * i2 ∧ 5 * i2 ≤ 2147483647) then (stI (w2 I 26 18 (bO (I 26 18) (bL (15 - (I 35 i2)) (5 * i2)))) (fun I_179 => (if -2147483648 ≤ i2 + 1 ∧ i2 + 1 ≤ 2147483647 then (kf_97 n dp e 4 I_179 L (i2 + 1) 0 0) else none))) else none) else none)) := by rw [kf_97.eq_2, if_neg (show ¬ ((4 : Nat) = 0) by decide), if_neg (show ¬ ((4 : Nat) = 1) by decide), if_neg (show ¬ ((4 : Nat) = 2) by decide), if_neg (show ¬ ((4 : Nat) = 3) by decide), if_pos (show (4 : Nat) = 4 from rfl)]
set_option maxHeartbeats 8000000 in
set_option maxRecDepth 100000 in
theorem ks_97 : ∀ (n : Nat) (dp : Nat) (e : EN) (lab : Nat) (I : Nat → Nat → Int32) (I' : JI) (L : Nat → Nat → Int64) (L' : JI) (i2 : Int32) (i2' : Int) (i3 : Int32) (i3' : Int) (i4 : Int32) (i4' : Int), Rli I I' → Rll L L' → Ui i2 i2' → Ui i3 i3' → Ui i4 i4' → Sim R2 (g_97 n dp e lab I L i2 i3 i4) (kf_97 n dp e lab I' L' i2' i3' i4') := by
  intro n
  induction n with
  | zero => intros; rw [kf_97.eq_1]; exact Sn
  | succ n ih =>
    intro dp e lab I I' L L' i2 i2' i3 i3' i4 i4' u_I u_L u_i2 u_i3 u_i4
    rw [g_97.eq_2, kf_97.eq_2]
    refine Sc Iff.rfl (fun _ => ?_) (fun _ => ?_)
    · refine SsJ (ri_up u_I (rfl : ((17 : Nat) : Int) = 17) (rfl : Ui (0) (0))) (fun I_2 I_2' u_I_2 => ?_)
      refine SsJ (ri_up u_I_2 (rfl : ((18 : Nat) : Int) = 18) (rfl : Ui (0) (0))) (fun I_7 I_7' u_I_7 => ?_)
      refine SsJ (ri_up u_I_7 (rfl : ((19 : Nat) : Int) = 19) (rfl : Ui (1) (1))) (fun I_12 I_12' u_I_12 => ?_)
      refine Sc Iff.rfl (fun c1 => ?_) (fun _ => Sn)
      refine Sb2 (ks_36 n (dp - 1) e 0 _ _ _ _ _ _ _ _ _ _ 35 u_I_12 u_L (rfl : Ui (0) (0)) (rfl : Ui 0 0) (rfl : Ui 0 0)) (fun I0_20 I0_20' L0_20 L0_20' u_I0_20 u_L0_20 => ?_)
      exact (ih dp e 1 _ _ _ _ _ _ _ _ _ _ u_I0_20 u_L0_20 (rfl : Ui (0) (0)) (rfl : Ui 0 0) (rfl : Ui 0 0))
    refine Sc Iff.rfl (fun _ => ?_) (fun _ => ?_)
    · refine Sc (le_up (rfl : Ui (10) (10)) u_i2) (fun c1 => ?_) (fun c1 => ?_)
      · exact (ih dp e 3 _ _ _ _ _ _ _ _ _ _ u_I u_L u_i2 (rfl : Ui 0 0) (rfl : Ui 0 0))
      · refine Sc (le_up (rfl : Ui (5) (5)) (u_I 26 17)) (fun c2 => ?_) (fun c2 => ?_)
        · exact (ih dp e 3 _ _ _ _ _ _ _ _ _ _ u_I u_L u_i2 (rfl : Ui 0 0) (rfl : Ui 0 0))
        · refine Sg (fun g3 => ?_)
          refine Sc (ix_up (ui_add (rfl : Ui (20) (20)) u_i2 g3)) (fun c4 => ?_) (fun _ => Sn)
          refine SsI (ui_rd (a := 4) u_I (ui_add (rfl : Ui (20) (20)) u_i2 g3) c4.1) (fun v_48 v_48' u_v_48 => ?_)
          refine Sg (fun g5 => ?_)
          refine Sc (ix_up (ui_add (rfl : Ui (0) (0)) u_i2 g5)) (fun c6 => ?_) (fun _ => Sn)
          refine Sg (fun g7 => ?_)
          refine Sc (ix_up (ui_add (rfl : Ui (10) (10)) u_i2 g7)) (fun c8 => ?_) (fun _ => Sn)
          refine Sg (fun g9 => ?_)
          refine SsI (ui_sub (ui_rd (a := 4) u_I (ui_add (rfl : Ui (0) (0)) u_i2 g5) c6.1) (ui_rd (a := 4) u_I (ui_add (rfl : Ui (10) (10)) u_i2 g7) c8.1) g9) (fun v_67 v_67' u_v_67 => ?_)
          refine Sc (le_up u_v_48 (rfl : Ui 0 0)) (fun c10 => ?_) (fun c10 => ?_)
          · exact (ih dp e 2 _ _ _ _ _ _ _ _ _ _ u_I u_L u_i2 u_v_48 u_v_67)
          · refine Sc (eq_up u_v_67 (rfl : Ui 0 0)) (fun c11 => ?_) (fun c11 => ?_)
            · exact (ih dp e 2 _ _ _ _ _ _ _ _ _ _ u_I u_L u_i2 u_v_48 u_v_67)
            · refine Sc (ix_up (u_I 26 17)) (fun c12 => ?_) (fun _ => Sn)
              refine SsJ (ri_up u_I (kc_up (u_I 26 17) c12.1) u_i2) (fun I_87 I_87' u_I_87 => ?_)
              refine Sc (ix_up (u_I_87 26 17)) (fun c13 => ?_) (fun _ => Sn)
              refine SsJ (ri_up u_I_87 (kc_up (u_I_87 26 17) c13.1) u_v_48) (fun I_97 I_97' u_I_97 => ?_)
              refine Sc (ix_up (u_I_97 26 17)) (fun c14 => ?_) (fun _ => Sn)
              refine SsJ (ri_up u_I_97 (kc_up (u_I_97 26 17) c14.1) (u_I_97 26 19)) (fun I_110 I_110' u_I_110 => ?_)
              refine Sc (ix_up (u_I_110 26 17)) (fun c15 => ?_) (fun _ => Sn)
              refine Sg (fun g16 => ?_)
              refine SsJ (ri_up u_I_110 (kc_up (u_I_110 26 17) c15.1) (ui_mul u_v_67 (rfl : Ui (16) (16)) g16)) (fun I_124 I_124' u_I_124 => ?_)
              refine Sg (fun g17 => ?_)
              refine SsJ (ri_up u_I_124 (rfl : ((19 : Nat) : Int) = 19) (ui_mul (u_I_124 26 19) (ui_add u_v_48 (rfl : Ui (1) (1)) g17.1) g17.2)) (fun I_134 I_134' u_I_134 => ?_)
              refine Sg (fun g18 => ?_)
              refine SsJ (ri_up u_I_134 (rfl : ((17 : Nat) : Int) = 17) (ui_add (u_I_134 26 17) (rfl : Ui (1) (1)) g18)) (fun I_144 I_144' u_I_144 => ?_)
              exact (ih dp e 2 _ _ _ _ _ _ _ _ _ _ u_I_144 u_L u_i2 u_v_48 u_v_67)
    refine Sc Iff.rfl (fun _ => ?_) (fun _ => ?_)
    · refine Sg (fun g1 => ?_)
      exact (ih dp e 1 _ _ _ _ _ _ _ _ _ _ u_I u_L (ui_add u_i2 (rfl : Ui (Int32.ofInt (1)) (1)) g1) (rfl : Ui 0 0) (rfl : Ui 0 0))
    refine Sc Iff.rfl (fun _ => ?_) (fun _ => ?_)
    · exact (ih dp e 4 _ _ _ _ _ _ _ _ _ _ u_I u_L (rfl : Ui (0) (0)) (rfl : Ui 0 0) (rfl : Ui 0 0))
    refine Sc Iff.rfl (fun _ => ?_) (fun _ => ?_)
    · refine Sc (le_up (rfl : Ui (5) (5)) u_i2) (fun c1 => ?_) (fun c1 => ?_)
      · exact Sr ⟨u_I, u_L⟩
      · refine Sc (ix_up u_i2) (fun c2 => ?_) (fun _ => Sn)
        refine Sg (fun g3 => ?_)
        refine SsJ (ri_up u_I (rfl : ((18 : Nat) : Int) = 18) (ui_or (u_I 26 18) (ui_shl (ui_sub (rfl : Ui (15) (15)) (ui_rd (a := 35) u_I u_i2 c2.1) g3.1) (ui_mul (rfl : Ui (5) (5)) u_i2 g3.2)))) (fun I_179 I_179' u_I_179 => ?_)
        refine Sg (fun g4 => ?_)
        exact (ih dp e 4 _ _ _ _ _ _ _ _ _ _ u_I_179 u_L (ui_add u_i2 (rfl : Ui (Int32.ofInt (1)) (1)) g4) (rfl : Ui 0 0) (rfl : Ui 0 0))
    exact Sn
set_option maxHeartbeats 4000000 in
set_option maxRecDepth 100000 in
def kf_98 : Nat → Nat → EN → Nat → JI → JI → Int → Int → Int → Int → Int → Int → Int → Int → Int → Nat → Nat → Option (JI × JI)
  | 0, _, _, _, _, _, _, _, _, _, _, _, _, _, _, _, _ => none
  | n + 1, dp, e, lab, I, L, i1, i2, i5, i6, i7, i8, i9, i10, i11, a3, a4 =>
    if lab = 0 then (if i2 = (-1) then (if i2 = (-1) then (kf_98 n dp e 1 I L i1 i2 0 0 0 0 0 0 0 a3 a4) else (kf_98 n dp e 1 I L i1 i2 0 15 0 0 0 0 0 a3 a4)) else (if 0 ≤ i2 ∧ i2 < 5 then (stI (I 35 i2) (fun v_15 => (if i2 = (-1) then (kf_98 n dp e 1 I L i1 i2 v_15 0 0 0 0 0 0 a3 a4) else (kf_98 n dp e 1 I L i1 i2 v_15 15 0 0 0 0 0 a3 a4)))) else none))
    else if lab = 1 then (if i5 < i7 then (some (I, L)) else (if i7 = 0 then (if i7 = 0 then (if (-2147483648 ≤ i6 - i5 ∧ i6 - i5 ≤ 2147483647) ∧ (-2147483648 ≤ (i6 - i5) + i7 ∧ (i6 - i5) + i7 ≤ 2147483647) then (stI (bL ((i6 - i5) + i7) 5) (fun v_90 => (kf_98 n dp e 2 I L i1 i2 i5 i6 i7 0 0 v_90 0 a3 a4))) else none) else (if 0 ≤ i2 ∧ i2 < 5 then (if -2147483648 ≤ i7 * (I 37 i2) ∧ i7 * (I 37 i2) ≤ 2147483647 then (stI (i7 * (I 37 i2)) (fun v_78 => (if (-2147483648 ≤ i6 - i5 ∧ i6 - i5 ≤ 2147483647) ∧ (-2147483648 ≤ (i6 - i5) + i7 ∧ (i6 - i5) + i7 ≤ 2147483647) then (stI (bL ((i6 - i5) + i7) 5) (fun v_90 => (kf_98 n dp e 2 I L i1 i2 i5 i6 i7 0 v_78 v_90 0 a3 a4))) else none))) else none) else none)) else (if 0 ≤ i2 ∧ i2 < 5 then (if -2147483648 ≤ i7 * (I 36 i2) ∧ i7 * (I 36 i2) ≤ 2147483647 then (stI (i7 * (I 36 i2)) (fun v_58 => (if i7 = 0 then (if (-2147483648 ≤ i6 - i5 ∧ i6 - i5 ≤ 2147483647) ∧ (-2147483648 ≤ (i6 - i5) + i7 ∧ (i6 - i5) + i7 ≤ 2147483647) then (stI (bL ((i6 - i5) + i7) 5) (fun v_90 => (kf_98 n dp e 2 I L i1 i2 i5 i6 i7 v_58 0 v_90 0 a3 a4))) else none) else (if 0 ≤ i2 ∧ i2 < 5 then (if -2147483648 ≤ i7 * (I 37 i2) ∧ i7 * (I 37 i2) ≤ 2147483647 then (stI (i7 * (I 37 i2)) (fun v_78 => (if (-2147483648 ≤ i6 - i5 ∧ i6 - i5 ≤ 2147483647) ∧ (-2147483648 ≤ (i6 - i5) + i7 ∧ (i6 - i5) + i7 ≤ 2147483647) then (stI (bL ((i6 - i5) + i7) 5) (fun v_90 => (kf_98 n dp e 2 I L i1 i2 i5 i6 i7 v_58 v_78 v_90 0 a3 a4))) else none))) else none) else none)))) else none) else none)))
    else if lab = 2 then (if 0 ≤ i1 ∧ i1 < 5 then (if (I 35 i1) < i11 then (if -2147483648 ≤ i7 + 1 ∧ i7 + 1 ≤ 2147483647 then (kf_98 n dp e 1 I L i1 i2 i5 i6 (i7 + 1) 0 0 0 0 a3 a4) else none) else (if 0 ≤ i1 ∧ i1 < 5 then (if i11 = 0 then (if (-2147483648 ≤ i10 + 15 ∧ i10 + 15 ≤ 2147483647) ∧ (-2147483648 ≤ (i10 + 15) - (I 35 i1) ∧ (i10 + 15) - (I 35 i1) ≤ 2147483647) ∧ (-2147483648 ≤ ((i10 + 15) - (I 35 i1)) + i11 ∧ ((i10 + 15) - (I 35 i1)) + i11 ≤ 2147483647) then (if ((a3 < e.1) ∧ (((e.2.1 a3).1 = 13) ∧ ((e.2.1 a3).2 < (2 ^ 31)))) ∧ (0 ≤ (((i10 + 15) - (I 35 i1)) + i11) ∧ (((i10 + 15) - (I 35 i1)) + i11) < (((e.2.1 a3).2 : Nat) : Int)) then (stI (w2 I a3 (((i10 + 15) - (I 35 i1)) + i11) i8) (fun I_144 => (if 0 ≤ i1 ∧ i1 < 5 then (if i11 = 0 then (if (-2147483648 ≤ (i10 + 15) - (I_144 35 i1) ∧ (i10 + 15) - (I_144 35 i1) ≤ 2147483647) ∧ (-2147483648 ≤ ((i10 + 15) - (I_144 35 i1)) + i11 ∧ ((i10 + 15) - (I_144 35 i1)) + i11 ≤ 2147483647) then (if ((a4 < e.1) ∧ (((e.2.1 a4).1 = 13) ∧ ((e.2.1 a4).2 < (2 ^ 31)))) ∧ (0 ≤ (((i10 + 15) - (I_144 35 i1)) + i11) ∧ (((i10 + 15) - (I_144 35 i1)) + i11) < (((e.2.1 a4).2 : Nat) : Int)) then (stI (w2 I_144 a4 (((i10 + 15) - (I_144 35 i1)) + i11) i9) (fun I_184 => (if -2147483648 ≤ i11 + 1 ∧ i11 + 1 ≤ 2147483647 then (kf_98 n dp e 2 I_184 L i1 i2 i5 i6 i7 i8 i9 i10 (i11 + 1) a3 a4) else none))) else none) else none) else (if 0 ≤ i1 ∧ i1 < 5 then (if (-2147483648 ≤ (i10 + 15) - (I_144 35 i1) ∧ (i10 + 15) - (I_144 35 i1) ≤ 2147483647) ∧ (-2147483648 ≤ ((i10 + 15) - (I_144 35 i1)) + i11 ∧ ((i10 + 15) - (I_144 35 i1)) + i11 ≤ 2147483647) then (if ((a4 < e.1) ∧ (((e.2.1 a4).1 = 13) ∧ ((e.2.1 a4).2 < (2 ^ 31)))) ∧ (0 ≤ (((i10 + 15) - (I_144 35 i1)) + i11) ∧ (((i10 + 15) - (I_144 35 i1)) + i11) < (((e.2.1 a4).2 : Nat) : Int)) then (if (-2147483648 ≤ i11 * (I_144 37 i1) ∧ i11 * (I_144 37 i1) ≤ 2147483647) ∧ (-2147483648 ≤ i9 + (i11 * (I_144 37 i1)) ∧ i9 + (i11 * (I_144 37 i1)) ≤ 2147483647) then (stI (w2 I_144 a4 (((i10 + 15) - (I_144 35 i1)) + i11) (i9 + (i11 * (I_144 37 i1)))) (fun I_184 => (if -2147483648 ≤ i11 + 1 ∧ i11 + 1 ≤ 2147483647 then (kf_98 n dp e 2 I_184 L i1 i2 i5 i6 i7 i8 i9 i10 (i11 + 1) a3 a4) else none))) else none) else none) else none) else none)) else none))) else none) else none) else (if 0 ≤ i1 ∧ i1 < 5 then (if (-2147483648 ≤ i10 + 15 ∧ i10 + 15 ≤ 2147483647) ∧ (-2147483648 ≤ (i10 + 15) - (I 35 i1) ∧ (i10 + 15) - (I 35 i1) ≤ 2147483647) ∧ (-2147483648 ≤ ((i10 + 15) - (I 35 i1)) + i11 ∧ ((i10 + 15) - (I 35 i1)) + i11 ≤ 2147483647) then (if ((a3 < e.1) ∧ (((e.2.1 a3).1 = 13) ∧ ((e.2.1 a3).2 < (2 ^ 31)))) ∧ (0 ≤ (((i10 + 15) - (I 35 i1)) + i11) ∧ (((i10 + 15) - (I 35 i1)) + i11) < (((e.2.1 a3).2 : Nat) : Int)) then (if (-2147483648 ≤ i11 * (I 36 i1) ∧ i11 * (I 36 i1) ≤ 2147483647) ∧ (-2147483648 ≤ i8 + (i11 * (I 36 i1)) ∧ i8 + (i11 * (I 36 i1)) ≤ 2147483647) then (stI (w2 I a3 (((i10 + 15) - (I 35 i1)) + i11) (i8 + (i11 * (I 36 i1)))) (fun I_144 => (if 0 ≤ i1 ∧ i1 < 5 then (if i11 = 0 then (if (-2147483648 ≤ (i10 + 15) - (I_144 35 i1) ∧ (i10 + 15) - (I_144 35 i1) ≤ 2147483647) ∧ (-2147483648 ≤ ((i10 + 15) - (I_144 35 i1)) + i11 ∧ ((i10 + 15) - (I_144 35 i1)) + i11 ≤ 2147483647) then (if ((a4 < e.1) ∧ (((e.2.1 a4).1 = 13) ∧ ((e.2.1 a4).2 < (2 ^ 31)))) ∧ (0 ≤ (((i10 + 15) - (I_144 35 i1)) + i11) ∧ (((i10 + 15) - (I_144 35 i1)) + i11) < (((e.2.1 a4).2 : Nat) : Int)) then (stI (w2 I_144 a4 (((i10 + 15) - (I_144 35 i1)) + i11) i9) (fun I_184 => (if -2147483648 ≤ i11 + 1 ∧ i11 + 1 ≤ 2147483647 then (kf_98 n dp e 2 I_184 L i1 i2 i5 i6 i7 i8 i9 i10 (i11 + 1) a3 a4) else none))) else none) else none) else (if 0 ≤ i1 ∧ i1 < 5 then (if (-2147483648 ≤ (i10 + 15) - (I_144 35 i1) ∧ (i10 + 15) - (I_144 35 i1) ≤ 2147483647) ∧ (-2147483648 ≤ ((i10 + 15) - (I_144 35 i1)) + i11 ∧ ((i10 + 15) - (I_144 35 i1)) + i11 ≤ 2147483647) then (if ((a4 < e.1) ∧ (((e.2.1 a4).1 = 13) ∧ ((e.2.1 a4).2 < (2 ^ 31)))) ∧ (0 ≤ (((i10 + 15) - (I_144 35 i1)) + i11) ∧ (((i10 + 15) - (I_144 35 i1)) + i11) < (((e.2.1 a4).2 : Nat) : Int)) then (if (-2147483648 ≤ i11 * (I_144 37 i1) ∧ i11 * (I_144 37 i1) ≤ 2147483647) ∧ (-2147483648 ≤ i9 + (i11 * (I_144 37 i1)) ∧ i9 + (i11 * (I_144 37 i1)) ≤ 2147483647) then (stI (w2 I_144 a4 (((i10 + 15) - (I_144 35 i1)) + i11) (i9 + (i11 * (I_144 37 i1)))) (fun I_184 => (if -2147483648 ≤ i11 + 1 ∧ i11 + 1 ≤ 2147483647 then (kf_98 n dp e 2 I_184 L i1 i2 i5 i6 i7 i8 i9 i10 (i11 + 1) a3 a4) else none))) else none) else none) else none) else none)) else none))) else none) else none) else none) else none)) else none)) else none)
    else none
set_option maxRecDepth 100000 in
theorem ke_98_0 (n : Nat) (dp : Nat) (e : EN) (I : JI) (L : JI) (i1 : Int) (i2 : Int) (i5 : Int) (i6 : Int) (i7 : Int) (i8 : Int) (i9 : Int) (i10 : Int) (i11 : Int) (a3 : Nat) (a4 : Nat) : kf_98 (n + 1) dp e 0 I L i1 i2 i5 i6 i7 i8 i9 i10 i11 a3 a4 = (if i2 = (-1) then (if i2 = (-1) then (kf_98 n dp e 1 I L i1 i2 0 0 0 0 0 0 0 a3 a4) else (kf_98 n dp e 1 I L i1 i2 0 15 0 0 0 0 0 a3 a4)) else (if 0 ≤ i2 ∧ i2 < 5 then (stI (I 35 i2) (fun v_15 => (if i2 = (-1) then (kf_98 n dp e 1 I L i1 i2 v_15 0 0 0 0 0 0 a3 a4) else (kf_98 n dp e 1 I L i1 i2 v_15 15 0 0 0 0 0 a3 a4)))) else none)) := by rw [kf_98.eq_2, if_pos (show (0 : Nat) = 0 from rfl)]
set_option maxRecDepth 100000 in
theorem ke_98_1 (n : Nat) (dp : Nat) (e : EN) (I : JI) (L : JI) (i1 : Int) (i2 : Int) (i5 : Int) (i6 : Int) (i7 : Int) (i8 : Int) (i9 : Int) (i10 : Int) (i11 : Int) (a3 : Nat) (a4 : Nat) : kf_98 (n + 1) dp e 1 I L i1 i2 i5 i6 i7 i8 i9 i10 i11 a3 a4 = (if i5 < i7 then (some (I, L)) else (if i7 = 0 then (if i7 = 0 then (if (-2147483648 ≤ i6 - i5 ∧ i6 - i5 ≤ 2147483647) ∧ (-2147483648 ≤ (i6 - i5) + i7 ∧ (i6 - i5) + i7 ≤ 2147483647) then (stI (bL ((i6 - i5) + i7) 5) (fun v_90 => (kf_98 n dp e 2 I L i1 i2 i5 i6 i7 0 0 v_90 0 a3 a4))) else none) else (if 0 ≤ i2 ∧ i2 < 5 then (if -2147483648 ≤ i7 * (I 37 i2) ∧ i7 * (I 37 i2) ≤ 2147483647 then (stI (i7 * (I 37 i2)) (fun v_78 => (if (-2147483648 ≤ i6 - i5 ∧ i6 - i5 ≤ 2147483647) ∧ (-2147483648 ≤ (i6 - i5) + i7 ∧ (i6 - i5) + i7 ≤ 2147483647) then (stI (bL ((i6 - i5) + i7) 5) (fun v_90 => (kf_98 n dp e 2 I L i1 i2 i5 i6 i7 0 v_78 v_90 0 a3 a4))) else none))) else none) else none)) else (if 0 ≤ i2 ∧ i2 < 5 then (if -2147483648 ≤ i7 * (I 36 i2) ∧ i7 * (I 36 i2) ≤ 2147483647 then (stI (i7 * (I 36 i2)) (fun v_58 => (if i7 = 0 then (if (-2147483648 ≤ i6 - i5 ∧ i6 - i5 ≤ 2147483647) ∧ (-2147483648 ≤ (i6 - i5) + i7 ∧ (i6 - i5) + i7 ≤ 2147483647) then (stI (bL ((i6 - i5) + i7) 5) (fun v_90 => (kf_98 n dp e 2 I L i1 i2 i5 i6 i7 v_58 0 v_90 0 a3 a4))) else none) else (if 0 ≤ i2 ∧ i2 < 5 then (if -2147483648 ≤ i7 * (I 37 i2) ∧ i7 * (I 37 i2) ≤ 2147483647 then (stI (i7 * (I 37 i2)) (fun v_78 => (if (-2147483648 ≤ i6 - i5 ∧ i6 - i5 ≤ 2147483647) ∧ (-2147483648 ≤ (i6 - i5) + i7 ∧ (i6 - i5) + i7 ≤ 2147483647) then (stI (bL ((i6 - i5) + i7) 5) (fun v_90 => (kf_98 n dp e 2 I L i1 i2 i5 i6 i7 v_58 v_78 v_90 0 a3 a4))) else none))) else none) else none)))) else none) else none))) := by rw [kf_98.eq_2, if_neg (show ¬ ((1 : Nat) = 0) by decide), if_pos (show (1 : Nat) = 1 from rfl)]
set_option maxRecDepth 100000 in
theorem ke_98_2 (n : Nat) (dp : Nat) (e : EN) (I : JI) (L : JI) (i1 : Int) (i2 : Int) (i5 : Int) (i6 : Int) (i7 : Int) (i8 : Int) (i9 : Int) (i10 : Int) (i11 : Int) (a3 : Nat) (a4 : Nat) : kf_98 (n + 1) dp e 2 I L i1 i2 i5 i6 i7 i8 i9 i10 i11 a3 a4 = (if 0 ≤ i1 ∧ i1 < 5 then (if (I 35 i1) < i11 then (if -2147483648 ≤ i7 + 1 ∧ i7 + 1 ≤ 2147483647 then (kf_98 n dp e 1 I L i1 i2 i5 i6 (i7 + 1) 0 0 0 0 a3 a4) else none) else (if 0 ≤ i1 ∧ i1 < 5 then (if i11 = 0 then (if (-2147483648 ≤ i10 + 15 ∧ i10 + 15 ≤ 2147483647) ∧ (-2147483648 ≤ (i10 + 15) - (I 35 i1) ∧ (i10 + 15) - (I 35 i1) ≤ 2147483647) ∧ (-2147483648 ≤ ((i10 + 15) - (I 35 i1)) + i11 ∧ ((i10 + 15) - (I 35 i1)) + i11 ≤ 2147483647) then (if ((a3 < e.1) ∧ (((e.2.1 a3).1 = 13) ∧ ((e.2.1 a3).2 < (2 ^ 31)))) ∧ (0 ≤ (((i10 + 15) - (I 35 i1)) + i11) ∧ (((i10 + 15) - (I 35 i1)) + i11) < (((e.2.1 a3).2 : Nat) : Int)) then (stI (w2 I a3 (((i10 + 15) - (I 35 i1)) + i11) i8) (fun I_144 => (if 0 ≤ i1 ∧ i1 < 5 then (if i11 = 0 then (if (-2147483648 ≤ (i10 + 15) - (I_144 35 i1) ∧ (i10 + 15) - (I_144 35 i1) ≤ 2147483647) ∧ (-2147483648 ≤ ((i10 + 15) - (I_144 35 i1)) + i11 ∧ ((i10 + 15) - (I_144 35 i1)) + i11 ≤ 2147483647) then (if ((a4 < e.1) ∧ (((e.2.1 a4).1 = 13) ∧ ((e.2.1 a4).2 < (2 ^ 31)))) ∧ (0 ≤ (((i10 + 15) - (I_144 35 i1)) + i11) ∧ (((i10 + 15) - (I_144 35 i1)) + i11) < (((e.2.1 a4).2 : Nat) : Int)) then (stI (w2 I_144 a4 (((i10 + 15) - (I_144 35 i1)) + i11) i9) (fun I_184 => (if -2147483648 ≤ i11 + 1 ∧ i11 + 1 ≤ 2147483647 then (kf_98 n dp e 2 I_184 L i1 i2 i5 i6 i7 i8 i9 i10 (i11 + 1) a3 a4) else none))) else none) else none) else (if 0 ≤ i1 ∧ i1 < 5 then (if (-2147483648 ≤ (i10 + 15) - (I_144 35 i1) ∧ (i10 + 15) - (I_144 35 i1) ≤ 2147483647) ∧ (-2147483648 ≤ ((i10 + 15) - (I_144 35 i1)) + i11 ∧ ((i10 + 15) - (I_144 35 i1)) + i11 ≤ 2147483647) then (if ((a4 < e.1) ∧ (((e.2.1 a4).1 = 13) ∧ ((e.2.1 a4).2 < (2 ^ 31)))) ∧ (0 ≤ (((i10 + 15) - (I_144 35 i1)) + i11) ∧ (((i10 + 15) - (I_144 35 i1)) + i11) < (((e.2.1 a4).2 : Nat) : Int)) then (if (-2147483648 ≤ i11 * (I_144 37 i1) ∧ i11 * (I_144 37 i1) ≤ 2147483647) ∧ (-2147483648 ≤ i9 + (i11 * (I_144 37 i1)) ∧ i9 + (i11 * (I_144 37 i1)) ≤ 2147483647) then (stI (w2 I_144 a4 (((i10 + 15) - (I_144 35 i1)) + i11) (i9 + (i11 * (I_144 37 i1)))) (fun I_184 => (if -2147483648 ≤ i11 + 1 ∧ i11 + 1 ≤ 2147483647 then (kf_98 n dp e 2 I_184 L i1 i2 i5 i6 i7 i8 i9 i10 (i11 + 1) a3 a4) else none))) else none) else none) else none) else none)) else none))) else none) else none) else (if 0 ≤ i1 ∧ i1 < 5 then (if (-2147483648 ≤ i10 + 15 ∧ i10 + 15 ≤ 2147483647) ∧ (-2147483648 ≤ (i10 + 15) - (I 35 i1) ∧ (i10 + 15) - (I 35 i1) ≤ 2147483647) ∧ (-2147483648 ≤ ((i10 + 15) - (I 35 i1)) + i11 ∧ ((i10 + 15) - (I 35 i1)) + i11 ≤ 2147483647) then (if ((a3 < e.1) ∧ (((e.2.1 a3).1 = 13) ∧ ((e.2.1 a3).2 < (2 ^ 31)))) ∧ (0 ≤ (((i10 + 15) - (I 35 i1)) + i11) ∧ (((i10 + 15) - (I 35 i1)) + i11) < (((e.2.1 a3).2 : Nat) : Int)) then (if (-2147483648 ≤ i11 * (I 36 i1) ∧ i11 * (I 36 i1) ≤ 2147483647) ∧ (-2147483648 ≤ i8 + (i11 * (I 36 i1)) ∧ i8 + (i11 * (I 36 i1)) ≤ 2147483647) then (stI (w2 I a3 (((i10 + 15) - (I 35 i1)) + i11) (i8 + (i11 * (I 36 i1)))) (fun I_144 => (if 0 ≤ i1 ∧ i1 < 5 then (if i11 = 0 then (if (-2147483648 ≤ (i10 + 15) - (I_144 35 i1) ∧ (i10 + 15) - (I_144 35 i1) ≤ 2147483647) ∧ (-2147483648 ≤ ((i10 + 15) - (I_144 35 i1)) + i11 ∧ ((i10 + 15) - (I_144 35 i1)) + i11 ≤ 2147483647) then (if ((a4 < e.1) ∧ (((e.2.1 a4).1 = 13) ∧ ((e.2.1 a4).2 < (2 ^ 31)))) ∧ (0 ≤ (((i10 + 15) - (I_144 35 i1)) + i11) ∧ (((i10 + 15) - (I_144 35 i1)) + i11) < (((e.2.1 a4).2 : Nat) : Int)) then (stI (w2 I_144 a4 (((i10 + 15) - (I_144 35 i1)) + i11) i9) (fun I_184 => (if -2147483648 ≤ i11 + 1 ∧ i11 + 1 ≤ 2147483647 then (kf_98 n dp e 2 I_184 L i1 i2 i5 i6 i7 i8 i9 i10 (i11 + 1) a3 a4) else none))) else none) else none) else (if 0 ≤ i1 ∧ i1 < 5 then (if (-2147483648 ≤ (i10 + 15) - (I_144 35 i1) ∧ (i10 + 15) - (I_144 35 i1) ≤ 2147483647) ∧ (-2147483648 ≤ ((i10 + 15) - (I_144 35 i1)) + i11 ∧ ((i10 + 15) - (I_144 35 i1)) + i11 ≤ 2147483647) then (if ((a4 < e.1) ∧ (((e.2.1 a4).1 = 13) ∧ ((e.2.1 a4).2 < (2 ^ 31)))) ∧ (0 ≤ (((i10 + 15) - (I_144 35 i1)) + i11) ∧ (((i10 + 15) - (I_144 35 i1)) + i11) < (((e.2.1 a4).2 : Nat) : Int)) then (if (-2147483648 ≤ i11 * (I_144 37 i1) ∧ i11 * (I_144 37 i1) ≤ 2147483647) ∧ (-2147483648 ≤ i9 + (i11 * (I_144 37 i1)) ∧ i9 + (i11 * (I_144 37 i1)) ≤ 2147483647) then (stI (w2 I_144 a4 (((i10 + 15) - (I_144 35 i1)) + i11) (i9 + (i11 * (I_144 37 i1)))) (fun I_184 => (if -2147483648 ≤ i11 + 1 ∧ i11 + 1 ≤ 2147483647 then (kf_98 n dp e 2 I_184 L i1 i2 i5 i6 i7 i8 i9 i10 (i11 + 1) a3 a4) else none))) else none) else none) else none) else none)) else none))) else none) else none) else none) else none)) else none)) else none) := by rw [kf_98.eq_2, if_neg (show ¬ ((2 : Nat) = 0) by decide), if_neg (show ¬ ((2 : Nat) = 1) by decide), if_pos (show (2 : Nat) = 2 from rfl)]
set_option maxHeartbeats 8000000 in
set_option maxRecDepth 100000 in
theorem ks_98 : ∀ (n : Nat) (dp : Nat) (e : EN) (lab : Nat) (I : Nat → Nat → Int32) (I' : JI) (L : Nat → Nat → Int64) (L' : JI) (i1 : Int32) (i1' : Int) (i2 : Int32) (i2' : Int) (i5 : Int32) (i5' : Int) (i6 : Int32) (i6' : Int) (i7 : Int32) (i7' : Int) (i8 : Int32) (i8' : Int) (i9 : Int32) (i9' : Int) (i10 : Int32) (i10' : Int) (i11 : Int32) (i11' : Int) (a3 : Nat) (a4 : Nat), Rli I I' → Rll L L' → Ui i1 i1' → Ui i2 i2' → Ui i5 i5' → Ui i6 i6' → Ui i7 i7' → Ui i8 i8' → Ui i9 i9' → Ui i10 i10' → Ui i11 i11' → Sim R2 (g_98 n dp e lab I L i1 i2 i5 i6 i7 i8 i9 i10 i11 a3 a4) (kf_98 n dp e lab I' L' i1' i2' i5' i6' i7' i8' i9' i10' i11' a3 a4) := by
  intro n
  induction n with
  | zero => intros; rw [kf_98.eq_1]; exact Sn
  | succ n ih =>
    intro dp e lab I I' L L' i1 i1' i2 i2' i5 i5' i6 i6' i7 i7' i8 i8' i9 i9' i10 i10' i11 i11' a3 a4 u_I u_L u_i1 u_i2 u_i5 u_i6 u_i7 u_i8 u_i9 u_i10 u_i11
    rw [g_98.eq_2, kf_98.eq_2]
    refine Sc Iff.rfl (fun _ => ?_) (fun _ => ?_)
    · refine Sc (eq_up u_i2 (rfl : Ui (-1) (-1))) (fun c1 => ?_) (fun c1 => ?_)
      · refine Sc (eq_up u_i2 (rfl : Ui (-1) (-1))) (fun c2 => ?_) (fun c2 => ?_)
        · exact (ih dp e 1 _ _ _ _ _ _ _ _ _ _ _ _ _ _ _ _ _ _ _ _ _ _ a3 a4 u_I u_L u_i1 u_i2 (rfl : Ui (0) (0)) (rfl : Ui (0) (0)) (rfl : Ui (0) (0)) (rfl : Ui 0 0) (rfl : Ui 0 0) (rfl : Ui 0 0) (rfl : Ui 0 0))
        · exact (ih dp e 1 _ _ _ _ _ _ _ _ _ _ _ _ _ _ _ _ _ _ _ _ _ _ a3 a4 u_I u_L u_i1 u_i2 (rfl : Ui (0) (0)) (rfl : Ui (15) (15)) (rfl : Ui (0) (0)) (rfl : Ui 0 0) (rfl : Ui 0 0) (rfl : Ui 0 0) (rfl : Ui 0 0))
      · refine Sc (ix_up u_i2) (fun c3 => ?_) (fun _ => Sn)
        refine SsI (ui_rd (a := 35) u_I u_i2 c3.1) (fun v_15 v_15' u_v_15 => ?_)
        refine Sc (eq_up u_i2 (rfl : Ui (-1) (-1))) (fun c4 => ?_) (fun c4 => ?_)
        · exact (ih dp e 1 _ _ _ _ _ _ _ _ _ _ _ _ _ _ _ _ _ _ _ _ _ _ a3 a4 u_I u_L u_i1 u_i2 u_v_15 (rfl : Ui (0) (0)) (rfl : Ui (0) (0)) (rfl : Ui 0 0) (rfl : Ui 0 0) (rfl : Ui 0 0) (rfl : Ui 0 0))
        · exact (ih dp e 1 _ _ _ _ _ _ _ _ _ _ _ _ _ _ _ _ _ _ _ _ _ _ a3 a4 u_I u_L u_i1 u_i2 u_v_15 (rfl : Ui (15) (15)) (rfl : Ui (0) (0)) (rfl : Ui 0 0) (rfl : Ui 0 0) (rfl : Ui 0 0) (rfl : Ui 0 0))
    refine Sc Iff.rfl (fun _ => ?_) (fun _ => ?_)
    · refine Sc (lt_up u_i5 u_i7) (fun c1 => ?_) (fun c1 => ?_)
      · exact Sr ⟨u_I, u_L⟩
      · refine Sc (eq_up u_i7 (rfl : Ui 0 0)) (fun c2 => ?_) (fun c2 => ?_)
        · refine Sc (eq_up u_i7 (rfl : Ui 0 0)) (fun c3 => ?_) (fun c3 => ?_)
          · refine Sg (fun g4 => ?_)
            refine SsI (ui_shl (ui_add (ui_sub u_i6 u_i5 g4.1) u_i7 g4.2) (rfl : Ui (5) (5))) (fun v_90 v_90' u_v_90 => ?_)
            exact (ih dp e 2 _ _ _ _ _ _ _ _ _ _ _ _ _ _ _ _ _ _ _ _ _ _ a3 a4 u_I u_L u_i1 u_i2 u_i5 u_i6 u_i7 (rfl : Ui (0) (0)) (rfl : Ui (0) (0)) u_v_90 (rfl : Ui (0) (0)))
          · refine Sc (ix_up u_i2) (fun c5 => ?_) (fun _ => Sn)
            refine Sg (fun g6 => ?_)
            refine SsI (ui_mul u_i7 (ui_rd (a := 37) u_I u_i2 c5.1) g6) (fun v_78 v_78' u_v_78 => ?_)
            refine Sg (fun g7 => ?_)
            refine SsI (ui_shl (ui_add (ui_sub u_i6 u_i5 g7.1) u_i7 g7.2) (rfl : Ui (5) (5))) (fun v_90 v_90' u_v_90 => ?_)
            exact (ih dp e 2 _ _ _ _ _ _ _ _ _ _ _ _ _ _ _ _ _ _ _ _ _ _ a3 a4 u_I u_L u_i1 u_i2 u_i5 u_i6 u_i7 (rfl : Ui (0) (0)) u_v_78 u_v_90 (rfl : Ui (0) (0)))
        · refine Sc (ix_up u_i2) (fun c8 => ?_) (fun _ => Sn)
          refine Sg (fun g9 => ?_)
          refine SsI (ui_mul u_i7 (ui_rd (a := 36) u_I u_i2 c8.1) g9) (fun v_58 v_58' u_v_58 => ?_)
          refine Sc (eq_up u_i7 (rfl : Ui 0 0)) (fun c10 => ?_) (fun c10 => ?_)
          · refine Sg (fun g11 => ?_)
            refine SsI (ui_shl (ui_add (ui_sub u_i6 u_i5 g11.1) u_i7 g11.2) (rfl : Ui (5) (5))) (fun v_90 v_90' u_v_90 => ?_)
            exact (ih dp e 2 _ _ _ _ _ _ _ _ _ _ _ _ _ _ _ _ _ _ _ _ _ _ a3 a4 u_I u_L u_i1 u_i2 u_i5 u_i6 u_i7 u_v_58 (rfl : Ui (0) (0)) u_v_90 (rfl : Ui (0) (0)))
          · refine Sc (ix_up u_i2) (fun c12 => ?_) (fun _ => Sn)
            refine Sg (fun g13 => ?_)
            refine SsI (ui_mul u_i7 (ui_rd (a := 37) u_I u_i2 c12.1) g13) (fun v_78 v_78' u_v_78 => ?_)
            refine Sg (fun g14 => ?_)
            refine SsI (ui_shl (ui_add (ui_sub u_i6 u_i5 g14.1) u_i7 g14.2) (rfl : Ui (5) (5))) (fun v_90 v_90' u_v_90 => ?_)
            exact (ih dp e 2 _ _ _ _ _ _ _ _ _ _ _ _ _ _ _ _ _ _ _ _ _ _ a3 a4 u_I u_L u_i1 u_i2 u_i5 u_i6 u_i7 u_v_58 u_v_78 u_v_90 (rfl : Ui (0) (0)))
    refine Sc Iff.rfl (fun _ => ?_) (fun _ => ?_)
    · refine Sc (ix_up u_i1) (fun c1 => ?_) (fun _ => Sn)
      refine Sc (lt_up (ui_rd (a := 35) u_I u_i1 c1.1) u_i11) (fun c2 => ?_) (fun c2 => ?_)
      · refine Sg (fun g3 => ?_)
        exact (ih dp e 1 _ _ _ _ _ _ _ _ _ _ _ _ _ _ _ _ _ _ _ _ _ _ a3 a4 u_I u_L u_i1 u_i2 u_i5 u_i6 (ui_add u_i7 (rfl : Ui (Int32.ofInt (1)) (1)) g3) (rfl : Ui 0 0) (rfl : Ui 0 0) (rfl : Ui 0 0) (rfl : Ui 0 0))
      · refine Sc (ix_up u_i1) (fun c4 => ?_) (fun _ => Sn)
        refine Sc (eq_up u_i11 (rfl : Ui 0 0)) (fun c5 => ?_) (fun c5 => ?_)
        · refine Sg (fun g6 => ?_)
          refine Sc (and_congr Iff.rfl (ix_up (ui_add (ui_sub (ui_add u_i10 (rfl : Ui (15) (15)) g6.1) (ui_rd (a := 35) u_I u_i1 c4.1) g6.2.1) u_i11 g6.2.2))) (fun c7 => ?_) (fun _ => Sn)
          refine SsJ (ri_up u_I (kc_up (ui_add (ui_sub (ui_add u_i10 (rfl : Ui (15) (15)) g6.1) (ui_rd (a := 35) u_I u_i1 c4.1) g6.2.1) u_i11 g6.2.2) c7.2.1) u_i8) (fun I_144 I_144' u_I_144 => ?_)
          refine Sc (ix_up u_i1) (fun c8 => ?_) (fun _ => Sn)
          refine Sc (eq_up u_i11 (rfl : Ui 0 0)) (fun c9 => ?_) (fun c9 => ?_)
          · refine Sg (fun g10 => ?_)
            refine Sc (and_congr Iff.rfl (ix_up (ui_add (ui_sub (ui_add u_i10 (rfl : Ui (15) (15)) g6.1) (ui_rd (a := 35) u_I_144 u_i1 c8.1) g10.1) u_i11 g10.2))) (fun c11 => ?_) (fun _ => Sn)
            refine SsJ (ri_up u_I_144 (kc_up (ui_add (ui_sub (ui_add u_i10 (rfl : Ui (15) (15)) g6.1) (ui_rd (a := 35) u_I_144 u_i1 c8.1) g10.1) u_i11 g10.2) c11.2.1) u_i9) (fun I_184 I_184' u_I_184 => ?_)
            refine Sg (fun g12 => ?_)
            exact (ih dp e 2 _ _ _ _ _ _ _ _ _ _ _ _ _ _ _ _ _ _ _ _ _ _ a3 a4 u_I_184 u_L u_i1 u_i2 u_i5 u_i6 u_i7 u_i8 u_i9 u_i10 (ui_add u_i11 (rfl : Ui (Int32.ofInt (1)) (1)) g12))
          · refine Sc (ix_up u_i1) (fun c13 => ?_) (fun _ => Sn)
            refine Sg (fun g14 => ?_)
            refine Sc (and_congr Iff.rfl (ix_up (ui_add (ui_sub (ui_add u_i10 (rfl : Ui (15) (15)) g6.1) (ui_rd (a := 35) u_I_144 u_i1 c13.1) g14.1) u_i11 g14.2))) (fun c15 => ?_) (fun _ => Sn)
            refine Sg (fun g16 => ?_)
            refine SsJ (ri_up u_I_144 (kc_up (ui_add (ui_sub (ui_add u_i10 (rfl : Ui (15) (15)) g6.1) (ui_rd (a := 35) u_I_144 u_i1 c13.1) g14.1) u_i11 g14.2) c15.2.1) (ui_add u_i9 (ui_mul u_i11 (ui_rd (a := 37) u_I_144 u_i1 c13.1) g16.1) g16.2)) (fun I_184 I_184' u_I_184 => ?_)
            refine Sg (fun g17 => ?_)
            exact (ih dp e 2 _ _ _ _ _ _ _ _ _ _ _ _ _ _ _ _ _ _ _ _ _ _ a3 a4 u_I_184 u_L u_i1 u_i2 u_i5 u_i6 u_i7 u_i8 u_i9 u_i10 (ui_add u_i11 (rfl : Ui (Int32.ofInt (1)) (1)) g17))
        · refine Sc (ix_up u_i1) (fun c18 => ?_) (fun _ => Sn)
          refine Sg (fun g19 => ?_)
          refine Sc (and_congr Iff.rfl (ix_up (ui_add (ui_sub (ui_add u_i10 (rfl : Ui (15) (15)) g19.1) (ui_rd (a := 35) u_I u_i1 c18.1) g19.2.1) u_i11 g19.2.2))) (fun c20 => ?_) (fun _ => Sn)
          refine Sg (fun g21 => ?_)
          refine SsJ (ri_up u_I (kc_up (ui_add (ui_sub (ui_add u_i10 (rfl : Ui (15) (15)) g19.1) (ui_rd (a := 35) u_I u_i1 c18.1) g19.2.1) u_i11 g19.2.2) c20.2.1) (ui_add u_i8 (ui_mul u_i11 (ui_rd (a := 36) u_I u_i1 c18.1) g21.1) g21.2)) (fun I_144 I_144' u_I_144 => ?_)
          refine Sc (ix_up u_i1) (fun c22 => ?_) (fun _ => Sn)
          refine Sc (eq_up u_i11 (rfl : Ui 0 0)) (fun c23 => ?_) (fun c23 => ?_)
          · refine Sg (fun g24 => ?_)
            refine Sc (and_congr Iff.rfl (ix_up (ui_add (ui_sub (ui_add u_i10 (rfl : Ui (15) (15)) g19.1) (ui_rd (a := 35) u_I_144 u_i1 c22.1) g24.1) u_i11 g24.2))) (fun c25 => ?_) (fun _ => Sn)
            refine SsJ (ri_up u_I_144 (kc_up (ui_add (ui_sub (ui_add u_i10 (rfl : Ui (15) (15)) g19.1) (ui_rd (a := 35) u_I_144 u_i1 c22.1) g24.1) u_i11 g24.2) c25.2.1) u_i9) (fun I_184 I_184' u_I_184 => ?_)
            refine Sg (fun g26 => ?_)
            exact (ih dp e 2 _ _ _ _ _ _ _ _ _ _ _ _ _ _ _ _ _ _ _ _ _ _ a3 a4 u_I_184 u_L u_i1 u_i2 u_i5 u_i6 u_i7 u_i8 u_i9 u_i10 (ui_add u_i11 (rfl : Ui (Int32.ofInt (1)) (1)) g26))
          · refine Sc (ix_up u_i1) (fun c27 => ?_) (fun _ => Sn)
            refine Sg (fun g28 => ?_)
            refine Sc (and_congr Iff.rfl (ix_up (ui_add (ui_sub (ui_add u_i10 (rfl : Ui (15) (15)) g19.1) (ui_rd (a := 35) u_I_144 u_i1 c27.1) g28.1) u_i11 g28.2))) (fun c29 => ?_) (fun _ => Sn)
            refine Sg (fun g30 => ?_)
            refine SsJ (ri_up u_I_144 (kc_up (ui_add (ui_sub (ui_add u_i10 (rfl : Ui (15) (15)) g19.1) (ui_rd (a := 35) u_I_144 u_i1 c27.1) g28.1) u_i11 g28.2) c29.2.1) (ui_add u_i9 (ui_mul u_i11 (ui_rd (a := 37) u_I_144 u_i1 c27.1) g30.1) g30.2)) (fun I_184 I_184' u_I_184 => ?_)
            refine Sg (fun g31 => ?_)
            exact (ih dp e 2 _ _ _ _ _ _ _ _ _ _ _ _ _ _ _ _ _ _ _ _ _ _ a3 a4 u_I_184 u_L u_i1 u_i2 u_i5 u_i6 u_i7 u_i8 u_i9 u_i10 (ui_add u_i11 (rfl : Ui (Int32.ofInt (1)) (1)) g31))
    exact Sn
set_option maxHeartbeats 4000000 in
set_option maxRecDepth 100000 in
def kf_100 : Nat → Nat → EN → Nat → JI → JI → Int → Int → Int → Nat → Option (Int × JI × JI)
  | 0, _, _, _, _, _, _, _, _, _ => none
  | n + 1, dp, e, lab, I, L, i2, i3, i4, a1 =>
    if lab = 0 then (kf_100 n dp e 1 I L i2 0 0 a1)
    else if lab = 1 then (if (I 26 17) ≤ i4 then (some ((i3 : Int), I, L)) else (if (a1 < e.1) ∧ ((e.2.1 a1).1 = 2) then ((e.2.2 a1 1).bind (fun b_15 => (if 0 ≤ i4 ∧ i4 < 5 then (if (-2147483648 ≤ i2 * 10 ∧ i2 * 10 ≤ 2147483647) ∧ (-2147483648 ≤ (i2 * 10) + (I 34 i4) ∧ (i2 * 10) + (I 34 i4) ≤ 2147483647) then (if ((b_15 < e.1) ∧ (((e.2.1 b_15).1 = 13) ∧ ((e.2.1 b_15).2 < (2 ^ 31)))) ∧ (0 ≤ ((i2 * 10) + (I 34 i4)) ∧ ((i2 * 10) + (I 34 i4)) < (((e.2.1 b_15).2 : Nat) : Int)) then (stI (I b_15 ((i2 * 10) + (I 34 i4))) (fun v_31 => (if 0 ≤ i4 ∧ i4 < 5 then (if 1 ≤ dp then (if -2147483648 ≤ 5 * i4 ∧ 5 * i4 ≤ 2147483647 then (stI (bO i3 (bL (min (I 35 i4) v_31) (5 * i4))) (fun v_52 => (if -2147483648 ≤ i4 + 1 ∧ i4 + 1 ≤ 2147483647 then (kf_100 n dp e 1 I L i2 v_52 (i4 + 1) a1) else none))) else none) else none) else none))) else none) else none) else none))) else none))
    else none
set_option maxRecDepth 100000 in
theorem ke_100_0 (n : Nat) (dp : Nat) (e : EN) (I : JI) (L : JI) (i2 : Int) (i3 : Int) (i4 : Int) (a1 : Nat) : kf_100 (n + 1) dp e 0 I L i2 i3 i4 a1 = (kf_100 n dp e 1 I L i2 0 0 a1) := by rw [kf_100.eq_2, if_pos (show (0 : Nat) = 0 from rfl)]
set_option maxRecDepth 100000 in
theorem ke_100_1 (n : Nat) (dp : Nat) (e : EN) (I : JI) (L : JI) (i2 : Int) (i3 : Int) (i4 : Int) (a1 : Nat) : kf_100 (n + 1) dp e 1 I L i2 i3 i4 a1 = (if (I 26 17) ≤ i4 then (some ((i3 : Int), I, L)) else (if (a1 < e.1) ∧ ((e.2.1 a1).1 = 2) then ((e.2.2 a1 1).bind (fun b_15 => (if 0 ≤ i4 ∧ i4 < 5 then (if (-2147483648 ≤ i2 * 10 ∧ i2 * 10 ≤ 2147483647) ∧ (-2147483648 ≤ (i2 * 10) + (I 34 i4) ∧ (i2 * 10) + (I 34 i4) ≤ 2147483647) then (if ((b_15 < e.1) ∧ (((e.2.1 b_15).1 = 13) ∧ ((e.2.1 b_15).2 < (2 ^ 31)))) ∧ (0 ≤ ((i2 * 10) + (I 34 i4)) ∧ ((i2 * 10) + (I 34 i4)) < (((e.2.1 b_15).2 : Nat) : Int)) then (stI (I b_15 ((i2 * 10) + (I 34 i4))) (fun v_31 => (if 0 ≤ i4 ∧ i4 < 5 then (if 1 ≤ dp then (if -2147483648 ≤ 5 * i4 ∧ 5 * i4 ≤ 2147483647 then (stI (bO i3 (bL (min (I 35 i4) v_31) (5 * i4))) (fun v_52 => (if -2147483648 ≤ i4 + 1 ∧ i4 + 1 ≤ 2147483647 then (kf_100 n dp e 1 I L i2 v_52 (i4 + 1) a1) else none))) else none) else none) else none))) else none) else none) else none))) else none)) := by rw [kf_100.eq_2, if_neg (show ¬ ((1 : Nat) = 0) by decide), if_pos (show (1 : Nat) = 1 from rfl)]
set_option maxHeartbeats 8000000 in
set_option maxRecDepth 100000 in
theorem ks_100 : ∀ (n : Nat) (dp : Nat) (e : EN) (lab : Nat) (I : Nat → Nat → Int32) (I' : JI) (L : Nat → Nat → Int64) (L' : JI) (i2 : Int32) (i2' : Int) (i3 : Int32) (i3' : Int) (i4 : Int32) (i4' : Int) (a1 : Nat), Rli I I' → Rll L L' → Ui i2 i2' → Ui i3 i3' → Ui i4 i4' → Sim R3 (g_100 n dp e lab I L i2 i3 i4 a1) (kf_100 n dp e lab I' L' i2' i3' i4' a1) := by
  intro n
  induction n with
  | zero => intros; rw [kf_100.eq_1]; exact Sn
  | succ n ih =>
    intro dp e lab I I' L L' i2 i2' i3 i3' i4 i4' a1 u_I u_L u_i2 u_i3 u_i4
    rw [g_100.eq_2, kf_100.eq_2]
    refine Sc Iff.rfl (fun _ => ?_) (fun _ => ?_)
    · exact (ih dp e 1 _ _ _ _ _ _ _ _ _ _ a1 u_I u_L u_i2 (rfl : Ui (0) (0)) (rfl : Ui (0) (0)))
    refine Sc Iff.rfl (fun _ => ?_) (fun _ => ?_)
    · refine Sc (le_up (u_I 26 17) u_i4) (fun c1 => ?_) (fun c1 => ?_)
      · exact Sr ⟨u_i3, u_I, u_L⟩
      · refine Sc Iff.rfl (fun c2 => ?_) (fun _ => Sn)
        refine SbE rfl (fun b_15 => ?_)
        refine Sc (ix_up u_i4) (fun c3 => ?_) (fun _ => Sn)
        refine Sg (fun g4 => ?_)
        refine Sc (and_congr Iff.rfl (ix_up (ui_add (ui_mul u_i2 (rfl : Ui (10) (10)) g4.1) (ui_rd (a := 34) u_I u_i4 c3.1) g4.2))) (fun c5 => ?_) (fun _ => Sn)
        refine SsI (ui_rd (a := b_15) u_I (ui_add (ui_mul u_i2 (rfl : Ui (10) (10)) g4.1) (ui_rd (a := 34) u_I u_i4 c3.1) g4.2) c5.2.1) (fun v_31 v_31' u_v_31 => ?_)
        refine Sc (ix_up u_i4) (fun c6 => ?_) (fun _ => Sn)
        refine Sc Iff.rfl (fun c7 => ?_) (fun _ => Sn)
        refine Sg (fun g8 => ?_)
        refine SsI (ui_or u_i3 (ui_shl (ui_min (ui_rd (a := 35) u_I u_i4 c6.1) u_v_31) (ui_mul (rfl : Ui (5) (5)) u_i4 g8))) (fun v_52 v_52' u_v_52 => ?_)
        refine Sg (fun g9 => ?_)
        exact (ih dp e 1 _ _ _ _ _ _ _ _ _ _ a1 u_I u_L u_i2 u_v_52 (ui_add u_i4 (rfl : Ui (Int32.ofInt (1)) (1)) g9))
    exact Sn
set_option maxHeartbeats 4000000 in
set_option maxRecDepth 100000 in
def kf_101 : Nat → Nat → EN → Nat → JI → JI → Int → Int → Int → Nat → Option (Int × JI × JI)
  | 0, _, _, _, _, _, _, _, _, _ => none
  | n + 1, dp, e, lab, I, L, i2, i3, i4, a1 =>
    if lab = 0 then (kf_101 n dp e 1 I L i2 0 0 a1)
    else if lab = 1 then (if 10 ≤ i4 then (if -2147483648 ≤ i3 * 16 ∧ i3 * 16 ≤ 2147483647 then (some (((i3 * 16) : Int), I, L)) else none) else (if (a1 < e.1) ∧ ((e.2.1 a1).1 = 2) then ((e.2.2 a1 1).bind (fun b_14 => (if (-2147483648 ≤ i2 * 10 ∧ i2 * 10 ≤ 2147483647) ∧ (-2147483648 ≤ (i2 * 10) + i4 ∧ (i2 * 10) + i4 ≤ 2147483647) then (if ((b_14 < e.1) ∧ (((e.2.1 b_14).1 = 13) ∧ ((e.2.1 b_14).2 < (2 ^ 31)))) ∧ (0 ≤ ((i2 * 10) + i4) ∧ ((i2 * 10) + i4) < (((e.2.1 b_14).2 : Nat) : Int)) then (if -2147483648 ≤ 10 + i4 ∧ 10 + i4 ≤ 2147483647 then (if 0 ≤ (10 + i4) ∧ (10 + i4) < 30 then (if (-2147483648 ≤ (I b_14 ((i2 * 10) + i4)) * (I 4 (10 + i4)) ∧ (I b_14 ((i2 * 10) + i4)) * (I 4 (10 + i4)) ≤ 2147483647) ∧ (-2147483648 ≤ i3 + ((I b_14 ((i2 * 10) + i4)) * (I 4 (10 + i4))) ∧ i3 + ((I b_14 ((i2 * 10) + i4)) * (I 4 (10 + i4))) ≤ 2147483647) then (stI (i3 + ((I b_14 ((i2 * 10) + i4)) * (I 4 (10 + i4)))) (fun v_37 => (if -2147483648 ≤ i4 + 1 ∧ i4 + 1 ≤ 2147483647 then (kf_101 n dp e 1 I L i2 v_37 (i4 + 1) a1) else none))) else none) else none) else none) else none) else none))) else none))
    else none
set_option maxRecDepth 100000 in
theorem ke_101_0 (n : Nat) (dp : Nat) (e : EN) (I : JI) (L : JI) (i2 : Int) (i3 : Int) (i4 : Int) (a1 : Nat) : kf_101 (n + 1) dp e 0 I L i2 i3 i4 a1 = (kf_101 n dp e 1 I L i2 0 0 a1) := by rw [kf_101.eq_2, if_pos (show (0 : Nat) = 0 from rfl)]
set_option maxRecDepth 100000 in
theorem ke_101_1 (n : Nat) (dp : Nat) (e : EN) (I : JI) (L : JI) (i2 : Int) (i3 : Int) (i4 : Int) (a1 : Nat) : kf_101 (n + 1) dp e 1 I L i2 i3 i4 a1 = (if 10 ≤ i4 then (if -2147483648 ≤ i3 * 16 ∧ i3 * 16 ≤ 2147483647 then (some (((i3 * 16) : Int), I, L)) else none) else (if (a1 < e.1) ∧ ((e.2.1 a1).1 = 2) then ((e.2.2 a1 1).bind (fun b_14 => (if (-2147483648 ≤ i2 * 10 ∧ i2 * 10 ≤ 2147483647) ∧ (-2147483648 ≤ (i2 * 10) + i4 ∧ (i2 * 10) + i4 ≤ 2147483647) then (if ((b_14 < e.1) ∧ (((e.2.1 b_14).1 = 13) ∧ ((e.2.1 b_14).2 < (2 ^ 31)))) ∧ (0 ≤ ((i2 * 10) + i4) ∧ ((i2 * 10) + i4) < (((e.2.1 b_14).2 : Nat) : Int)) then (if -2147483648 ≤ 10 + i4 ∧ 10 + i4 ≤ 2147483647 then (if 0 ≤ (10 + i4) ∧ (10 + i4) < 30 then (if (-2147483648 ≤ (I b_14 ((i2 * 10) + i4)) * (I 4 (10 + i4)) ∧ (I b_14 ((i2 * 10) + i4)) * (I 4 (10 + i4)) ≤ 2147483647) ∧ (-2147483648 ≤ i3 + ((I b_14 ((i2 * 10) + i4)) * (I 4 (10 + i4))) ∧ i3 + ((I b_14 ((i2 * 10) + i4)) * (I 4 (10 + i4))) ≤ 2147483647) then (stI (i3 + ((I b_14 ((i2 * 10) + i4)) * (I 4 (10 + i4)))) (fun v_37 => (if -2147483648 ≤ i4 + 1 ∧ i4 + 1 ≤ 2147483647 then (kf_101 n dp e 1 I L i2 v_37 (i4 + 1) a1) else none))) else none) else none) else none) else none) else none))) else none)) := by rw [kf_101.eq_2, if_neg (show ¬ ((1 : Nat) = 0) by decide), if_pos (show (1 : Nat) = 1 from rfl)]
set_option maxHeartbeats 8000000 in
set_option maxRecDepth 100000 in
theorem ks_101 : ∀ (n : Nat) (dp : Nat) (e : EN) (lab : Nat) (I : Nat → Nat → Int32) (I' : JI) (L : Nat → Nat → Int64) (L' : JI) (i2 : Int32) (i2' : Int) (i3 : Int32) (i3' : Int) (i4 : Int32) (i4' : Int) (a1 : Nat), Rli I I' → Rll L L' → Ui i2 i2' → Ui i3 i3' → Ui i4 i4' → Sim R3 (g_101 n dp e lab I L i2 i3 i4 a1) (kf_101 n dp e lab I' L' i2' i3' i4' a1) := by
  intro n
  induction n with
  | zero => intros; rw [kf_101.eq_1]; exact Sn
  | succ n ih =>
    intro dp e lab I I' L L' i2 i2' i3 i3' i4 i4' a1 u_I u_L u_i2 u_i3 u_i4
    rw [g_101.eq_2, kf_101.eq_2]
    refine Sc Iff.rfl (fun _ => ?_) (fun _ => ?_)
    · exact (ih dp e 1 _ _ _ _ _ _ _ _ _ _ a1 u_I u_L u_i2 (rfl : Ui (0) (0)) (rfl : Ui (0) (0)))
    refine Sc Iff.rfl (fun _ => ?_) (fun _ => ?_)
    · refine Sc (le_up (rfl : Ui (10) (10)) u_i4) (fun c1 => ?_) (fun c1 => ?_)
      · refine Sg (fun g2 => ?_)
        exact Sr ⟨(ui_mul u_i3 (rfl : Ui (16) (16)) g2), u_I, u_L⟩
      · refine Sc Iff.rfl (fun c3 => ?_) (fun _ => Sn)
        refine SbE rfl (fun b_14 => ?_)
        refine Sg (fun g4 => ?_)
        refine Sc (and_congr Iff.rfl (ix_up (ui_add (ui_mul u_i2 (rfl : Ui (10) (10)) g4.1) u_i4 g4.2))) (fun c5 => ?_) (fun _ => Sn)
        refine Sg (fun g6 => ?_)
        refine Sc (ix_up (ui_add (rfl : Ui (10) (10)) u_i4 g6)) (fun c7 => ?_) (fun _ => Sn)
        refine Sg (fun g8 => ?_)
        refine SsI (ui_add u_i3 (ui_mul (ui_rd (a := b_14) u_I (ui_add (ui_mul u_i2 (rfl : Ui (10) (10)) g4.1) u_i4 g4.2) c5.2.1) (ui_rd (a := 4) u_I (ui_add (rfl : Ui (10) (10)) u_i4 g6) c7.1) g8.1) g8.2) (fun v_37 v_37' u_v_37 => ?_)
        refine Sg (fun g9 => ?_)
        exact (ih dp e 1 _ _ _ _ _ _ _ _ _ _ a1 u_I u_L u_i2 u_v_37 (ui_add u_i4 (rfl : Ui (Int32.ofInt (1)) (1)) g9))
    exact Sn
set_option maxHeartbeats 4000000 in
set_option maxRecDepth 100000 in
def kf_102 : Nat → Nat → EN → Nat → JI → JI → Int → Int → Int → Option (Int × JI × JI)
  | 0, _, _, _, _, _, _, _, _ => none
  | n + 1, dp, e, lab, I, L, i1, i2, i3 =>
    if lab = 0 then (kf_102 n dp e 1 I L i1 0 0)
    else if lab = 1 then (if (I 26 17) ≤ i3 then (some ((i2 : Int), I, L)) else (if 0 ≤ i3 ∧ i3 < 5 then (if 1 ≤ dp then (if (-2147483648 ≤ 5 * i3 ∧ 5 * i3 ≤ 2147483647) ∧ (-2147483648 ≤ (max 0 (I 37 i3)) * (bA (bU i1 (5 * i3)) 15) ∧ (max 0 (I 37 i3)) * (bA (bU i1 (5 * i3)) 15) ≤ 2147483647) ∧ (-2147483648 ≤ i2 + ((max 0 (I 37 i3)) * (bA (bU i1 (5 * i3)) 15)) ∧ i2 + ((max 0 (I 37 i3)) * (bA (bU i1 (5 * i3)) 15)) ≤ 2147483647) then (stI (i2 + ((max 0 (I 37 i3)) * (bA (bU i1 (5 * i3)) 15))) (fun v_33 => (if -2147483648 ≤ i3 + 1 ∧ i3 + 1 ≤ 2147483647 then (kf_102 n dp e 1 I L i1 v_33 (i3 + 1)) else none))) else none) else none) else none))
    else none
set_option maxRecDepth 100000 in
theorem ke_102_0 (n : Nat) (dp : Nat) (e : EN) (I : JI) (L : JI) (i1 : Int) (i2 : Int) (i3 : Int) : kf_102 (n + 1) dp e 0 I L i1 i2 i3 = (kf_102 n dp e 1 I L i1 0 0) := by rw [kf_102.eq_2, if_pos (show (0 : Nat) = 0 from rfl)]
set_option maxRecDepth 100000 in
theorem ke_102_1 (n : Nat) (dp : Nat) (e : EN) (I : JI) (L : JI) (i1 : Int) (i2 : Int) (i3 : Int) : kf_102 (n + 1) dp e 1 I L i1 i2 i3 = (if (I 26 17) ≤ i3 then (some ((i2 : Int), I, L)) else (if 0 ≤ i3 ∧ i3 < 5 then (if 1 ≤ dp then (if (-2147483648 ≤ 5 * i3 ∧ 5 * i3 ≤ 2147483647) ∧ (-2147483648 ≤ (max 0 (I 37 i3)) * (bA (bU i1 (5 * i3)) 15) ∧ (max 0 (I 37 i3)) * (bA (bU i1 (5 * i3)) 15) ≤ 2147483647) ∧ (-2147483648 ≤ i2 + ((max 0 (I 37 i3)) * (bA (bU i1 (5 * i3)) 15)) ∧ i2 + ((max 0 (I 37 i3)) * (bA (bU i1 (5 * i3)) 15)) ≤ 2147483647) then (stI (i2 + ((max 0 (I 37 i3)) * (bA (bU i1 (5 * i3)) 15))) (fun v_33 => (if -2147483648 ≤ i3 + 1 ∧ i3 + 1 ≤ 2147483647 then (kf_102 n dp e 1 I L i1 v_33 (i3 + 1)) else none))) else none) else none) else none)) := by rw [kf_102.eq_2, if_neg (show ¬ ((1 : Nat) = 0) by decide), if_pos (show (1 : Nat) = 1 from rfl)]
set_option maxHeartbeats 8000000 in
set_option maxRecDepth 100000 in
theorem ks_102 : ∀ (n : Nat) (dp : Nat) (e : EN) (lab : Nat) (I : Nat → Nat → Int32) (I' : JI) (L : Nat → Nat → Int64) (L' : JI) (i1 : Int32) (i1' : Int) (i2 : Int32) (i2' : Int) (i3 : Int32) (i3' : Int), Rli I I' → Rll L L' → Ui i1 i1' → Ui i2 i2' → Ui i3 i3' → Sim R3 (g_102 n dp e lab I L i1 i2 i3) (kf_102 n dp e lab I' L' i1' i2' i3') := by
  intro n
  induction n with
  | zero => intros; rw [kf_102.eq_1]; exact Sn
  | succ n ih =>
    intro dp e lab I I' L L' i1 i1' i2 i2' i3 i3' u_I u_L u_i1 u_i2 u_i3
    rw [g_102.eq_2, kf_102.eq_2]
    refine Sc Iff.rfl (fun _ => ?_) (fun _ => ?_)
    · exact (ih dp e 1 _ _ _ _ _ _ _ _ _ _ u_I u_L u_i1 (rfl : Ui (0) (0)) (rfl : Ui (0) (0)))
    refine Sc Iff.rfl (fun _ => ?_) (fun _ => ?_)
    · refine Sc (le_up (u_I 26 17) u_i3) (fun c1 => ?_) (fun c1 => ?_)
      · exact Sr ⟨u_i2, u_I, u_L⟩
      · refine Sc (ix_up u_i3) (fun c2 => ?_) (fun _ => Sn)
        refine Sc Iff.rfl (fun c3 => ?_) (fun _ => Sn)
        refine Sg (fun g4 => ?_)
        refine SsI (ui_add u_i2 (ui_mul (ui_max (rfl : Ui (0) (0)) (ui_rd (a := 37) u_I u_i3 c2.1)) (ui_and (ui_ushr u_i1 (ui_mul (rfl : Ui (5) (5)) u_i3 g4.1)) (rfl : Ui (15) (15))) g4.2.1) g4.2.2) (fun v_33 v_33' u_v_33 => ?_)
        refine Sg (fun g5 => ?_)
        exact (ih dp e 1 _ _ _ _ _ _ _ _ _ _ u_I u_L u_i1 u_v_33 (ui_add u_i3 (rfl : Ui (Int32.ofInt (1)) (1)) g5))
    exact Sn
set_option maxHeartbeats 4000000 in
set_option maxRecDepth 100000 in
def kf_99 : Nat → Nat → EN → Nat → JI → JI → Int → Int → Int → Int → Int → Int → Int → Nat → Option (JI × JI)
  | 0, _, _, _, _, _, _, _, _, _, _, _, _, _ => none
  | n + 1, dp, e, lab, I, L, i2, i4, i5, i6, i7, i8, i9, a3 =>
    if lab = 0 then (if -2147483648 ≤ i2 * 64 ∧ i2 * 64 ≤ 2147483647 then (kf_99 n dp e 1 I L i2 (i2 * 64) 0 0 0 0 0 a3) else none)
    else if lab = 1 then (if (a3 < e.1) ∧ ((e.2.1 a3).1 = 2) then (if (I a3 4) ≤ i5 then (some (I, L)) else (if 1 ≤ dp then ((kf_100 n (dp - 1) e 0 I L i5 0 0 a3).bind (fun ⟨x0_22, I0_22, L0_22⟩ => (if 1 ≤ dp then ((kf_101 n (dp - 1) e 0 I0_22 L0_22 i5 0 0 a3).bind (fun ⟨x1_31, I1_31, L1_31⟩ => (if 0 ≤ i2 ∧ i2 < 3 then (if 1 ≤ dp then ((kf_102 n (dp - 1) e 0 I1_31 L1_31 x0_22 0 0).bind (fun ⟨x2_52, I2_52, L2_52⟩ => (if 1 ≤ dp then (if 0 ≤ i2 ∧ i2 < 3 then (if -2147483648 ≤ x1_31 + x2_52 ∧ x1_31 + x2_52 ≤ 2147483647 then (stI (w2 I2_52 33 i2 (max (I1_31 33 i2) (x1_31 + x2_52))) (fun I_59 => (if 0 ≤ i2 ∧ i2 < 3 then (if -2147483648 ≤ i4 + (I_59 32 i2) ∧ i4 + (I_59 32 i2) ≤ 2147483647 then (stI (i4 + (I_59 32 i2)) (fun v_73 => (kf_99 n dp e 2 I_59 L2_52 i2 i4 i5 x0_22 x1_31 i4 v_73 a3))) else none) else none))) else none) else none) else none))) else none) else none))) else none))) else none)) else none)
    else if lab = 2 then (if i9 ≤ i8 then (kf_99 n dp e 3 I L i2 i4 i5 i6 i7 i8 i9 a3) else (if 0 ≤ i8 ∧ i8 < 192 then (if (I 27 i8) = i6 then (kf_99 n dp e 3 I L i2 i4 i5 i6 i7 i8 i9 a3) else (if -2147483648 ≤ i8 + 1 ∧ i8 + 1 ≤ 2147483647 then (kf_99 n dp e 2 I L i2 i4 i5 i6 i7 (i8 + 1) i9 a3) else none)) else none))
    else if lab = 3 then (if -2147483648 ≤ i4 + i5 ∧ i4 + i5 ≤ 2147483647 then (if 0 ≤ (i4 + i5) ∧ (i4 + i5) < 192 then (stI (w2 I 31 (i4 + i5) i8) (fun I_111 => (if i8 = i9 then (if 0 ≤ i2 ∧ i2 < 3 then (if 0 ≤ i2 ∧ i2 < 3 then (if -2147483648 ≤ (I_111 32 i2) + 1 ∧ (I_111 32 i2) + 1 ≤ 2147483647 then (stI (w2 I_111 32 i2 ((I_111 32 i2) + 1)) (fun I_128 => (if 0 ≤ i8 ∧ i8 < 192 then (stI (w2 I_128 27 i8 i6) (fun I_137 => (kf_99 n dp e 4 I_137 L i2 i4 i5 i6 i7 i8 i9 a3))) else none))) else none) else none) else none) else (kf_99 n dp e 4 I_111 L i2 i4 i5 i6 i7 i8 i9 a3)))) else none) else none)
    else if lab = 4 then (if i8 = i9 then (kf_99 n dp e 5 I L i2 i4 i5 i6 i7 i8 i9 a3) else (if 0 ≤ i8 ∧ i8 < 192 then (if i7 ≤ (I 28 i8) then (if 0 ≤ i8 ∧ i8 < 192 then (if i7 = (I 28 i8) then (if 0 ≤ i8 ∧ i8 < 192 then (if 0 ≤ i8 ∧ i8 < 192 then (if -2147483648 ≤ (I 29 i8) + 1 ∧ (I 29 i8) + 1 ≤ 2147483647 then (stI (w2 I 29 i8 ((I 29 i8) + 1)) (fun I_208 => (kf_99 n dp e 6 I_208 L i2 i4 i5 i6 i7 i8 i9 a3))) else none) else none) else none) else (kf_99 n dp e 6 I L i2 i4 i5 i6 i7 i8 i9 a3)) else none) else (kf_99 n dp e 5 I L i2 i4 i5 i6 i7 i8 i9 a3)) else none))
    else if lab = 5 then (if 0 ≤ i8 ∧ i8 < 192 then (stI (w2 I 28 i8 i7) (fun I_165 => (if 0 ≤ i8 ∧ i8 < 192 then (stI (w2 I_165 29 i8 1) (fun I_173 => (if 0 ≤ i8 ∧ i8 < 192 then (stI (w2 I_173 30 i8 i5) (fun I_182 => (kf_99 n dp e 6 I_182 L i2 i4 i5 i6 i7 i8 i9 a3))) else none))) else none))) else none)
    else if lab = 6 then (if -2147483648 ≤ i5 + 1 ∧ i5 + 1 ≤ 2147483647 then (kf_99 n dp e 1 I L i2 i4 (i5 + 1) 0 0 0 0 a3) else none)
    else none
set_option maxRecDepth 100000 in
theorem ke_99_0 (n : Nat) (dp : Nat) (e : EN) (I : JI) (L : JI) (i2 : Int) (i4 : Int) (i5 : Int) (i6 : Int) (i7 : Int) (i8 : Int) (i9 : Int) (a3 : Nat) : kf_99 (n + 1) dp e 0 I L i2 i4 i5 i6 i7 i8 i9 a3 = (if -2147483648 ≤ i2 * 64 ∧ i2 * 64 ≤ 2147483647 then (kf_99 n dp e 1 I L i2 (i2 * 64) 0 0 0 0 0 a3) else none) := by rw [kf_99.eq_2, if_pos (show (0 : Nat) = 0 from rfl)]
set_option maxRecDepth 100000 in
theorem ke_99_1 (n : Nat) (dp : Nat) (e : EN) (I : JI) (L : JI) (i2 : Int) (i4 : Int) (i5 : Int) (i6 : Int) (i7 : Int) (i8 : Int) (i9 : Int) (a3 : Nat) : kf_99 (n + 1) dp e 1 I L i2 i4 i5 i6 i7 i8 i9 a3 = (if (a3 < e.1) ∧ ((e.2.1 a3).1 = 2) then (if (I a3 4) ≤ i5 then (some (I, L)) else (if 1 ≤ dp then ((kf_100 n (dp - 1) e 0 I L i5 0 0 a3).bind (fun ⟨x0_22, I0_22, L0_22⟩ => (if 1 ≤ dp then ((kf_101 n (dp - 1) e 0 I0_22 L0_22 i5 0 0 a3).bind (fun ⟨x1_31, I1_31, L1_31⟩ => (if 0 ≤ i2 ∧ i2 < 3 then (if 1 ≤ dp then ((kf_102 n (dp - 1) e 0 I1_31 L1_31 x0_22 0 0).bind (fun ⟨x2_52, I2_52, L2_52⟩ => (if 1 ≤ dp then (if 0 ≤ i2 ∧ i2 < 3 then (if -2147483648 ≤ x1_31 + x2_52 ∧ x1_31 + x2_52 ≤ 2147483647 then (stI (w2 I2_52 33 i2 (max (I1_31 33 i2) (x1_31 + x2_52))) (fun I_59 => (if 0 ≤ i2 ∧ i2 < 3 then (if -2147483648 ≤ i4 + (I_59 32 i2) ∧ i4 + (I_59 32 i2) ≤ 2147483647 then (stI (i4 + (I_59 32 i2)) (fun v_73 => (kf_99 n dp e 2 I_59 L2_52 i2 i4 i5 x0_22 x1_31 i4 v_73 a3))) else none) else none))) else none) else none) else none))) else none) else none))) else none))) else none)) else none) := by rw [kf_99.eq_2, if_neg (show ¬ ((1 : Nat) = 0) by decide), if_pos (show (1 : Nat) = 1 from rfl)]
set_option maxRecDepth 100000 in
theorem ke_99_2 (n : Nat) (dp : Nat) (e : EN) (I : JI) (L : JI) (i2 : Int) (i4 : Int) (i5 : Int) (i6 : Int) (i7 : Int) (i8 : Int) (i9 : Int) (a3 : Nat) : kf_99 (n + 1) dp e 2 I L i2 i4 i5 i6 i7 i8 i9 a3 = (if i9 ≤ i8 then (kf_99 n dp e 3 I L i2 i4 i5 i6 i7 i8 i9 a3) else (if 0 ≤ i8 ∧ i8 < 192 then (if (I 27 i8) = i6 then (kf_99 n dp e 3 I L i2 i4 i5 i6 i7 i8 i9 a3) else (if -2147483648 ≤ i8 + 1 ∧ i8 + 1 ≤ 2147483647 then (kf_99 n dp e 2 I L i2 i4 i5 i6 i7 (i8 + 1) i9 a3) else none)) else none)) := by rw [kf_99.eq_2, if_neg (show ¬ ((2 : Nat) = 0) by decide), if_neg (show ¬ ((2 : Nat) = 1) by decide), if_pos (show (2 : Nat) = 2 from rfl)]
set_option maxRecDepth 100000 in
theorem ke_99_3 (n : Nat) (dp : Nat) (e : EN) (I : JI) (L : JI) (i2 : Int) (i4 : Int) (i5 : Int) (i6 : Int) (i7 : Int) (i8 : Int) (i9 : Int) (a3 : Nat) : kf_99 (n + 1) dp e 3 I L i2 i4 i5 i6 i7 i8 i9 a3 = (if -2147483648 ≤ i4 + i5 ∧ i4 + i5 ≤ 2147483647 then (if 0 ≤ (i4 + i5) ∧ (i4 + i5) < 192 then (stI (w2 I 31 (i4 + i5) i8) (fun I_111 => (if i8 = i9 then (if 0 ≤ i2 ∧ i2 < 3 then (if 0 ≤ i2 ∧ i2 < 3 then (if -2147483648 ≤ (I_111 32 i2) + 1 ∧ (I_111 32 i2) + 1 ≤ 2147483647 then (stI (w2 I_111 32 i2 ((I_111 32 i2) + 1)) (fun I_128 => (if 0 ≤ i8 ∧ i8 < 192 then (stI (w2 I_128 27 i8 i6) (fun I_137 => (kf_99 n dp e 4 I_137 L i2 i4 i5 i6 i7 i8 i9 a3))) else none))) else none) else none) else none) else (kf_99 n dp e 4 I_111 L i2 i4 i5 i6 i7 i8 i9 a3)))) else none) else none) := by rw [kf_99.eq_2, if_neg (show ¬ ((3 : Nat) = 0) by decide), if_neg (show ¬ ((3 : Nat) = 1) by decide), if_neg (show ¬ ((3 : Nat) = 2) by decide), if_pos (show (3 : Nat) = 3 from rfl)]
set_option maxRecDepth 100000 in
theorem ke_99_4 (n : Nat) (dp : Nat) (e : EN) (I : JI) (L : JI) (i2 : Int) (i4 : Int) (i5 : Int) (i6 : Int) (i7 : Int) (i8 : Int) (i9 : Int) (a3 : Nat) : kf_99 (n + 1) dp e 4 I L i2 i4 i5 i6 i7 i8 i9 a3 = (if i8 = i9 then (kf_99 n dp e 5 I L i2 i4 i5 i6 i7 i8 i9 a3) else (if 0 ≤ i8 ∧ i8 < 192 then (if i7 ≤ (I 28 i8) then (if 0 ≤ i8 ∧ i8 < 192 then (if i7 = (I 28 i8) then (if 0 ≤ i8 ∧ i8 < 192 then (if 0 ≤ i8 ∧ i8 < 192 then (if -2147483648 ≤ (I 29 i8) + 1 ∧ (I 29 i8) + 1 ≤ 2147483647 then (stI (w2 I 29 i8 ((I 29 i8) + 1)) (fun I_208 => (kf_99 n dp e 6 I_208 L i2 i4 i5 i6 i7 i8 i9 a3))) else none) else none) else none) else (kf_99 n dp e 6 I L i2 i4 i5 i6 i7 i8 i9 a3)) else none) else (kf_99 n dp e 5 I L i2 i4 i5 i6 i7 i8 i9 a3)) else none)) := by rw [kf_99.eq_2, if_neg (show ¬ ((4 : Nat) = 0) by decide), if_neg (show ¬ ((4 : Nat) = 1) by decide), if_neg (show ¬ ((4 : Nat) = 2) by decide), if_neg (show ¬ ((4 : Nat) = 3) by decide), if_pos (show (4 : Nat) = 4 from rfl)]
set_option maxRecDepth 100000 in
theorem ke_99_5 (n : Nat) (dp : Nat) (e : EN) (I : JI) (L : JI) (i2 : Int) (i4 : Int) (i5 : Int) (i6 : Int) (i7 : Int) (i8 : Int) (i9 : Int) (a3 : Nat) : kf_99 (n + 1) dp e 5 I L i2 i4 i5 i6 i7 i8 i9 a3 = (if 0 ≤ i8 ∧ i8 < 192 then (stI (w2 I 28 i8 i7) (fun I_165 => (if 0 ≤ i8 ∧ i8 < 192 then (stI (w2 I_165 29 i8 1) (fun I_173 => (if 0 ≤ i8 ∧ i8 < 192 then (stI (w2 I_173 30 i8 i5) (fun I_182 => (kf_99 n dp e 6 I_182 L i2 i4 i5 i6 i7 i8 i9 a3))) else none))) else none))) else none) := by rw [kf_99.eq_2, if_neg (show ¬ ((5 : Nat) = 0) by decide), if_neg (show ¬ ((5 : Nat) = 1) by decide), if_neg (show ¬ ((5 : Nat) = 2) by decide), if_neg (show ¬ ((5 : Nat) = 3) by decide), if_neg (show ¬ ((5 : Nat) = 4) by decide), if_pos (show (5 : Nat) = 5 from rfl)]
set_option maxRecDepth 100000 in
theorem ke_99_6 (n : Nat) (dp : Nat) (e : EN) (I : JI) (L : JI) (i2 : Int) (i4 : Int) (i5 : Int) (i6 : Int) (i7 : Int) (i8 : Int) (i9 : Int) (a3 : Nat) : kf_99 (n + 1) dp e 6 I L i2 i4 i5 i6 i7 i8 i9 a3 = (if -2147483648 ≤ i5 + 1 ∧ i5 + 1 ≤ 2147483647 then (kf_99 n dp e 1 I L i2 i4 (i5 + 1) 0 0 0 0 a3) else none) := by rw [kf_99.eq_2, if_neg (show ¬ ((6 : Nat) = 0) by decide), if_neg (show ¬ ((6 : Nat) = 1) by decide), if_neg (show ¬ ((6 : Nat) = 2) by decide), if_neg (show ¬ ((6 : Nat) = 3) by decide), if_neg (show ¬ ((6 : Nat) = 4) by decide), if_neg (show ¬ ((6 : Nat) = 5) by decide), if_pos (show (6 : Nat) = 6 from rfl)]
set_option maxHeartbeats 8000000 in
set_option maxRecDepth 100000 in
theorem ks_99 : ∀ (n : Nat) (dp : Nat) (e : EN) (lab : Nat) (I : Nat → Nat → Int32) (I' : JI) (L : Nat → Nat → Int64) (L' : JI) (i2 : Int32) (i2' : Int) (i4 : Int32) (i4' : Int) (i5 : Int32) (i5' : Int) (i6 : Int32) (i6' : Int) (i7 : Int32) (i7' : Int) (i8 : Int32) (i8' : Int) (i9 : Int32) (i9' : Int) (a3 : Nat), Rli I I' → Rll L L' → Ui i2 i2' → Ui i4 i4' → Ui i5 i5' → Ui i6 i6' → Ui i7 i7' → Ui i8 i8' → Ui i9 i9' → Sim R2 (g_99 n dp e lab I L i2 i4 i5 i6 i7 i8 i9 a3) (kf_99 n dp e lab I' L' i2' i4' i5' i6' i7' i8' i9' a3) := by
  intro n
  induction n with
  | zero => intros; rw [kf_99.eq_1]; exact Sn
  | succ n ih =>
    intro dp e lab I I' L L' i2 i2' i4 i4' i5 i5' i6 i6' i7 i7' i8 i8' i9 i9' a3 u_I u_L u_i2 u_i4 u_i5 u_i6 u_i7 u_i8 u_i9
    rw [g_99.eq_2, kf_99.eq_2]
    refine Sc Iff.rfl (fun _ => ?_) (fun _ => ?_)
    · refine Sg (fun g1 => ?_)
      exact (ih dp e 1 _ _ _ _ _ _ _ _ _ _ _ _ _ _ _ _ _ _ a3 u_I u_L u_i2 (ui_mul u_i2 (rfl : Ui (64) (64)) g1) (rfl : Ui (0) (0)) (rfl : Ui 0 0) (rfl : Ui 0 0) (rfl : Ui 0 0) (rfl : Ui 0 0))
    refine Sc Iff.rfl (fun _ => ?_) (fun _ => ?_)
    · refine Sc Iff.rfl (fun c1 => ?_) (fun _ => Sn)
      refine Sc (le_up (u_I a3 4) u_i5) (fun c2 => ?_) (fun c2 => ?_)
      · exact Sr ⟨u_I, u_L⟩
      · refine Sc Iff.rfl (fun c3 => ?_) (fun _ => Sn)
        refine Sb3 (ks_100 n (dp - 1) e 0 _ _ _ _ _ _ _ _ _ _ a3 u_I u_L u_i5 (rfl : Ui 0 0) (rfl : Ui 0 0)) (fun x0_22 x0_22' I0_22 I0_22' L0_22 L0_22' u_x0_22 u_I0_22 u_L0_22 => ?_)
        refine Sc Iff.rfl (fun c4 => ?_) (fun _ => Sn)
        refine Sb3 (ks_101 n (dp - 1) e 0 _ _ _ _ _ _ _ _ _ _ a3 u_I0_22 u_L0_22 u_i5 (rfl : Ui 0 0) (rfl : Ui 0 0)) (fun x1_31 x1_31' I1_31 I1_31' L1_31 L1_31' u_x1_31 u_I1_31 u_L1_31 => ?_)
        refine Sc (ix_up u_i2) (fun c5 => ?_) (fun _ => Sn)
        refine Sc Iff.rfl (fun c6 => ?_) (fun _ => Sn)
        refine Sb3 (ks_102 n (dp - 1) e 0 _ _ _ _ _ _ _ _ _ _ u_I1_31 u_L1_31 u_x0_22 (rfl : Ui 0 0) (rfl : Ui 0 0)) (fun x2_52 x2_52' I2_52 I2_52' L2_52 L2_52' u_x2_52 u_I2_52 u_L2_52 => ?_)
        refine Sc Iff.rfl (fun c7 => ?_) (fun _ => Sn)
        refine Sc (ix_up u_i2) (fun c8 => ?_) (fun _ => Sn)
        refine Sg (fun g9 => ?_)
        refine SsJ (ri_up u_I2_52 (kc_up u_i2 c8.1) (ui_max (ui_rd (a := 33) u_I1_31 u_i2 c8.1) (ui_add u_x1_31 u_x2_52 g9))) (fun I_59 I_59' u_I_59 => ?_)
        refine Sc (ix_up u_i2) (fun c10 => ?_) (fun _ => Sn)
        refine Sg (fun g11 => ?_)
        refine SsI (ui_add u_i4 (ui_rd (a := 32) u_I_59 u_i2 c10.1) g11) (fun v_73 v_73' u_v_73 => ?_)
        exact (ih dp e 2 _ _ _ _ _ _ _ _ _ _ _ _ _ _ _ _ _ _ a3 u_I_59 u_L2_52 u_i2 u_i4 u_i5 u_x0_22 u_x1_31 u_i4 u_v_73)
    refine Sc Iff.rfl (fun _ => ?_) (fun _ => ?_)
    · refine Sc (le_up u_i9 u_i8) (fun c1 => ?_) (fun c1 => ?_)
      · exact (ih dp e 3 _ _ _ _ _ _ _ _ _ _ _ _ _ _ _ _ _ _ a3 u_I u_L u_i2 u_i4 u_i5 u_i6 u_i7 u_i8 u_i9)
      · refine Sc (ix_up u_i8) (fun c2 => ?_) (fun _ => Sn)
        refine Sc (eq_up (ui_rd (a := 27) u_I u_i8 c2.1) u_i6) (fun c3 => ?_) (fun c3 => ?_)
        · exact (ih dp e 3 _ _ _ _ _ _ _ _ _ _ _ _ _ _ _ _ _ _ a3 u_I u_L u_i2 u_i4 u_i5 u_i6 u_i7 u_i8 u_i9)
        · refine Sg (fun g4 => ?_)
          exact (ih dp e 2 _ _ _ _ _ _ _ _ _ _ _ _ _ _ _ _ _ _ a3 u_I u_L u_i2 u_i4 u_i5 u_i6 u_i7 (ui_add u_i8 (rfl : Ui (Int32.ofInt (1)) (1)) g4) u_i9)
    refine Sc Iff.rfl (fun _ => ?_) (fun _ => ?_)
    · refine Sg (fun g1 => ?_)
      refine Sc (ix_up (ui_add u_i4 u_i5 g1)) (fun c2 => ?_) (fun _ => Sn)
      refine SsJ (ri_up u_I (kc_up (ui_add u_i4 u_i5 g1) c2.1) u_i8) (fun I_111 I_111' u_I_111 => ?_)
      refine Sc (eq_up u_i8 u_i9) (fun c3 => ?_) (fun c3 => ?_)
      · refine Sc (ix_up u_i2) (fun c4 => ?_) (fun _ => Sn)
        refine Sc (ix_up u_i2) (fun c5 => ?_) (fun _ => Sn)
        refine Sg (fun g6 => ?_)
        refine SsJ (ri_up u_I_111 (kc_up u_i2 c5.1) (ui_add (ui_rd (a := 32) u_I_111 u_i2 c5.1) (rfl : Ui (1) (1)) g6)) (fun I_128 I_128' u_I_128 => ?_)
        refine Sc (ix_up u_i8) (fun c7 => ?_) (fun _ => Sn)
        refine SsJ (ri_up u_I_128 (kc_up u_i8 c7.1) u_i6) (fun I_137 I_137' u_I_137 => ?_)
        exact (ih dp e 4 _ _ _ _ _ _ _ _ _ _ _ _ _ _ _ _ _ _ a3 u_I_137 u_L u_i2 u_i4 u_i5 u_i6 u_i7 u_i8 u_i9)
      · exact (ih dp e 4 _ _ _ _ _ _ _ _ _ _ _ _ _ _ _ _ _ _ a3 u_I_111 u_L u_i2 u_i4 u_i5 u_i6 u_i7 u_i8 u_i9)
    refine Sc Iff.rfl (fun _ => ?_) (fun _ => ?_)
    · refine Sc (eq_up u_i8 u_i9) (fun c1 => ?_) (fun c1 => ?_)
      · exact (ih dp e 5 _ _ _ _ _ _ _ _ _ _ _ _ _ _ _ _ _ _ a3 u_I u_L u_i2 u_i4 u_i5 u_i6 u_i7 u_i8 u_i9)
      · refine Sc (ix_up u_i8) (fun c2 => ?_) (fun _ => Sn)
        refine Sc (le_up u_i7 (ui_rd (a := 28) u_I u_i8 c2.1)) (fun c3 => ?_) (fun c3 => ?_)
        · refine Sc (ix_up u_i8) (fun c4 => ?_) (fun _ => Sn)
          refine Sc (eq_up u_i7 (ui_rd (a := 28) u_I u_i8 c4.1)) (fun c5 => ?_) (fun c5 => ?_)
          · refine Sc (ix_up u_i8) (fun c6 => ?_) (fun _ => Sn)
            refine Sc (ix_up u_i8) (fun c7 => ?_) (fun _ => Sn)
            refine Sg (fun g8 => ?_)
            refine SsJ (ri_up u_I (kc_up u_i8 c7.1) (ui_add (ui_rd (a := 29) u_I u_i8 c7.1) (rfl : Ui (1) (1)) g8)) (fun I_208 I_208' u_I_208 => ?_)
            exact (ih dp e 6 _ _ _ _ _ _ _ _ _ _ _ _ _ _ _ _ _ _ a3 u_I_208 u_L u_i2 u_i4 u_i5 u_i6 u_i7 u_i8 u_i9)
          · exact (ih dp e 6 _ _ _ _ _ _ _ _ _ _ _ _ _ _ _ _ _ _ a3 u_I u_L u_i2 u_i4 u_i5 u_i6 u_i7 u_i8 u_i9)
        · exact (ih dp e 5 _ _ _ _ _ _ _ _ _ _ _ _ _ _ _ _ _ _ a3 u_I u_L u_i2 u_i4 u_i5 u_i6 u_i7 u_i8 u_i9)
    refine Sc Iff.rfl (fun _ => ?_) (fun _ => ?_)
    · refine Sc (ix_up u_i8) (fun c1 => ?_) (fun _ => Sn)
      refine SsJ (ri_up u_I (kc_up u_i8 c1.1) u_i7) (fun I_165 I_165' u_I_165 => ?_)
      refine Sc (ix_up u_i8) (fun c2 => ?_) (fun _ => Sn)
      refine SsJ (ri_up u_I_165 (kc_up u_i8 c2.1) (rfl : Ui (1) (1))) (fun I_173 I_173' u_I_173 => ?_)
      refine Sc (ix_up u_i8) (fun c3 => ?_) (fun _ => Sn)
      refine SsJ (ri_up u_I_173 (kc_up u_i8 c3.1) u_i5) (fun I_182 I_182' u_I_182 => ?_)
      exact (ih dp e 6 _ _ _ _ _ _ _ _ _ _ _ _ _ _ _ _ _ _ a3 u_I_182 u_L u_i2 u_i4 u_i5 u_i6 u_i7 u_i8 u_i9)
    refine Sc Iff.rfl (fun _ => ?_) (fun _ => ?_)
    · refine Sg (fun g1 => ?_)
      exact (ih dp e 1 _ _ _ _ _ _ _ _ _ _ _ _ _ _ _ _ _ _ a3 u_I u_L u_i2 u_i4 (ui_add u_i5 (rfl : Ui (Int32.ofInt (1)) (1)) g1) (rfl : Ui 0 0) (rfl : Ui 0 0) (rfl : Ui 0 0) (rfl : Ui 0 0))
    exact Sn
set_option maxHeartbeats 4000000 in
set_option maxRecDepth 100000 in
def kf_96 : Nat → Nat → EN → Nat → JI → JI → Int → Option (JI × JI)
  | 0, _, _, _, _, _, _ => none
  | n + 1, dp, e, lab, I, L, i3 =>
    if lab = 0 then (if 1 ≤ dp then ((kf_97 n (dp - 1) e 0 I L 0 0 0).bind (fun ⟨I0_2, L0_2⟩ => (if 1 ≤ dp then ((kf_98 n (dp - 1) e 0 I0_2 L0_2 0 1 0 0 0 0 0 0 0 38 41).bind (fun ⟨I1_16, L1_16⟩ => (if 1 ≤ dp then ((kf_98 n (dp - 1) e 0 I1_16 L1_16 2 3 0 0 0 0 0 0 0 39 42).bind (fun ⟨I2_30, L2_30⟩ => (if 1 ≤ dp then ((kf_98 n (dp - 1) e 0 I2_30 L2_30 4 (-1) 0 0 0 0 0 0 0 40 43).bind (fun ⟨I3_44, L3_44⟩ => (kf_96 n dp e 1 I3_44 L3_44 0))) else none))) else none))) else none))) else none)
    else if lab = 1 then (if 3 ≤ i3 then (some (I, L)) else (if 0 ≤ i3 ∧ i3 < 3 then (stI (w2 I 32 i3 0) (fun I_60 => (if 0 ≤ i3 ∧ i3 < 3 then (stI (w2 I_60 33 i3 0) (fun I_67 => (if 0 ≤ i3 ∧ i3 < 3 then ((e.2.2 25 (Int.toNat i3)).bind (fun b_70 => (if (b_70 < e.1) ∧ ((e.2.1 b_70).1 = 2) then (if 64 < (I_67 b_70 4) then (kf_96 n dp e 2 I_67 L i3) else (if 0 ≤ i3 ∧ i3 < 3 then ((e.2.2 25 (Int.toNat i3)).bind (fun b_84 => (if 1 ≤ dp then ((kf_99 n (dp - 1) e 0 I_67 L i3 0 0 0 0 0 0 b_84).bind (fun ⟨I0_85, L0_85⟩ => (kf_96 n dp e 2 I0_85 L0_85 i3))) else none))) else none)) else none))) else none))) else none))) else none))
    else if lab = 2 then (if -2147483648 ≤ i3 + 1 ∧ i3 + 1 ≤ 2147483647 then (kf_96 n dp e 1 I L (i3 + 1)) else none)
    else none
set_option maxRecDepth 100000 in
theorem ke_96_0 (n : Nat) (dp : Nat) (e : EN) (I : JI) (L : JI) (i3 : Int) : kf_96 (n + 1) dp e 0 I L i3 = (if 1 ≤ dp then ((kf_97 n (dp - 1) e 0 I L 0 0 0).bind (fun ⟨I0_2, L0_2⟩ => (if 1 ≤ dp then ((kf_98 n (dp - 1) e 0 I0_2 L0_2 0 1 0 0 0 0 0 0 0 38 41).bind (fun ⟨I1_16, L1_16⟩ => (if 1 ≤ dp then ((kf_98 n (dp - 1) e 0 I1_16 L1_16 2 3 0 0 0 0 0 0 0 39 42).bind (fun ⟨I2_30, L2_30⟩ => (if 1 ≤ dp then ((kf_98 n (dp - 1) e 0 I2_30 L2_30 4 (-1) 0 0 0 0 0 0 0 40 43).bind (fun ⟨I3_44, L3_44⟩ => (kf_96 n dp e 1 I3_44 L3_44 0))) else none))) else none))) else none))) else none) := by rw [kf_96.eq_2, if_pos (show (0 : Nat) = 0 from rfl)]
set_option maxRecDepth 100000 in
theorem ke_96_1 (n : Nat) (dp : Nat) (e : EN) (I : JI) (L : JI) (i3 : Int) : kf_96 (n + 1) dp e 1 I L i3 = (if 3 ≤ i3 then (some (I, L)) else (if 0 ≤ i3 ∧ i3 < 3 then (stI (w2 I 32 i3 0) (fun I_60 => (if 0 ≤ i3 ∧ i3 < 3 then (stI (w2 I_60 33 i3 0) (fun I_67 => (if 0 ≤ i3 ∧ i3 < 3 then ((e.2.2 25 (Int.toNat i3)).bind (fun b_70 => (if (b_70 < e.1) ∧ ((e.2.1 b_70).1 = 2) then (if 64 < (I_67 b_70 4) then (kf_96 n dp e 2 I_67 L i3) else (if 0 ≤ i3 ∧ i3 < 3 then ((e.2.2 25 (Int.toNat i3)).bind (fun b_84 => (if 1 ≤ dp then ((kf_99 n (dp - 1) e 0 I_67 L i3 0 0 0 0 0 0 b_84).bind (fun ⟨I0_85, L0_85⟩ => (kf_96 n dp e 2 I0_85 L0_85 i3))) else none))) else none)) else none))) else none))) else none))) else none)) := by rw [kf_96.eq_2, if_neg (show ¬ ((1 : Nat) = 0) by decide), if_pos (show (1 : Nat) = 1 from rfl)]
set_option maxRecDepth 100000 in
theorem ke_96_2 (n : Nat) (dp : Nat) (e : EN) (I : JI) (L : JI) (i3 : Int) : kf_96 (n + 1) dp e 2 I L i3 = (if -2147483648 ≤ i3 + 1 ∧ i3 + 1 ≤ 2147483647 then (kf_96 n dp e 1 I L (i3 + 1)) else none) := by rw [kf_96.eq_2, if_neg (show ¬ ((2 : Nat) = 0) by decide), if_neg (show ¬ ((2 : Nat) = 1) by decide), if_pos (show (2 : Nat) = 2 from rfl)]
set_option maxHeartbeats 8000000 in
set_option maxRecDepth 100000 in
theorem ks_96 : ∀ (n : Nat) (dp : Nat) (e : EN) (lab : Nat) (I : Nat → Nat → Int32) (I' : JI) (L : Nat → Nat → Int64) (L' : JI) (i3 : Int32) (i3' : Int), Rli I I' → Rll L L' → Ui i3 i3' → Sim R2 (g_96 n dp e lab I L i3) (kf_96 n dp e lab I' L' i3') := by
  intro n
  induction n with
  | zero => intros; rw [kf_96.eq_1]; exact Sn
  | succ n ih =>
    intro dp e lab I I' L L' i3 i3' u_I u_L u_i3
    rw [g_96.eq_2, kf_96.eq_2]
    refine Sc Iff.rfl (fun _ => ?_) (fun _ => ?_)
    · refine Sc Iff.rfl (fun c1 => ?_) (fun _ => Sn)
      refine Sb2 (ks_97 n (dp - 1) e 0 _ _ _ _ _ _ _ _ _ _ u_I u_L (rfl : Ui 0 0) (rfl : Ui 0 0) (rfl : Ui 0 0)) (fun I0_2 I0_2' L0_2 L0_2' u_I0_2 u_L0_2 => ?_)
      refine Sc Iff.rfl (fun c2 => ?_) (fun _ => Sn)
      refine Sb2 (ks_98 n (dp - 1) e 0 _ _ _ _ _ _ _ _ _ _ _ _ _ _ _ _ _ _ _ _ _ _ 38 41 u_I0_2 u_L0_2 (rfl : Ui (0) (0)) (rfl : Ui (1) (1)) (rfl : Ui 0 0) (rfl : Ui 0 0) (rfl : Ui 0 0) (rfl : Ui 0 0) (rfl : Ui 0 0) (rfl : Ui 0 0) (rfl : Ui 0 0)) (fun I1_16 I1_16' L1_16 L1_16' u_I1_16 u_L1_16 => ?_)
      refine Sc Iff.rfl (fun c3 => ?_) (fun _ => Sn)
      refine Sb2 (ks_98 n (dp - 1) e 0 _ _ _ _ _ _ _ _ _ _ _ _ _ _ _ _ _ _ _ _ _ _ 39 42 u_I1_16 u_L1_16 (rfl : Ui (2) (2)) (rfl : Ui (3) (3)) (rfl : Ui 0 0) (rfl : Ui 0 0) (rfl : Ui 0 0) (rfl : Ui 0 0) (rfl : Ui 0 0) (rfl : Ui 0 0) (rfl : Ui 0 0)) (fun I2_30 I2_30' L2_30 L2_30' u_I2_30 u_L2_30 => ?_)
      refine Sc Iff.rfl (fun c4 => ?_) (fun _ => Sn)
      refine Sb2 (ks_98 n (dp - 1) e 0 _ _ _ _ _ _ _ _ _ _ _ _ _ _ _ _ _ _ _ _ _ _ 40 43 u_I2_30 u_L2_30 (rfl : Ui (4) (4)) (rfl : Ui (-1) (-1)) (rfl : Ui 0 0) (rfl : Ui 0 0) (rfl : Ui 0 0) (rfl : Ui 0 0) (rfl : Ui 0 0) (rfl : Ui 0 0) (rfl : Ui 0 0)) (fun I3_44 I3_44' L3_44 L3_44' u_I3_44 u_L3_44 => ?_)
      exact (ih dp e 1 _ _ _ _ _ _ u_I3_44 u_L3_44 (rfl : Ui (0) (0)))
    refine Sc Iff.rfl (fun _ => ?_) (fun _ => ?_)
    · refine Sc (le_up (rfl : Ui (3) (3)) u_i3) (fun c1 => ?_) (fun c1 => ?_)
      · exact Sr ⟨u_I, u_L⟩
      · refine Sc (ix_up u_i3) (fun c2 => ?_) (fun _ => Sn)
        refine SsJ (ri_up u_I (kc_up u_i3 c2.1) (rfl : Ui (0) (0))) (fun I_60 I_60' u_I_60 => ?_)
        refine Sc (ix_up u_i3) (fun c3 => ?_) (fun _ => Sn)
        refine SsJ (ri_up u_I_60 (kc_up u_i3 c3.1) (rfl : Ui (0) (0))) (fun I_67 I_67' u_I_67 => ?_)
        refine Sc (ix_up u_i3) (fun c4 => ?_) (fun _ => Sn)
        refine SbE (by first | (rw [cl_up u_i3]; done) | (rw [cl_up u_i3]; rfl)) (fun b_70 => ?_)
        refine Sc Iff.rfl (fun c5 => ?_) (fun _ => Sn)
        refine Sc (lt_up (rfl : Ui (64) (64)) (u_I_67 b_70 4)) (fun c6 => ?_) (fun c6 => ?_)
        · exact (ih dp e 2 _ _ _ _ _ _ u_I_67 u_L u_i3)
        · refine Sc (ix_up u_i3) (fun c7 => ?_) (fun _ => Sn)
          refine SbE (by first | (rw [cl_up u_i3]; done) | (rw [cl_up u_i3]; rfl)) (fun b_84 => ?_)
          refine Sc Iff.rfl (fun c8 => ?_) (fun _ => Sn)
          refine Sb2 (ks_99 n (dp - 1) e 0 _ _ _ _ _ _ _ _ _ _ _ _ _ _ _ _ _ _ b_84 u_I_67 u_L u_i3 (rfl : Ui 0 0) (rfl : Ui 0 0) (rfl : Ui 0 0) (rfl : Ui 0 0) (rfl : Ui 0 0) (rfl : Ui 0 0)) (fun I0_85 I0_85' L0_85 L0_85' u_I0_85 u_L0_85 => ?_)
          exact (ih dp e 2 _ _ _ _ _ _ u_I0_85 u_L0_85 u_i3)
    refine Sc Iff.rfl (fun _ => ?_) (fun _ => ?_)
    · refine Sg (fun g1 => ?_)
      exact (ih dp e 1 _ _ _ _ _ _ u_I u_L (ui_add u_i3 (rfl : Ui (Int32.ofInt (1)) (1)) g1))
    exact Sn
set_option maxHeartbeats 4000000 in
set_option maxRecDepth 100000 in
def kf_105 : Nat → Nat → EN → Nat → JI → JI → Int → Int → Int → Int → Int → Option (Int × JI × JI)
  | 0, _, _, _, _, _, _, _, _, _, _ => none
  | n + 1, dp, e, lab, I, L, i1, i2, i3, i4, i5 =>
    if lab = 0 then (if 1 ≤ dp then (if (-2147483648 ≤ i1 + i2 ∧ i1 + i2 ≤ 2147483647) ∧ (-2147483648 ≤ (i1 + i2) + i3 ∧ (i1 + i2) + i3 ≤ 2147483647) then (stI (min 8 ((i1 + i2) + i3)) (fun v_10 => (kf_105 n dp e 1 I L i1 i2 i3 v_10 0))) else none) else none)
    else if lab = 1 then (if i4 ≤ i5 then (some ((i4 : Int), I, L)) else (if i3 ≤ i5 then (if -2147483648 ≤ i3 + i2 ∧ i3 + i2 ≤ 2147483647 then (if (i3 + i2) ≤ i5 then (if 0 ≤ i5 ∧ i5 < 8 then (stI (w2 I 54 i5 0) (fun I_51 => (if -2147483648 ≤ i5 + 1 ∧ i5 + 1 ≤ 2147483647 then (kf_105 n dp e 1 I_51 L i1 i2 i3 i4 (i5 + 1)) else none))) else none) else (if 0 ≤ i5 ∧ i5 < 8 then (stI (w2 I 54 i5 1) (fun I_51 => (if -2147483648 ≤ i5 + 1 ∧ i5 + 1 ≤ 2147483647 then (kf_105 n dp e 1 I_51 L i1 i2 i3 i4 (i5 + 1)) else none))) else none)) else none) else (if 0 ≤ i5 ∧ i5 < 8 then (stI (w2 I 54 i5 2) (fun I_51 => (if -2147483648 ≤ i5 + 1 ∧ i5 + 1 ≤ 2147483647 then (kf_105 n dp e 1 I_51 L i1 i2 i3 i4 (i5 + 1)) else none))) else none)))
    else none
set_option maxRecDepth 100000 in
theorem ke_105_0 (n : Nat) (dp : Nat) (e : EN) (I : JI) (L : JI) (i1 : Int) (i2 : Int) (i3 : Int) (i4 : Int) (i5 : Int) : kf_105 (n + 1) dp e 0 I L i1 i2 i3 i4 i5 = (if 1 ≤ dp then (if (-2147483648 ≤ i1 + i2 ∧ i1 + i2 ≤ 2147483647) ∧ (-2147483648 ≤ (i1 + i2) + i3 ∧ (i1 + i2) + i3 ≤ 2147483647) then (stI (min 8 ((i1 + i2) + i3)) (fun v_10 => (kf_105 n dp e 1 I L i1 i2 i3 v_10 0))) else none) else none) := by rw [kf_105.eq_2, if_pos (show (0 : Nat) = 0 from rfl)]
set_option maxRecDepth 100000 in
theorem ke_105_1 (n : Nat) (dp : Nat) (e : EN) (I : JI) (L : JI) (i1 : Int) (i2 : Int) (i3 : Int) (i4 : Int) (i5 : Int) : kf_105 (n + 1) dp e 1 I L i1 i2 i3 i4 i5 = (if i4 ≤ i5 then (some ((i4 : Int), I, L)) else (if i3 ≤ i5 then (if -2147483648 ≤ i3 + i2 ∧ i3 + i2 ≤ 2147483647 then (if (i3 + i2) ≤ i5 then (if 0 ≤ i5 ∧ i5 < 8 then (stI (w2 I 54 i5 0) (fun I_51 => (if -2147483648 ≤ i5 + 1 ∧ i5 + 1 ≤ 2147483647 then (kf_105 n dp e 1 I_51 L i1 i2 i3 i4 (i5 + 1)) else none))) else none) else (if 0 ≤ i5 ∧ i5 < 8 then (stI (w2 I 54 i5 1) (fun I_51 => (if -2147483648 ≤ i5 + 1 ∧ i5 + 1 ≤ 2147483647 then (kf_105 n dp e 1 I_51 L i1 i2 i3 i4 (i5 + 1)) else none))) else none)) else none) else (if 0 ≤ i5 ∧ i5 < 8 then (stI (w2 I 54 i5 2) (fun I_51 => (if -2147483648 ≤ i5 + 1 ∧ i5 + 1 ≤ 2147483647 then (kf_105 n dp e 1 I_51 L i1 i2 i3 i4 (i5 + 1)) else none))) else none))) := by rw [kf_105.eq_2, if_neg (show ¬ ((1 : Nat) = 0) by decide), if_pos (show (1 : Nat) = 1 from rfl)]
set_option maxHeartbeats 8000000 in
set_option maxRecDepth 100000 in
theorem ks_105 : ∀ (n : Nat) (dp : Nat) (e : EN) (lab : Nat) (I : Nat → Nat → Int32) (I' : JI) (L : Nat → Nat → Int64) (L' : JI) (i1 : Int32) (i1' : Int) (i2 : Int32) (i2' : Int) (i3 : Int32) (i3' : Int) (i4 : Int32) (i4' : Int) (i5 : Int32) (i5' : Int), Rli I I' → Rll L L' → Ui i1 i1' → Ui i2 i2' → Ui i3 i3' → Ui i4 i4' → Ui i5 i5' → Sim R3 (g_105 n dp e lab I L i1 i2 i3 i4 i5) (kf_105 n dp e lab I' L' i1' i2' i3' i4' i5') := by
  intro n
  induction n with
  | zero => intros; rw [kf_105.eq_1]; exact Sn
  | succ n ih =>
    intro dp e lab I I' L L' i1 i1' i2 i2' i3 i3' i4 i4' i5 i5' u_I u_L u_i1 u_i2 u_i3 u_i4 u_i5
    rw [g_105.eq_2, kf_105.eq_2]
    refine Sc Iff.rfl (fun _ => ?_) (fun _ => ?_)
    · refine Sc Iff.rfl (fun c1 => ?_) (fun _ => Sn)
      refine Sg (fun g2 => ?_)
      refine SsI (ui_min (rfl : Ui (8) (8)) (ui_add (ui_add u_i1 u_i2 g2.1) u_i3 g2.2)) (fun v_10 v_10' u_v_10 => ?_)
      exact (ih dp e 1 _ _ _ _ _ _ _ _ _ _ _ _ _ _ u_I u_L u_i1 u_i2 u_i3 u_v_10 (rfl : Ui (0) (0)))
    refine Sc Iff.rfl (fun _ => ?_) (fun _ => ?_)
    · refine Sc (le_up u_i4 u_i5) (fun c1 => ?_) (fun c1 => ?_)
      · exact Sr ⟨u_i4, u_I, u_L⟩
      · refine Sc (le_up u_i3 u_i5) (fun c2 => ?_) (fun c2 => ?_)
        · refine Sg (fun g3 => ?_)
          refine Sc (le_up (ui_add u_i3 u_i2 g3) u_i5) (fun c4 => ?_) (fun c4 => ?_)
          · refine Sc (ix_up u_i5) (fun c5 => ?_) (fun _ => Sn)
            refine SsJ (ri_up u_I (kc_up u_i5 c5.1) (rfl : Ui (0) (0))) (fun I_51 I_51' u_I_51 => ?_)
            refine Sg (fun g6 => ?_)
            exact (ih dp e 1 _ _ _ _ _ _ _ _ _ _ _ _ _ _ u_I_51 u_L u_i1 u_i2 u_i3 u_i4 (ui_add u_i5 (rfl : Ui (Int32.ofInt (1)) (1)) g6))
          · refine Sc (ix_up u_i5) (fun c7 => ?_) (fun _ => Sn)
            refine SsJ (ri_up u_I (kc_up u_i5 c7.1) (rfl : Ui (1) (1))) (fun I_51 I_51' u_I_51 => ?_)
            refine Sg (fun g8 => ?_)
            exact (ih dp e 1 _ _ _ _ _ _ _ _ _ _ _ _ _ _ u_I_51 u_L u_i1 u_i2 u_i3 u_i4 (ui_add u_i5 (rfl : Ui (Int32.ofInt (1)) (1)) g8))
        · refine Sc (ix_up u_i5) (fun c9 => ?_) (fun _ => Sn)
          refine SsJ (ri_up u_I (kc_up u_i5 c9.1) (rfl : Ui (2) (2))) (fun I_51 I_51' u_I_51 => ?_)
          refine Sg (fun g10 => ?_)
          exact (ih dp e 1 _ _ _ _ _ _ _ _ _ _ _ _ _ _ u_I_51 u_L u_i1 u_i2 u_i3 u_i4 (ui_add u_i5 (rfl : Ui (Int32.ofInt (1)) (1)) g10))
    exact Sn
set_option maxHeartbeats 4000000 in
set_option maxRecDepth 100000 in
def kf_111 : Nat → Nat → EN → Nat → JI → JI → Int → Int → Option (Int × JI × JI)
  | 0, _, _, _, _, _, _, _ => none
  | n + 1, dp, e, lab, I, L, i0, i1 =>
    if lab = 0 then (if -2147483648 ≤ i0 + i1 ∧ i0 + i1 ≤ 2147483647 then (stI (bA (i0 + i1) 17318416) (fun v_8 => (if -2147483648 ≤ v_8 - (bU v_8 4) ∧ v_8 - (bU v_8 4) ≤ 2147483647 then (some (((bA (bO (i0 + i1) (v_8 - (bU v_8 4))) 16236015) : Int), I, L)) else none))) else none)
    else none
set_option maxRecDepth 100000 in
theorem ke_111_0 (n : Nat) (dp : Nat) (e : EN) (I : JI) (L : JI) (i0 : Int) (i1 : Int) : kf_111 (n + 1) dp e 0 I L i0 i1 = (if -2147483648 ≤ i0 + i1 ∧ i0 + i1 ≤ 2147483647 then (stI (bA (i0 + i1) 17318416) (fun v_8 => (if -2147483648 ≤ v_8 - (bU v_8 4) ∧ v_8 - (bU v_8 4) ≤ 2147483647 then (some (((bA (bO (i0 + i1) (v_8 - (bU v_8 4))) 16236015) : Int), I, L)) else none))) else none) := by rw [kf_111.eq_2, if_pos (show (0 : Nat) = 0 from rfl)]
set_option maxHeartbeats 8000000 in
set_option maxRecDepth 100000 in
theorem ks_111 : ∀ (n : Nat) (dp : Nat) (e : EN) (lab : Nat) (I : Nat → Nat → Int32) (I' : JI) (L : Nat → Nat → Int64) (L' : JI) (i0 : Int32) (i0' : Int) (i1 : Int32) (i1' : Int), Rli I I' → Rll L L' → Ui i0 i0' → Ui i1 i1' → Sim R3 (g_111 n dp e lab I L i0 i1) (kf_111 n dp e lab I' L' i0' i1') := by
  intro n
  induction n with
  | zero => intros; rw [kf_111.eq_1]; exact Sn
  | succ n ih =>
    intro dp e lab I I' L L' i0 i0' i1 i1' u_I u_L u_i0 u_i1
    rw [g_111.eq_2, kf_111.eq_2]
    refine Sc Iff.rfl (fun _ => ?_) (fun _ => ?_)
    · refine Sg (fun g1 => ?_)
      refine SsI (ui_and (ui_add u_i0 u_i1 g1) (rfl : Ui (17318416) (17318416))) (fun v_8 v_8' u_v_8 => ?_)
      refine Sg (fun g2 => ?_)
      exact Sr ⟨(ui_and (ui_or (ui_add u_i0 u_i1 g1) (ui_sub u_v_8 (ui_ushr u_v_8 (rfl : Ui (4) (4))) g2)) (rfl : Ui (16236015) (16236015))), u_I, u_L⟩
    exact Sn
set_option maxHeartbeats 4000000 in
set_option maxRecDepth 100000 in
def kf_112 : Nat → Nat → EN → Nat → JI → JI → Int → Option (Int × JI × JI)
  | 0, _, _, _, _, _, _ => none
  | n + 1, dp, e, lab, I, L, i1 =>
    if lab = 0 then (if 0 ≤ (bA i1 1023) ∧ (bA i1 1023) < 1024 then (if 0 ≤ (bA (bU i1 10) 1023) ∧ (bA (bU i1 10) 1023) < 1024 then (if 0 ≤ (bA (bU i1 20) 31) ∧ (bA (bU i1 20) 31) < 32 then (if (-2147483648 ≤ (I 38 (bA i1 1023)) + (I 39 (bA (bU i1 10) 1023)) ∧ (I 38 (bA i1 1023)) + (I 39 (bA (bU i1 10) 1023)) ≤ 2147483647) ∧ (-2147483648 ≤ ((I 38 (bA i1 1023)) + (I 39 (bA (bU i1 10) 1023))) + (I 40 (bA (bU i1 20) 31)) ∧ ((I 38 (bA i1 1023)) + (I 39 (bA (bU i1 10) 1023))) + (I 40 (bA (bU i1 20) 31)) ≤ 2147483647) then (some (((((I 38 (bA i1 1023)) + (I 39 (bA (bU i1 10) 1023))) + (I 40 (bA (bU i1 20) 31))) : Int), I, L)) else none) else none) else none) else none)
    else none
set_option maxRecDepth 100000 in
theorem ke_112_0 (n : Nat) (dp : Nat) (e : EN) (I : JI) (L : JI) (i1 : Int) : kf_112 (n + 1) dp e 0 I L i1 = (if 0 ≤ (bA i1 1023) ∧ (bA i1 1023) < 1024 then (if 0 ≤ (bA (bU i1 10) 1023) ∧ (bA (bU i1 10) 1023) < 1024 then (if 0 ≤ (bA (bU i1 20) 31) ∧ (bA (bU i1 20) 31) < 32 then (if (-2147483648 ≤ (I 38 (bA i1 1023)) + (I 39 (bA (bU i1 10) 1023)) ∧ (I 38 (bA i1 1023)) + (I 39 (bA (bU i1 10) 1023)) ≤ 2147483647) ∧ (-2147483648 ≤ ((I 38 (bA i1 1023)) + (I 39 (bA (bU i1 10) 1023))) + (I 40 (bA (bU i1 20) 31)) ∧ ((I 38 (bA i1 1023)) + (I 39 (bA (bU i1 10) 1023))) + (I 40 (bA (bU i1 20) 31)) ≤ 2147483647) then (some (((((I 38 (bA i1 1023)) + (I 39 (bA (bU i1 10) 1023))) + (I 40 (bA (bU i1 20) 31))) : Int), I, L)) else none) else none) else none) else none) := by rw [kf_112.eq_2, if_pos (show (0 : Nat) = 0 from rfl)]
set_option maxHeartbeats 8000000 in
set_option maxRecDepth 100000 in
theorem ks_112 : ∀ (n : Nat) (dp : Nat) (e : EN) (lab : Nat) (I : Nat → Nat → Int32) (I' : JI) (L : Nat → Nat → Int64) (L' : JI) (i1 : Int32) (i1' : Int), Rli I I' → Rll L L' → Ui i1 i1' → Sim R3 (g_112 n dp e lab I L i1) (kf_112 n dp e lab I' L' i1') := by
  intro n
  induction n with
  | zero => intros; rw [kf_112.eq_1]; exact Sn
  | succ n ih =>
    intro dp e lab I I' L L' i1 i1' u_I u_L u_i1
    rw [g_112.eq_2, kf_112.eq_2]
    refine Sc Iff.rfl (fun _ => ?_) (fun _ => ?_)
    · refine Sc (ix_up (ui_and u_i1 (rfl : Ui (1023) (1023)))) (fun c1 => ?_) (fun _ => Sn)
      refine Sc (ix_up (ui_and (ui_ushr u_i1 (rfl : Ui (10) (10))) (rfl : Ui (1023) (1023)))) (fun c2 => ?_) (fun _ => Sn)
      refine Sc (ix_up (ui_and (ui_ushr u_i1 (rfl : Ui (20) (20))) (rfl : Ui (31) (31)))) (fun c3 => ?_) (fun _ => Sn)
      refine Sg (fun g4 => ?_)
      exact Sr ⟨(ui_add (ui_add (ui_rd (a := 38) u_I (ui_and u_i1 (rfl : Ui (1023) (1023))) c1.1) (ui_rd (a := 39) u_I (ui_and (ui_ushr u_i1 (rfl : Ui (10) (10))) (rfl : Ui (1023) (1023))) c2.1) g4.1) (ui_rd (a := 40) u_I (ui_and (ui_ushr u_i1 (rfl : Ui (20) (20))) (rfl : Ui (31) (31))) c3.1) g4.2), u_I, u_L⟩
    exact Sn
set_option maxHeartbeats 4000000 in
set_option maxRecDepth 100000 in
def kf_113 : Nat → Nat → EN → Nat → JI → JI → Int → Int → Int → Option (Int × JI × JI)
  | 0, _, _, _, _, _, _, _, _ => none
  | n + 1, dp, e, lab, I, L, i0, i1, i2 =>
    if lab = 0 then (if (-9223372036854775808 ≤ i1 * i2 ∧ i1 * i2 ≤ 9223372036854775807) ∧ (-9223372036854775808 ≤ i0 + (i1 * i2) ∧ i0 + (i1 * i2) ≤ 9223372036854775807) then (stI (i0 + (i1 * i2)) (fun v_8 => (if 1000000000 ≤ v_8 then (some ((1000000000 : Int), I, L)) else (if -2147483648 ≤ v_8 ∧ v_8 ≤ 2147483647 then (some ((v_8 : Int), I, L)) else none)))) else none)
    else none
set_option maxRecDepth 100000 in
theorem ke_113_0 (n : Nat) (dp : Nat) (e : EN) (I : JI) (L : JI) (i0 : Int) (i1 : Int) (i2 : Int) : kf_113 (n + 1) dp e 0 I L i0 i1 i2 = (if (-9223372036854775808 ≤ i1 * i2 ∧ i1 * i2 ≤ 9223372036854775807) ∧ (-9223372036854775808 ≤ i0 + (i1 * i2) ∧ i0 + (i1 * i2) ≤ 9223372036854775807) then (stI (i0 + (i1 * i2)) (fun v_8 => (if 1000000000 ≤ v_8 then (some ((1000000000 : Int), I, L)) else (if -2147483648 ≤ v_8 ∧ v_8 ≤ 2147483647 then (some ((v_8 : Int), I, L)) else none)))) else none) := by rw [kf_113.eq_2, if_pos (show (0 : Nat) = 0 from rfl)]
set_option maxHeartbeats 8000000 in
set_option maxRecDepth 100000 in
theorem ks_113 : ∀ (n : Nat) (dp : Nat) (e : EN) (lab : Nat) (I : Nat → Nat → Int32) (I' : JI) (L : Nat → Nat → Int64) (L' : JI) (i0 : Int32) (i0' : Int) (i1 : Int32) (i1' : Int) (i2 : Int32) (i2' : Int), Rli I I' → Rll L L' → Ui i0 i0' → Ui i1 i1' → Ui i2 i2' → Sim R3 (g_113 n dp e lab I L i0 i1 i2) (kf_113 n dp e lab I' L' i0' i1' i2') := by
  intro n
  induction n with
  | zero => intros; rw [kf_113.eq_1]; exact Sn
  | succ n ih =>
    intro dp e lab I I' L L' i0 i0' i1 i1' i2 i2' u_I u_L u_i0 u_i1 u_i2
    rw [g_113.eq_2, kf_113.eq_2]
    refine Sc Iff.rfl (fun _ => ?_) (fun _ => ?_)
    · refine Sg (fun g1 => ?_)
      refine SsL (ul_add (ul_i2l u_i0) (ul_mul (ul_i2l u_i1) (ul_i2l u_i2) g1.1) g1.2) (fun v_8 v_8' u_v_8 => ?_)
      refine Sc (lcge_up u_v_8 (rfl : Ul (1000000000) (1000000000))) (fun c2 => ?_) (fun c2 => ?_)
      · exact Sr ⟨(rfl : Ui (1000000000) (1000000000)), u_I, u_L⟩
      · refine Sg (fun g3 => ?_)
        exact Sr ⟨(ui_l2i u_v_8 g3), u_I, u_L⟩
    exact Sn
set_option maxHeartbeats 4000000 in
set_option maxRecDepth 100000 in
def kf_110 : Nat → Nat → EN → Nat → JI → JI → Int → Int → Int → Int → Int → Int → Int → Int → Int → Int → Int → Int → Int → Option (Int × JI × JI)
  | 0, _, _, _, _, _, _, _, _, _, _, _, _, _, _, _, _, _, _ => none
  | n + 1, dp, e, lab, I, L, i1, i2, i3, i4, i7, i8, i9, i10, i11, i12, i13, i14, i15 =>
    if lab = 0 then ((e.2.2 44 4).bind (fun b_19 => (if ((b_19 < e.1) ∧ (((e.2.1 b_19).1 = 13) ∧ ((e.2.1 b_19).2 < (2 ^ 31)))) ∧ (0 ≤ i1 ∧ i1 < (((e.2.1 b_19).2 : Nat) : Int)) then (stI (I b_19 i1) (fun v_24 => ((e.2.2 44 5).bind (fun b_27 => (if ((b_27 < e.1) ∧ (((e.2.1 b_27).1 = 13) ∧ ((e.2.1 b_27).2 < (2 ^ 31)))) ∧ (0 ≤ i1 ∧ i1 < (((e.2.1 b_27).2 : Nat) : Int)) then (stI (I b_27 i1) (fun v_32 => (if 0 ≤ i2 ∧ i2 < 3 then (if (-2147483648 ≤ i2 * 64 ∧ i2 * 64 ≤ 2147483647) ∧ (-2147483648 ≤ (i2 * 64) + (I 32 i2) ∧ (i2 * 64) + (I 32 i2) ≤ 2147483647) then (stI ((i2 * 64) + (I 32 i2)) (fun v_52 => (kf_110 n dp e 1 I L i1 i2 i3 i4 v_24 v_32 i4 v_52 (i2 * 64) 0 0 0 0))) else none) else none))) else none))))) else none)))
    else if lab = 1 then (if i10 ≤ i11 then (some ((i9 : Int), I, L)) else (if 0 ≤ i11 ∧ i11 < 192 then (if 1 ≤ dp then ((kf_111 n (dp - 1) e 0 I L i7 (I 27 i11)).bind (fun ⟨x0_74, I0_74, L0_74⟩ => (if 0 ≤ i11 ∧ i11 < 192 then (if i11 = i3 then (if (-2147483648 ≤ i8 + (I0_74 28 i11) ∧ i8 + (I0_74 28 i11) ≤ 2147483647) ∧ (-2147483648 ≤ (i8 + (I0_74 28 i11)) + 1 ∧ (i8 + (I0_74 28 i11)) + 1 ≤ 2147483647) then (stI ((i8 + (I0_74 28 i11)) + 1) (fun v_99 => (if 1 ≤ dp then ((kf_112 n (dp - 1) e 0 I0_74 L0_74 x0_74).bind (fun ⟨x1_107, I1_107, L1_107⟩ => ((e.2.2 44 7).bind (fun b_113 => (if ((b_113 < e.1) ∧ (((e.2.1 b_113).1 = 13) ∧ ((e.2.1 b_113).2 < (2 ^ 31)))) ∧ (0 ≤ x1_107 ∧ x1_107 < (((e.2.1 b_113).2 : Nat) : Int)) then (if -2147483648 ≤ (I1_107 b_113 x1_107) - 1 ∧ (I1_107 b_113 x1_107) - 1 ≤ 2147483647 then (stI ((I1_107 b_113 x1_107) - 1) (fun v_121 => (if 0 ≤ v_121 then ((e.2.2 44 5).bind (fun b_195 => (if ((b_195 < e.1) ∧ (((e.2.1 b_195).1 = 13) ∧ ((e.2.1 b_195).2 < (2 ^ 31)))) ∧ (0 ≤ v_121 ∧ v_121 < (((e.2.1 b_195).2 : Nat) : Int)) then (if v_99 ≤ (I1_107 b_195 v_121) then ((e.2.2 44 5).bind (fun b_246 => (if ((b_246 < e.1) ∧ (((e.2.1 b_246).1 = 13) ∧ ((e.2.1 b_246).2 < (2 ^ 31)))) ∧ (0 ≤ v_121 ∧ v_121 < (((e.2.1 b_246).2 : Nat) : Int)) then (if v_99 = (I1_107 b_246 v_121) then ((e.2.2 44 6).bind (fun b_256 => ((e.2.2 44 6).bind (fun b_262 => (if ((b_262 < e.1) ∧ (((e.2.1 b_262).1 = 13) ∧ ((e.2.1 b_262).2 < (2 ^ 31)))) ∧ (0 ≤ v_121 ∧ v_121 < (((e.2.1 b_262).2 : Nat) : Int)) then ((e.2.2 44 6).bind (fun b_269 => (if ((b_269 < e.1) ∧ (((e.2.1 b_269).1 = 13) ∧ ((e.2.1 b_269).2 < (2 ^ 31)))) ∧ (0 ≤ i1 ∧ i1 < (((e.2.1 b_269).2 : Nat) : Int)) then (if 0 ≤ i11 ∧ i11 < 192 then (if 1 ≤ dp then ((kf_113 n (dp - 1) e 0 I1_107 L1_107 (I1_107 b_262 v_121) (I1_107 b_269 i1) (I1_107 29 i11)).bind (fun ⟨x2_284, I2_284, L2_284⟩ => (if ((b_256 < e.1) ∧ (((e.2.1 b_256).1 = 13) ∧ ((e.2.1 b_256).2 < (2 ^ 31)))) ∧ (0 ≤ v_121 ∧ v_121 < (((e.2.1 b_256).2 : Nat) : Int)) then (stI (w2 I2_284 b_256 v_121 x2_284) (fun I_287 => (kf_110 n dp e 2 I_287 L2_284 i1 i2 i3 i4 i7 i8 i9 i10 i11 x0_74 v_99 x1_107 v_121))) else none))) else none) else none) else none))) else none))))) else (kf_110 n dp e 2 I1_107 L1_107 i1 i2 i3 i4 i7 i8 i9 i10 i11 x0_74 v_99 x1_107 v_121)) else none))) else ((e.2.2 44 5).bind (fun b_205 => (if ((b_205 < e.1) ∧ (((e.2.1 b_205).1 = 13) ∧ ((e.2.1 b_205).2 < (2 ^ 31)))) ∧ (0 ≤ v_121 ∧ v_121 < (((e.2.1 b_205).2 : Nat) : Int)) then (stI (w2 I1_107 b_205 v_121 v_99) (fun I_212 => ((e.2.2 44 6).bind (fun b_214 => ((e.2.2 44 6).bind (fun b_221 => (if ((b_221 < e.1) ∧ (((e.2.1 b_221).1 = 13) ∧ ((e.2.1 b_221).2 < (2 ^ 31)))) ∧ (0 ≤ i1 ∧ i1 < (((e.2.1 b_221).2 : Nat) : Int)) then (if 0 ≤ i11 ∧ i11 < 192 then (if 1 ≤ dp then ((kf_113 n (dp - 1) e 0 I_212 L1_107 0 (I_212 b_221 i1) (I_212 29 i11)).bind (fun ⟨x2_236, I2_236, L2_236⟩ => (if ((b_214 < e.1) ∧ (((e.2.1 b_214).1 = 13) ∧ ((e.2.1 b_214).2 < (2 ^ 31)))) ∧ (0 ≤ v_121 ∧ v_121 < (((e.2.1 b_214).2 : Nat) : Int)) then (stI (w2 I2_236 b_214 v_121 x2_236) (fun I_239 => (kf_110 n dp e 2 I_239 L2_236 i1 i2 i3 i4 i7 i8 i9 i10 i11 x0_74 v_99 x1_107 v_121))) else none))) else none) else none) else none))))))) else none)))) else none))) else ((e.2.2 44 7).bind (fun b_136 => (if ((b_136 < e.1) ∧ (((e.2.1 b_136).1 = 13) ∧ ((e.2.1 b_136).2 < (2 ^ 31)))) ∧ (0 ≤ x1_107 ∧ x1_107 < (((e.2.1 b_136).2 : Nat) : Int)) then (if -2147483648 ≤ i9 + 1 ∧ i9 + 1 ≤ 2147483647 then (stI (w2 I1_107 b_136 x1_107 (i9 + 1)) (fun I_143 => ((e.2.2 44 4).bind (fun b_145 => (if ((b_145 < e.1) ∧ (((e.2.1 b_145).1 = 13) ∧ ((e.2.1 b_145).2 < (2 ^ 31)))) ∧ (0 ≤ i9 ∧ i9 < (((e.2.1 b_145).2 : Nat) : Int)) then (stI (w2 I_143 b_145 i9 x0_74) (fun I_152 => ((e.2.2 44 5).bind (fun b_154 => (if ((b_154 < e.1) ∧ (((e.2.1 b_154).1 = 13) ∧ ((e.2.1 b_154).2 < (2 ^ 31)))) ∧ (0 ≤ i9 ∧ i9 < (((e.2.1 b_154).2 : Nat) : Int)) then (stI (w2 I_152 b_154 i9 v_99) (fun I_161 => ((e.2.2 44 6).bind (fun b_163 => ((e.2.2 44 6).bind (fun b_170 => (if ((b_170 < e.1) ∧ (((e.2.1 b_170).1 = 13) ∧ ((e.2.1 b_170).2 < (2 ^ 31)))) ∧ (0 ≤ i1 ∧ i1 < (((e.2.1 b_170).2 : Nat) : Int)) then (if 0 ≤ i11 ∧ i11 < 192 then (if 1 ≤ dp then ((kf_113 n (dp - 1) e 0 I_161 L1_107 0 (I_161 b_170 i1) (I_161 29 i11)).bind (fun ⟨x2_185, I2_185, L2_185⟩ => (if ((b_163 < e.1) ∧ (((e.2.1 b_163).1 = 13) ∧ ((e.2.1 b_163).2 < (2 ^ 31)))) ∧ (0 ≤ i9 ∧ i9 < (((e.2.1 b_163).2 : Nat) : Int)) then (stI (w2 I2_185 b_163 i9 x2_185) (fun I_188 => (kf_110 n dp e 2 I_188 L2_185 i1 i2 i3 i4 i7 i8 (i9 + 1) i10 i11 x0_74 v_99 x1_107 i9))) else none))) else none) else none) else none))))))) else none))))) else none))))) else none) else none)))))) else none) else none))))) else none))) else none) else (if (-2147483648 ≤ i8 + (I0_74 28 i11) ∧ i8 + (I0_74 28 i11) ≤ 2147483647) ∧ (-2147483648 ≤ (i8 + (I0_74 28 i11)) + 0 ∧ (i8 + (I0_74 28 i11)) + 0 ≤ 2147483647) then (stI ((i8 + (I0_74 28 i11)) + 0) (fun v_99 => (if 1 ≤ dp then ((kf_112 n (dp - 1) e 0 I0_74 L0_74 x0_74).bind (fun ⟨x1_107, I1_107, L1_107⟩ => ((e.2.2 44 7).bind (fun b_113 => (if ((b_113 < e.1) ∧ (((e.2.1 b_113).1 = 13) ∧ ((e.2.1 b_113).2 < (2 ^ 31)))) ∧ (0 ≤ x1_107 ∧ x1_107 < (((e.2.1 b_113).2 : Nat) : Int)) then (if -2147483648 ≤ (I1_107 b_113 x1_107) - 1 ∧ (I1_107 b_113 x1_107) - 1 ≤ 2147483647 then (stI ((I1_107 b_113 x1_107) - 1) (fun v_121 => (if 0 ≤ v_121 then ((e.2.2 44 5).bind (fun b_195 => (if ((b_195 < e.1) ∧ (((e.2.1 b_195).1 = 13) ∧ ((e.2.1 b_195).2 < (2 ^ 31)))) ∧ (0 ≤ v_121 ∧ v_121 < (((e.2.1 b_195).2 : Nat) : Int)) then (if v_99 ≤ (I1_107 b_195 v_121) then ((e.2.2 44 5).bind (fun b_246 => (if ((b_246 < e.1) ∧ (((e.2.1 b_246).1 = 13) ∧ ((e.2.1 b_246).2 < (2 ^ 31)))) ∧ (0 ≤ v_121 ∧ v_121 < (((e.2.1 b_246).2 : Nat) : Int)) then (if v_99 = (I1_107 b_246 v_121) then ((e.2.2 44 6).bind (fun b_256 => ((e.2.2 44 6).bind (fun b_262 => (if ((b_262 < e.1) ∧ (((e.2.1 b_262).1 = 13) ∧ ((e.2.1 b_262).2 < (2 ^ 31)))) ∧ (0 ≤ v_121 ∧ v_121 < (((e.2.1 b_262).2 : Nat) : Int)) then ((e.2.2 44 6).bind (fun b_269 => (if ((b_269 < e.1) ∧ (((e.2.1 b_269).1 = 13) ∧ ((e.2.1 b_269).2 < (2 ^ 31)))) ∧ (0 ≤ i1 ∧ i1 < (((e.2.1 b_269).2 : Nat) : Int)) then (if 0 ≤ i11 ∧ i11 < 192 then (if 1 ≤ dp then ((kf_113 n (dp - 1) e 0 I1_107 L1_107 (I1_107 b_262 v_121) (I1_107 b_269 i1) (I1_107 29 i11)).bind (fun ⟨x2_284, I2_284, L2_284⟩ => (if ((b_256 < e.1) ∧ (((e.2.1 b_256).1 = 13) ∧ ((e.2.1 b_256).2 < (2 ^ 31)))) ∧ (0 ≤ v_121 ∧ v_121 < (((e.2.1 b_256).2 : Nat) : Int)) then (stI (w2 I2_284 b_256 v_121 x2_284) (fun I_287 => (kf_110 n dp e 2 I_287 L2_284 i1 i2 i3 i4 i7 i8 i9 i10 i11 x0_74 v_99 x1_107 v_121))) else none))) else none) else none) else none))) else none))))) else (kf_110 n dp e 2 I1_107 L1_107 i1 i2 i3 i4 i7 i8 i9 i10 i11 x0_74 v_99 x1_107 v_121)) else none))) else ((e.2.2 44 5).bind (fun b_205 => (if ((b_205 < e.1) ∧ (((e.2.1 b_205).1 = 13) ∧ ((e.2.1 b_205).2 < (2 ^ 31)))) ∧ (0 ≤ v_121 ∧ v_121 < (((e.2.1 b_205).2 : Nat) : Int)) then (stI (w2 I1_107 b_205 v_121 v_99) (fun I_212 => ((e.2.2 44 6).bind (fun b_214 => ((e.2.2 44 6).bind (fun b_221 => (if ((b_221 < e.1) ∧ (((e.2.1 b_221).1 = 13) ∧ ((e.2.1 b_221).2 < (2 ^ 31)))) ∧ (0 ≤ i1 ∧ i1 < (((e.2.1 b_221).2 : Nat) : Int)) then (if 0 ≤ i11 ∧ i11 < 192 then (if 1 ≤ dp then ((kf_113 n (dp - 1) e 0 I_212 L1_107 0 (I_212 b_221 i1) (I_212 29 i11)).bind (fun ⟨x2_236, I2_236, L2_236⟩ => (if ((b_214 < e.1) ∧ (((e.2.1 b_214).1 = 13) ∧ ((e.2.1 b_214).2 < (2 ^ 31)))) ∧ (0 ≤ v_121 ∧ v_121 < (((e.2.1 b_214).2 : Nat) : Int)) then (stI (w2 I2_236 b_214 v_121 x2_236) (fun I_239 => (kf_110 n dp e 2 I_239 L2_236 i1 i2 i3 i4 i7 i8 i9 i10 i11 x0_74 v_99 x1_107 v_121))) else none))) else none) else none) else none))))))) else none)))) else none))) else ((e.2.2 44 7).bind (fun b_136 => (if ((b_136 < e.1) ∧ (((e.2.1 b_136).1 = 13) ∧ ((e.2.1 b_136).2 < (2 ^ 31)))) ∧ (0 ≤ x1_107 ∧ x1_107 < (((e.2.1 b_136).2 : Nat) : Int)) then (if -2147483648 ≤ i9 + 1 ∧ i9 + 1 ≤ 2147483647 then (stI (w2 I1_107 b_136 x1_107 (i9 + 1)) (fun I_143 => ((e.2.2 44 4).bind (fun b_145 => (if ((b_145 < e.1) ∧ (((e.2.1 b_145).1 = 13) ∧ ((e.2.1 b_145).2 < (2 ^ 31)))) ∧ (0 ≤ i9 ∧ i9 < (((e.2.1 b_145).2 : Nat) : Int)) then (stI (w2 I_143 b_145 i9 x0_74) (fun I_152 => ((e.2.2 44 5).bind (fun b_154 => (if ((b_154 < e.1) ∧ (((e.2.1 b_154).1 = 13) ∧ ((e.2.1 b_154).2 < (2 ^ 31)))) ∧ (0 ≤ i9 ∧ i9 < (((e.2.1 b_154).2 : Nat) : Int)) then (stI (w2 I_152 b_154 i9 v_99) (fun I_161 => ((e.2.2 44 6).bind (fun b_163 => ((e.2.2 44 6).bind (fun b_170 => (if ((b_170 < e.1) ∧ (((e.2.1 b_170).1 = 13) ∧ ((e.2.1 b_170).2 < (2 ^ 31)))) ∧ (0 ≤ i1 ∧ i1 < (((e.2.1 b_170).2 : Nat) : Int)) then (if 0 ≤ i11 ∧ i11 < 192 then (if 1 ≤ dp then ((kf_113 n (dp - 1) e 0 I_161 L1_107 0 (I_161 b_170 i1) (I_161 29 i11)).bind (fun ⟨x2_185, I2_185, L2_185⟩ => (if ((b_163 < e.1) ∧ (((e.2.1 b_163).1 = 13) ∧ ((e.2.1 b_163).2 < (2 ^ 31)))) ∧ (0 ≤ i9 ∧ i9 < (((e.2.1 b_163).2 : Nat) : Int)) then (stI (w2 I2_185 b_163 i9 x2_185) (fun I_188 => (kf_110 n dp e 2 I_188 L2_185 i1 i2 i3 i4 i7 i8 (i9 + 1) i10 i11 x0_74 v_99 x1_107 i9))) else none))) else none) else none) else none))))))) else none))))) else none))))) else none) else none)))))) else none) else none))))) else none))) else none)) else none))) else none) else none))
    else if lab = 2 then (if -2147483648 ≤ i11 + 1 ∧ i11 + 1 ≤ 2147483647 then (kf_110 n dp e 1 I L i1 i2 i3 i4 i7 i8 i9 i10 (i11 + 1) 0 0 0 0) else none)
    else none
set_option maxRecDepth 100000 in
theorem ke_110_0 (n : Nat) (dp : Nat) (e : EN) (I : JI) (L : JI) (i1 : Int) (i2 : Int) (i3 : Int) (i4 : Int) (i7 : Int) (i8 : Int) (i9 : Int) (i10 : Int) (i11 : Int) (i12 : Int) (i13 : Int) (i14 : Int) (i15 : Int) : kf_110 (n + 1) dp e 0 I L i1 i2 i3 i4 i7 i8 i9 i10 i11 i12 i13 i14 i15 = ((e.2.2 44 4).bind (fun b_19 => (if ((b_19 < e.1) ∧ (((e.2.1 b_19).1 = 13) ∧ ((e.2.1 b_19).2 < (2 ^ 31)))) ∧ (0 ≤ i1 ∧ i1 < (((e.2.1 b_19).2 : Nat) : Int)) then (stI (I b_19 i1) (fun v_24 => ((e.2.2 44 5).bind (fun b_27 => (if ((b_27 < e.1) ∧ (((e.2.1 b_27).1 = 13) ∧ ((e.2.1 b_27).2 < (2 ^ 31)))) ∧ (0 ≤ i1 ∧ i1 < (((e.2.1 b_27).2 : Nat) : Int)) then (stI (I b_27 i1) (fun v_32 => (if 0 ≤ i2 ∧ i2 < 3 then (if (-2147483648 ≤ i2 * 64 ∧ i2 * 64 ≤ 2147483647) ∧ (-2147483648 ≤ (i2 * 64) + (I 32 i2) ∧ (i2 * 64) + (I 32 i2) ≤ 2147483647) then (stI ((i2 * 64) + (I 32 i2)) (fun v_52 => (kf_110 n dp e 1 I L i1 i2 i3 i4 v_24 v_32 i4 v_52 (i2 * 64) 0 0 0 0))) else none) else none))) else none))))) else none))) := by rw [kf_110.eq_2, if_pos (show (0 : Nat) = 0 from rfl)]
set_option maxRecDepth 100000 in
theorem ke_110_1 (n : Nat) (dp : Nat) (e : EN) (I : JI) (L : JI) (i1 : Int) (i2 : Int) (i3 : Int) (i4 : Int) (i7 : Int) (i8 : Int) (i9 : Int) (i10 : Int) (i11 : Int) (i12 : Int) (i13 : Int) (i14 : Int) (i15 : Int) : kf_110 (n + 1) dp e 1 I L i1 i2 i3 i4 i7 i8 i9 i10 i11 i12 i13 i14 i15 = (if i10 ≤ i11 then (some ((i9 : Int), I, L)) else (if 0 ≤ i11 ∧ i11 < 192 then (if 1 ≤ dp then ((kf_111 n (dp - 1) e 0 I L i7 (I 27 i11)).bind (fun ⟨x0_74, I0_74, L0_74⟩ => (if 0 ≤ i11 ∧ i11 < 192 then (if i11 = i3 then (if (-2147483648 ≤ i8 + (I0_74 28 i11) ∧ i8 + (I0_74 28 i11) ≤ 2147483647) ∧ (-2147483648 ≤ (i8 + (I0_74 28 i11)) + 1 ∧ (i8 + (I0_74 28 i11)) + 1 ≤ 2147483647) then (stI ((i8 + (I0_74 28 i11)) + 1) (fun v_99 => (if 1 ≤ dp then ((kf_112 n (dp - 1) e 0 I0_74 L0_74 x0_74).bind (fun ⟨x1_107, I1_107, L1_107⟩ => ((e.2.2 44 7).bind (fun b_113 => (if ((b_113 < e.1) ∧ (((e.2.1 b_113).1 = 13) ∧ ((e.2.1 b_113).2 < (2 ^ 31)))) ∧ (0 ≤ x1_107 ∧ x1_107 < (((e.2.1 b_113).2 : Nat) : Int)) then (if -2147483648 ≤ (I1_107 b_113 x1_107) - 1 ∧ (I1_107 b_113 x1_107) - 1 ≤ 2147483647 then (stI ((I1_107 b_113 x1_107) - 1) (fun v_121 => (if 0 ≤ v_121 then ((e.2.2 44 5).bind (fun b_195 => (if ((b_195 < e.1) ∧ (((e.2.1 b_195).1 = 13) ∧ ((e.2.1 b_195).2 < (2 ^ 31)))) ∧ (0 ≤ v_121 ∧ v_121 < (((e.2.1 b_195).2 : Nat) : Int)) then (if v_99 ≤ (I1_107 b_195 v_121) then ((e.2.2 44 5).bind (fun b_246 => (if ((b_246 < e.1) ∧ (((e.2.1 b_246).1 = 13) ∧ ((e.2.1 b_246).2 < (2 ^ 31)))) ∧ (0 ≤ v_121 ∧ v_121 < (((e.2.1 b_246).2 : Nat) : Int)) then (if v_99 = (I1_107 b_246 v_121) then ((e.2.2 44 6).bind (fun b_256 => ((e.2.2 44 6).bind (fun b_262 => (if ((b_262 < e.1) ∧ (((e.2.1 b_262).1 = 13) ∧ ((e.2.1 b_262).2 < (2 ^ 31)))) ∧ (0 ≤ v_121 ∧ v_121 < (((e.2.1 b_262).2 : Nat) : Int)) then ((e.2.2 44 6).bind (fun b_269 => (if ((b_269 < e.1) ∧ (((e.2.1 b_269).1 = 13) ∧ ((e.2.1 b_269).2 < (2 ^ 31)))) ∧ (0 ≤ i1 ∧ i1 < (((e.2.1 b_269).2 : Nat) : Int)) then (if 0 ≤ i11 ∧ i11 < 192 then (if 1 ≤ dp then ((kf_113 n (dp - 1) e 0 I1_107 L1_107 (I1_107 b_262 v_121) (I1_107 b_269 i1) (I1_107 29 i11)).bind (fun ⟨x2_284, I2_284, L2_284⟩ => (if ((b_256 < e.1) ∧ (((e.2.1 b_256).1 = 13) ∧ ((e.2.1 b_256).2 < (2 ^ 31)))) ∧ (0 ≤ v_121 ∧ v_121 < (((e.2.1 b_256).2 : Nat) : Int)) then (stI (w2 I2_284 b_256 v_121 x2_284) (fun I_287 => (kf_110 n dp e 2 I_287 L2_284 i1 i2 i3 i4 i7 i8 i9 i10 i11 x0_74 v_99 x1_107 v_121))) else none))) else none) else none) else none))) else none))))) else (kf_110 n dp e 2 I1_107 L1_107 i1 i2 i3 i4 i7 i8 i9 i10 i11 x0_74 v_99 x1_107 v_121)) else none))) else ((e.2.2 44 5).bind (fun b_205 => (if ((b_205 < e.1) ∧ (((e.2.1 b_205).1 = 13) ∧ ((e.2.1 b_205).2 < (2 ^ 31)))) ∧ (0 ≤ v_121 ∧ v_121 < (((e.2.1 b_205).2 : Nat) : Int)) then (stI (w2 I1_107 b_205 v_121 v_99) (fun I_212 => ((e.2.2 44 6).bind (fun b_214 => ((e.2.2 44 6).bind (fun b_221 => (if ((b_221 < e.1) ∧ (((e.2.1 b_221).1 = 13) ∧ ((e.2.1 b_221).2 < (2 ^ 31)))) ∧ (0 ≤ i1 ∧ i1 < (((e.2.1 b_221).2 : Nat) : Int)) then (if 0 ≤ i11 ∧ i11 < 192 then (if 1 ≤ dp then ((kf_113 n (dp - 1) e 0 I_212 L1_107 0 (I_212 b_221 i1) (I_212 29 i11)).bind (fun ⟨x2_236, I2_236, L2_236⟩ => (if ((b_214 < e.1) ∧ (((e.2.1 b_214).1 = 13) ∧ ((e.2.1 b_214).2 < (2 ^ 31)))) ∧ (0 ≤ v_121 ∧ v_121 < (((e.2.1 b_214).2 : Nat) : Int)) then (stI (w2 I2_236 b_214 v_121 x2_236) (fun I_239 => (kf_110 n dp e 2 I_239 L2_236 i1 i2 i3 i4 i7 i8 i9 i10 i11 x0_74 v_99 x1_107 v_121))) else none))) else none) else none) else none))))))) else none)))) else none))) else ((e.2.2 44 7).bind (fun b_136 => (if ((b_136 < e.1) ∧ (((e.2.1 b_136).1 = 13) ∧ ((e.2.1 b_136).2 < (2 ^ 31)))) ∧ (0 ≤ x1_107 ∧ x1_107 < (((e.2.1 b_136).2 : Nat) : Int)) then (if -2147483648 ≤ i9 + 1 ∧ i9 + 1 ≤ 2147483647 then (stI (w2 I1_107 b_136 x1_107 (i9 + 1)) (fun I_143 => ((e.2.2 44 4).bind (fun b_145 => (if ((b_145 < e.1) ∧ (((e.2.1 b_145).1 = 13) ∧ ((e.2.1 b_145).2 < (2 ^ 31)))) ∧ (0 ≤ i9 ∧ i9 < (((e.2.1 b_145).2 : Nat) : Int)) then (stI (w2 I_143 b_145 i9 x0_74) (fun I_152 => ((e.2.2 44 5).bind (fun b_154 => (if ((b_154 < e.1) ∧ (((e.2.1 b_154).1 = 13) ∧ ((e.2.1 b_154).2 < (2 ^ 31)))) ∧ (0 ≤ i9 ∧ i9 < (((e.2.1 b_154).2 : Nat) : Int)) then (stI (w2 I_152 b_154 i9 v_99) (fun I_161 => ((e.2.2 44 6).bind (fun b_163 => ((e.2.2 44 6).bind (fun b_170 => (if ((b_170 < e.1) ∧ (((e.2.1 b_170).1 = 13) ∧ ((e.2.1 b_170).2 < (2 ^ 31)))) ∧ (0 ≤ i1 ∧ i1 < (((e.2.1 b_170).2 : Nat) : Int)) then (if 0 ≤ i11 ∧ i11 < 192 then (if 1 ≤ dp then ((kf_113 n (dp - 1) e 0 I_161 L1_107 0 (I_161 b_170 i1) (I_161 29 i11)).bind (fun ⟨x2_185, I2_185, L2_185⟩ => (if ((b_163 < e.1) ∧ (((e.2.1 b_163).1 = 13) ∧ ((e.2.1 b_163).2 < (2 ^ 31)))) ∧ (0 ≤ i9 ∧ i9 < (((e.2.1 b_163).2 : Nat) : Int)) then (stI (w2 I2_185 b_163 i9 x2_185) (fun I_188 => (kf_110 n dp e 2 I_188 L2_185 i1 i2 i3 i4 i7 i8 (i9 + 1) i10 i11 x0_74 v_99 x1_107 i9))) else none))) else none) else none) else none))))))) else none))))) else none))))) else none) else none)))))) else none) else none))))) else none))) else none) else (if (-2147483648 ≤ i8 + (I0_74 28 i11) ∧ i8 + (I0_74 28 i11) ≤ 2147483647) ∧ (-2147483648 ≤ (i8 + (I0_74 28 i11)) + 0 ∧ (i8 + (I0_74 28 i11)) + 0 ≤ 2147483647) then (stI ((i8 + (I0_74 28 i11)) + 0) (fun v_99 => (if 1 ≤ dp then ((kf_112 n (dp - 1) e 0 I0_74 L0_74 x0_74).bind (fun ⟨x1_107, I1_107, L1_107⟩ => ((e.2.2 44 7).bind (fun b_113 => (if ((b_113 < e.1) ∧ (((e.2.1 b_113).1 = 13) ∧ ((e.2.1 b_113).2 < (2 ^ 31)))) ∧ (0 ≤ x1_107 ∧ x1_107 < (((e.2.1 b_113).2 : Nat) : Int)) then (if -2147483648 ≤ (I1_107 b_113 x1_107) - 1 ∧ (I1_107 b_113 x1_107) - 1 ≤ 2147483647 then (stI ((I1_107 b_113 x1_107) - 1) (fun v_121 => (if 0 ≤ v_121 then ((e.2.2 44 5).bind (fun b_195 => (if ((b_195 < e.1) ∧ (((e.2.1 b_195).1 = 13) ∧ ((e.2.1 b_195).2 < (2 ^ 31)))) ∧ (0 ≤ v_121 ∧ v_121 < (((e.2.1 b_195).2 : Nat) : Int)) then (if v_99 ≤ (I1_107 b_195 v_121) then ((e.2.2 44 5).bind (fun b_246 => (if ((b_246 < e.1) ∧ (((e.2.1 b_246).1 = 13) ∧ ((e.2.1 b_246).2 < (2 ^ 31)))) ∧ (0 ≤ v_121 ∧ v_121 < (((e.2.1 b_246).2 : Nat) : Int)) then (if v_99 = (I1_107 b_246 v_121) then ((e.2.2 44 6).bind (fun b_256 => ((e.2.2 44 6).bind (fun b_262 => (if ((b_262 < e.1) ∧ (((e.2.1 b_262).1 = 13) ∧ ((e.2.1 b_262).2 < (2 ^ 31)))) ∧ (0 ≤ v_121 ∧ v_121 < (((e.2.1 b_262).2 : Nat) : Int)) then ((e.2.2 44 6).bind (fun b_269 => (if ((b_269 < e.1) ∧ (((e.2.1 b_269).1 = 13) ∧ ((e.2.1 b_269).2 < (2 ^ 31)))) ∧ (0 ≤ i1 ∧ i1 < (((e.2.1 b_269).2 : Nat) : Int)) then (if 0 ≤ i11 ∧ i11 < 192 then (if 1 ≤ dp then ((kf_113 n (dp - 1) e 0 I1_107 L1_107 (I1_107 b_262 v_121) (I1_107 b_269 i1) (I1_107 29 i11)).bind (fun ⟨x2_284, I2_284, L2_284⟩ => (if ((b_256 < e.1) ∧ (((e.2.1 b_256).1 = 13) ∧ ((e.2.1 b_256).2 < (2 ^ 31)))) ∧ (0 ≤ v_121 ∧ v_121 < (((e.2.1 b_256).2 : Nat) : Int)) then (stI (w2 I2_284 b_256 v_121 x2_284) (fun I_287 => (kf_110 n dp e 2 I_287 L2_284 i1 i2 i3 i4 i7 i8 i9 i10 i11 x0_74 v_99 x1_107 v_121))) else none))) else none) else none) else none))) else none))))) else (kf_110 n dp e 2 I1_107 L1_107 i1 i2 i3 i4 i7 i8 i9 i10 i11 x0_74 v_99 x1_107 v_121)) else none))) else ((e.2.2 44 5).bind (fun b_205 => (if ((b_205 < e.1) ∧ (((e.2.1 b_205).1 = 13) ∧ ((e.2.1 b_205).2 < (2 ^ 31)))) ∧ (0 ≤ v_121 ∧ v_121 < (((e.2.1 b_205).2 : Nat) : Int)) then (stI (w2 I1_107 b_205 v_121 v_99) (fun I_212 => ((e.2.2 44 6).bind (fun b_214 => ((e.2.2 44 6).bind (fun b_221 => (if ((b_221 < e.1) ∧ (((e.2.1 b_221).1 = 13) ∧ ((e.2.1 b_221).2 < (2 ^ 31)))) ∧ (0 ≤ i1 ∧ i1 < (((e.2.1 b_221).2 : Nat) : Int)) then (if 0 ≤ i11 ∧ i11 < 192 then (if 1 ≤ dp then ((kf_113 n (dp - 1) e 0 I_212 L1_107 0 (I_212 b_221 i1) (I_212 29 i11)).bind (fun ⟨x2_236, I2_236, L2_236⟩ => (if ((b_214 < e.1) ∧ (((e.2.1 b_214).1 = 13) ∧ ((e.2.1 b_214).2 < (2 ^ 31)))) ∧ (0 ≤ v_121 ∧ v_121 < (((e.2.1 b_214).2 : Nat) : Int)) then (stI (w2 I2_236 b_214 v_121 x2_236) (fun I_239 => (kf_110 n dp e 2 I_239 L2_236 i1 i2 i3 i4 i7 i8 i9 i10 i11 x0_74 v_99 x1_107 v_121))) else none))) else none) else none) else none))))))) else none)))) else none))) else ((e.2.2 44 7).bind (fun b_136 => (if ((b_136 < e.1) ∧ (((e.2.1 b_136).1 = 13) ∧ ((e.2.1 b_136).2 < (2 ^ 31)))) ∧ (0 ≤ x1_107 ∧ x1_107 < (((e.2.1 b_136).2 : Nat) : Int)) then (if -2147483648 ≤ i9 + 1 ∧ i9 + 1 ≤ 2147483647 then (stI (w2 I1_107 b_136 x1_107 (i9 + 1)) (fun I_143 => ((e.2.2 44 4).bind (fun b_145 => (if ((b_145 < e.1) ∧ (((e.2.1 b_145).1 = 13) ∧ ((e.2.1 b_145).2 < (2 ^ 31)))) ∧ (0 ≤ i9 ∧ i9 < (((e.2.1 b_145).2 : Nat) : Int)) then (stI (w2 I_143 b_145 i9 x0_74) (fun I_152 => ((e.2.2 44 5).bind (fun b_154 => (if ((b_154 < e.1) ∧ (((e.2.1 b_154).1 = 13) ∧ ((e.2.1 b_154).2 < (2 ^ 31)))) ∧ (0 ≤ i9 ∧ i9 < (((e.2.1 b_154).2 : Nat) : Int)) then (stI (w2 I_152 b_154 i9 v_99) (fun I_161 => ((e.2.2 44 6).bind (fun b_163 => ((e.2.2 44 6).bind (fun b_170 => (if ((b_170 < e.1) ∧ (((e.2.1 b_170).1 = 13) ∧ ((e.2.1 b_170).2 < (2 ^ 31)))) ∧ (0 ≤ i1 ∧ i1 < (((e.2.1 b_170).2 : Nat) : Int)) then (if 0 ≤ i11 ∧ i11 < 192 then (if 1 ≤ dp then ((kf_113 n (dp - 1) e 0 I_161 L1_107 0 (I_161 b_170 i1) (I_161 29 i11)).bind (fun ⟨x2_185, I2_185, L2_185⟩ => (if ((b_163 < e.1) ∧ (((e.2.1 b_163).1 = 13) ∧ ((e.2.1 b_163).2 < (2 ^ 31)))) ∧ (0 ≤ i9 ∧ i9 < (((e.2.1 b_163).2 : Nat) : Int)) then (stI (w2 I2_185 b_163 i9 x2_185) (fun I_188 => (kf_110 n dp e 2 I_188 L2_185 i1 i2 i3 i4 i7 i8 (i9 + 1) i10 i11 x0_74 v_99 x1_107 i9))) else none))) else none) else none) else none))))))) else none))))) else none))))) else none) else none)))))) else none) else none))))) else none))) else none)) else none))) else none) else none)) := by rw [kf_110.eq_2, if_neg (show ¬ ((1 : Nat) = 0) by decide), if_pos (show (1 : Nat) = 1 from rfl)]
set_option maxRecDepth 100000 in
theorem ke_110_2 (n : Nat) (dp : Nat) (e : EN) (I : JI) (L : JI) (i1 : Int) (i2 : Int) (i3 : Int) (i4 : Int) (i7 : Int) (i8 : Int) (i9 : Int) (i10 : Int) (i11 : Int) (i12 : Int) (i13 : Int) (i14 : Int) (i15 : Int) : kf_110 (n + 1) dp e 2 I L i1 i2 i3 i4 i7 i8 i9 i10 i11 i12 i13 i14 i15 = (if -2147483648 ≤ i11 + 1 ∧ i11 + 1 ≤ 2147483647 then (kf_110 n dp e 1 I L i1 i2 i3 i4 i7 i8 i9 i10 (i11 + 1) 0 0 0 0) else none) := by rw [kf_110.eq_2, if_neg (show ¬ ((2 : Nat) = 0) by decide), if_neg (show ¬ ((2 : Nat) = 1) by decide), if_pos (show (2 : Nat) = 2 from rfl)]
set_option maxHeartbeats 8000000 in
set_option maxRecDepth 100000 in
theorem ks_110 : ∀ (n : Nat) (dp : Nat) (e : EN) (lab : Nat) (I : Nat → Nat → Int32) (I' : JI) (L : Nat → Nat → Int64) (L' : JI) (i1 : Int32) (i1' : Int) (i2 : Int32) (i2' : Int) (i3 : Int32) (i3' : Int) (i4 : Int32) (i4' : Int) (i7 : Int32) (i7' : Int) (i8 : Int32) (i8' : Int) (i9 : Int32) (i9' : Int) (i10 : Int32) (i10' : Int) (i11 : Int32) (i11' : Int) (i12 : Int32) (i12' : Int) (i13 : Int32) (i13' : Int) (i14 : Int32) (i14' : Int) (i15 : Int32) (i15' : Int), Rli I I' → Rll L L' → Ui i1 i1' → Ui i2 i2' → Ui i3 i3' → Ui i4 i4' → Ui i7 i7' → Ui i8 i8' → Ui i9 i9' → Ui i10 i10' → Ui i11 i11' → Ui i12 i12' → Ui i13 i13' → Ui i14 i14' → Ui i15 i15' → Sim R3 (g_110 n dp e lab I L i1 i2 i3 i4 i7 i8 i9 i10 i11 i12 i13 i14 i15) (kf_110 n dp e lab I' L' i1' i2' i3' i4' i7' i8' i9' i10' i11' i12' i13' i14' i15') := by
  intro n
  induction n with
  | zero => intros; rw [kf_110.eq_1]; exact Sn
  | succ n ih =>
    intro dp e lab I I' L L' i1 i1' i2 i2' i3 i3' i4 i4' i7 i7' i8 i8' i9 i9' i10 i10' i11 i11' i12 i12' i13 i13' i14 i14' i15 i15' u_I u_L u_i1 u_i2 u_i3 u_i4 u_i7 u_i8 u_i9 u_i10 u_i11 u_i12 u_i13 u_i14 u_i15
    rw [g_110.eq_2, kf_110.eq_2]
    refine Sc Iff.rfl (fun _ => ?_) (fun _ => ?_)
    · refine SbE rfl (fun b_19 => ?_)
      refine Sc (and_congr Iff.rfl (ix_up u_i1)) (fun c1 => ?_) (fun _ => Sn)
      refine SsI (ui_rd (a := b_19) u_I u_i1 c1.2.1) (fun v_24 v_24' u_v_24 => ?_)
      refine SbE rfl (fun b_27 => ?_)
      refine Sc (and_congr Iff.rfl (ix_up u_i1)) (fun c2 => ?_) (fun _ => Sn)
      refine SsI (ui_rd (a := b_27) u_I u_i1 c2.2.1) (fun v_32 v_32' u_v_32 => ?_)
      refine Sc (ix_up u_i2) (fun c3 => ?_) (fun _ => Sn)
      refine Sg (fun g4 => ?_)
      refine SsI (ui_add (ui_mul u_i2 (rfl : Ui (64) (64)) g4.1) (ui_rd (a := 32) u_I u_i2 c3.1) g4.2) (fun v_52 v_52' u_v_52 => ?_)
      exact (ih dp e 1 _ _ _ _ _ _ _ _ _ _ _ _ _ _ _ _ _ _ _ _ _ _ _ _ _ _ _ _ _ _ u_I u_L u_i1 u_i2 u_i3 u_i4 u_v_24 u_v_32 u_i4 u_v_52 (ui_mul u_i2 (rfl : Ui (64) (64)) g4.1) (rfl : Ui 0 0) (rfl : Ui 0 0) (rfl : Ui 0 0) (rfl : Ui 0 0))
    refine Sc Iff.rfl (fun _ => ?_) (fun _ => ?_)
    · refine Sc (le_up u_i10 u_i11) (fun c1 => ?_) (fun c1 => ?_)
      · exact Sr ⟨u_i9, u_I, u_L⟩
      · refine Sc (ix_up u_i11) (fun c2 => ?_) (fun _ => Sn)
        refine Sc Iff.rfl (fun c3 => ?_) (fun _ => Sn)
        refine Sb3 (ks_111 n (dp - 1) e 0 _ _ _ _ _ _ _ _ u_I u_L u_i7 (ui_rd (a := 27) u_I u_i11 c2.1)) (fun x0_74 x0_74' I0_74 I0_74' L0_74 L0_74' u_x0_74 u_I0_74 u_L0_74 => ?_)
        refine Sc (ix_up u_i11) (fun c4 => ?_) (fun _ => Sn)
        refine Sc (eq_up u_i11 u_i3) (fun c5 => ?_) (fun c5 => ?_)
        · refine Sg (fun g6 => ?_)
          refine SsI (ui_add (ui_add u_i8 (ui_rd (a := 28) u_I0_74 u_i11 c4.1) g6.1) (rfl : Ui (1) (1)) g6.2) (fun v_99 v_99' u_v_99 => ?_)
          refine Sc Iff.rfl (fun c7 => ?_) (fun _ => Sn)
          refine Sb3 (ks_112 n (dp - 1) e 0 _ _ _ _ _ _ u_I0_74 u_L0_74 u_x0_74) (fun x1_107 x1_107' I1_107 I1_107' L1_107 L1_107' u_x1_107 u_I1_107 u_L1_107 => ?_)
          refine SbE rfl (fun b_113 => ?_)
          refine Sc (and_congr Iff.rfl (ix_up u_x1_107)) (fun c8 => ?_) (fun _ => Sn)
          refine Sg (fun g9 => ?_)
          refine SsI (ui_sub (ui_rd (a := b_113) u_I1_107 u_x1_107 c8.2.1) (rfl : Ui (1) (1)) g9) (fun v_121 v_121' u_v_121 => ?_)
          refine Sc (le_up (rfl : Ui 0 0) u_v_121) (fun c10 => ?_) (fun c10 => ?_)
          · refine SbE rfl (fun b_195 => ?_)
            refine Sc (and_congr Iff.rfl (ix_up u_v_121)) (fun c11 => ?_) (fun _ => Sn)
            refine Sc (le_up u_v_99 (ui_rd (a := b_195) u_I1_107 u_v_121 c11.2.1)) (fun c12 => ?_) (fun c12 => ?_)
            · refine SbE rfl (fun b_246 => ?_)
              refine Sc (and_congr Iff.rfl (ix_up u_v_121)) (fun c13 => ?_) (fun _ => Sn)
              refine Sc (eq_up u_v_99 (ui_rd (a := b_246) u_I1_107 u_v_121 c13.2.1)) (fun c14 => ?_) (fun c14 => ?_)
              · refine SbE rfl (fun b_256 => ?_)
                refine SbE rfl (fun b_262 => ?_)
                refine Sc (and_congr Iff.rfl (ix_up u_v_121)) (fun c15 => ?_) (fun _ => Sn)
                refine SbE rfl (fun b_269 => ?_)
                refine Sc (and_congr Iff.rfl (ix_up u_i1)) (fun c16 => ?_) (fun _ => Sn)
                refine Sc (ix_up u_i11) (fun c17 => ?_) (fun _ => Sn)
                refine Sc Iff.rfl (fun c18 => ?_) (fun _ => Sn)
                refine Sb3 (ks_113 n (dp - 1) e 0 _ _ _ _ _ _ _ _ _ _ u_I1_107 u_L1_107 (ui_rd (a := b_262) u_I1_107 u_v_121 c15.2.1) (ui_rd (a := b_269) u_I1_107 u_i1 c16.2.1) (ui_rd (a := 29) u_I1_107 u_i11 c17.1)) (fun x2_284 x2_284' I2_284 I2_284' L2_284 L2_284' u_x2_284 u_I2_284 u_L2_284 => ?_)
                refine Sc (and_congr Iff.rfl (ix_up u_v_121)) (fun c19 => ?_) (fun _ => Sn)
                refine SsJ (ri_up u_I2_284 (kc_up u_v_121 c19.2.1) u_x2_284) (fun I_287 I_287' u_I_287 => ?_)
                exact (ih dp e 2 _ _ _ _ _ _ _ _ _ _ _ _ _ _ _ _ _ _ _ _ _ _ _ _ _ _ _ _ _ _ u_I_287 u_L2_284 u_i1 u_i2 u_i3 u_i4 u_i7 u_i8 u_i9 u_i10 u_i11 u_x0_74 u_v_99 u_x1_107 u_v_121)
              · exact (ih dp e 2 _ _ _ _ _ _ _ _ _ _ _ _ _ _ _ _ _ _ _ _ _ _ _ _ _ _ _ _ _ _ u_I1_107 u_L1_107 u_i1 u_i2 u_i3 u_i4 u_i7 u_i8 u_i9 u_i10 u_i11 u_x0_74 u_v_99 u_x1_107 u_v_121)
            · refine SbE rfl (fun b_205 => ?_)
              refine Sc (and_congr Iff.rfl (ix_up u_v_121)) (fun c20 => ?_) (fun _ => Sn)
              refine SsJ (ri_up u_I1_107 (kc_up u_v_121 c20.2.1) u_v_99) (fun I_212 I_212' u_I_212 => ?_)
              refine SbE rfl (fun b_214 => ?_)
              refine SbE rfl (fun b_221 => ?_)
              refine Sc (and_congr Iff.rfl (ix_up u_i1)) (fun c21 => ?_) (fun _ => Sn)
              refine Sc (ix_up u_i11) (fun c22 => ?_) (fun _ => Sn)
              refine Sc Iff.rfl (fun c23 => ?_) (fun _ => Sn)
              refine Sb3 (ks_113 n (dp - 1) e 0 _ _ _ _ _ _ _ _ _ _ u_I_212 u_L1_107 (rfl : Ui (0) (0)) (ui_rd (a := b_221) u_I_212 u_i1 c21.2.1) (ui_rd (a := 29) u_I_212 u_i11 c22.1)) (fun x2_236 x2_236' I2_236 I2_236' L2_236 L2_236' u_x2_236 u_I2_236 u_L2_236 => ?_)
              refine Sc (and_congr Iff.rfl (ix_up u_v_121)) (fun c24 => ?_) (fun _ => Sn)
              refine SsJ (ri_up u_I2_236 (kc_up u_v_121 c24.2.1) u_x2_236) (fun I_239 I_239' u_I_239 => ?_)
              exact (ih dp e 2 _ _ _ _ _ _ _ _ _ _ _ _ _ _ _ _ _ _ _ _ _ _ _ _ _ _ _ _ _ _ u_I_239 u_L2_236 u_i1 u_i2 u_i3 u_i4 u_i7 u_i8 u_i9 u_i10 u_i11 u_x0_74 u_v_99 u_x1_107 u_v_121)
          · refine SbE rfl (fun b_136 => ?_)
            refine Sc (and_congr Iff.rfl (ix_up u_x1_107)) (fun c25 => ?_) (fun _ => Sn)
            refine Sg (fun g26 => ?_)
            refine SsJ (ri_up u_I1_107 (kc_up u_x1_107 c25.2.1) (ui_add u_i9 (rfl : Ui (Int32.ofInt (1)) (1)) g26)) (fun I_143 I_143' u_I_143 => ?_)
            refine SbE rfl (fun b_145 => ?_)
            refine Sc (and_congr Iff.rfl (ix_up u_i9)) (fun c27 => ?_) (fun _ => Sn)
            refine SsJ (ri_up u_I_143 (kc_up u_i9 c27.2.1) u_x0_74) (fun I_152 I_152' u_I_152 => ?_)
            refine SbE rfl (fun b_154 => ?_)
            refine Sc (and_congr Iff.rfl (ix_up u_i9)) (fun c28 => ?_) (fun _ => Sn)
            refine SsJ (ri_up u_I_152 (kc_up u_i9 c28.2.1) u_v_99) (fun I_161 I_161' u_I_161 => ?_)
            refine SbE rfl (fun b_163 => ?_)
            refine SbE rfl (fun b_170 => ?_)
            refine Sc (and_congr Iff.rfl (ix_up u_i1)) (fun c29 => ?_) (fun _ => Sn)
            refine Sc (ix_up u_i11) (fun c30 => ?_) (fun _ => Sn)
            refine Sc Iff.rfl (fun c31 => ?_) (fun _ => Sn)
            refine Sb3 (ks_113 n (dp - 1) e 0 _ _ _ _ _ _ _ _ _ _ u_I_161 u_L1_107 (rfl : Ui (0) (0)) (ui_rd (a := b_170) u_I_161 u_i1 c29.2.1) (ui_rd (a := 29) u_I_161 u_i11 c30.1)) (fun x2_185 x2_185' I2_185 I2_185' L2_185 L2_185' u_x2_185 u_I2_185 u_L2_185 => ?_)
            refine Sc (and_congr Iff.rfl (ix_up u_i9)) (fun c32 => ?_) (fun _ => Sn)
            refine SsJ (ri_up u_I2_185 (kc_up u_i9 c32.2.1) u_x2_185) (fun I_188 I_188' u_I_188 => ?_)
            exact (ih dp e 2 _ _ _ _ _ _ _ _ _ _ _ _ _ _ _ _ _ _ _ _ _ _ _ _ _ _ _ _ _ _ u_I_188 u_L2_185 u_i1 u_i2 u_i3 u_i4 u_i7 u_i8 (ui_add u_i9 (rfl : Ui (Int32.ofInt (1)) (1)) g26) u_i10 u_i11 u_x0_74 u_v_99 u_x1_107 u_i9)
        · refine Sg (fun g33 => ?_)
          refine SsI (ui_add (ui_add u_i8 (ui_rd (a := 28) u_I0_74 u_i11 c4.1) g33.1) (rfl : Ui (0) (0)) g33.2) (fun v_99 v_99' u_v_99 => ?_)
          refine Sc Iff.rfl (fun c34 => ?_) (fun _ => Sn)
          refine Sb3 (ks_112 n (dp - 1) e 0 _ _ _ _ _ _ u_I0_74 u_L0_74 u_x0_74) (fun x1_107 x1_107' I1_107 I1_107' L1_107 L1_107' u_x1_107 u_I1_107 u_L1_107 => ?_)
          refine SbE rfl (fun b_113 => ?_)
          refine Sc (and_congr Iff.rfl (ix_up u_x1_107)) (fun c35 => ?_) (fun _ => Sn)
          refine Sg (fun g36 => ?_)
          refine SsI (ui_sub (ui_rd (a := b_113) u_I1_107 u_x1_107 c35.2.1) (rfl : Ui (1) (1)) g36) (fun v_121 v_121' u_v_121 => ?_)
          refine Sc (le_up (rfl : Ui 0 0) u_v_121) (fun c37 => ?_) (fun c37 => ?_)
          · refine SbE rfl (fun b_195 => ?_)
            refine Sc (and_congr Iff.rfl (ix_up u_v_121)) (fun c38 => ?_) (fun _ => Sn)
            refine Sc (le_up u_v_99 (ui_rd (a := b_195) u_I1_107 u_v_121 c38.2.1)) (fun c39 => ?_) (fun c39 => ?_)
            · refine SbE rfl (fun b_246 => ?_)
              refine Sc (and_congr Iff.rfl (ix_up u_v_121)) (fun c40 => ?_) (fun _ => Sn)
              refine Sc (eq_up u_v_99 (ui_rd (a := b_246) u_I1_107 u_v_121 c40.2.1)) (fun c41 => ?_) (fun c41 => ?_)
              · refine SbE rfl (fun b_256 => ?_)
                refine SbE rfl (fun b_262 => ?_)
                refine Sc (and_congr Iff.rfl (ix_up u_v_121)) (fun c42 => ?_) (fun _ => Sn)
                refine SbE rfl (fun b_269 => ?_)
                refine Sc (and_congr Iff.rfl (ix_up u_i1)) (fun c43 => ?_) (fun _ => Sn)
                refine Sc (ix_up u_i11) (fun c44 => ?_) (fun _ => Sn)
                refine Sc Iff.rfl (fun c45 => ?_) (fun _ => Sn)
                refine Sb3 (ks_113 n (dp - 1) e 0 _ _ _ _ _ _ _ _ _ _ u_I1_107 u_L1_107 (ui_rd (a := b_262) u_I1_107 u_v_121 c42.2.1) (ui_rd (a := b_269) u_I1_107 u_i1 c43.2.1) (ui_rd (a := 29) u_I1_107 u_i11 c44.1)) (fun x2_284 x2_284' I2_284 I2_284' L2_284 L2_284' u_x2_284 u_I2_284 u_L2_284 => ?_)
                refine Sc (and_congr Iff.rfl (ix_up u_v_121)) (fun c46 => ?_) (fun _ => Sn)
                refine SsJ (ri_up u_I2_284 (kc_up u_v_121 c46.2.1) u_x2_284) (fun I_287 I_287' u_I_287 => ?_)
                exact (ih dp e 2 _ _ _ _ _ _ _ _ _ _ _ _ _ _ _ _ _ _ _ _ _ _ _ _ _ _ _ _ _ _ u_I_287 u_L2_284 u_i1 u_i2 u_i3 u_i4 u_i7 u_i8 u_i9 u_i10 u_i11 u_x0_74 u_v_99 u_x1_107 u_v_121)
              · exact (ih dp e 2 _ _ _ _ _ _ _ _ _ _ _ _ _ _ _ _ _ _ _ _ _ _ _ _ _ _ _ _ _ _ u_I1_107 u_L1_107 u_i1 u_i2 u_i3 u_i4 u_i7 u_i8 u_i9 u_i10 u_i11 u_x0_74 u_v_99 u_x1_107 u_v_121)
            · refine SbE rfl (fun b_205 => ?_)
              refine Sc (and_congr Iff.rfl (ix_up u_v_121)) (fun c47 => ?_) (fun _ => Sn)
              refine SsJ (ri_up u_I1_107 (kc_up u_v_121 c47.2.1) u_v_99) (fun I_212 I_212' u_I_212 => ?_)
              refine SbE rfl (fun b_214 => ?_)
              refine SbE rfl (fun b_221 => ?_)
              refine Sc (and_congr Iff.rfl (ix_up u_i1)) (fun c48 => ?_) (fun _ => Sn)
              refine Sc (ix_up u_i11) (fun c49 => ?_) (fun _ => Sn)
              refine Sc Iff.rfl (fun c50 => ?_) (fun _ => Sn)
              refine Sb3 (ks_113 n (dp - 1) e 0 _ _ _ _ _ _ _ _ _ _ u_I_212 u_L1_107 (rfl : Ui (0) (0)) (ui_rd (a := b_221) u_I_212 u_i1 c48.2.1) (ui_rd (a := 29) u_I_212 u_i11 c49.1)) (fun x2_236 x2_236' I2_236 I2_236' L2_236 L2_236' u_x2_236 u_I2_236 u_L2_236 => ?_)
              refine Sc (and_congr Iff.rfl (ix_up u_v_121)) (fun c51 => ?_) (fun _ => Sn)
              refine SsJ (ri_up u_I2_236 (kc_up u_v_121 c51.2.1) u_x2_236) (fun I_239 I_239' u_I_239 => ?_)
              exact (ih dp e 2 _ _ _ _ _ _ _ _ _ _ _ _ _ _ _ _ _ _ _ _ _ _ _ _ _ _ _ _ _ _ u_I_239 u_L2_236 u_i1 u_i2 u_i3 u_i4 u_i7 u_i8 u_i9 u_i10 u_i11 u_x0_74 u_v_99 u_x1_107 u_v_121)
          · refine SbE rfl (fun b_136 => ?_)
            refine Sc (and_congr Iff.rfl (ix_up u_x1_107)) (fun c52 => ?_) (fun _ => Sn)
            refine Sg (fun g53 => ?_)
            refine SsJ (ri_up u_I1_107 (kc_up u_x1_107 c52.2.1) (ui_add u_i9 (rfl : Ui (Int32.ofInt (1)) (1)) g53)) (fun I_143 I_143' u_I_143 => ?_)
            refine SbE rfl (fun b_145 => ?_)
            refine Sc (and_congr Iff.rfl (ix_up u_i9)) (fun c54 => ?_) (fun _ => Sn)
            refine SsJ (ri_up u_I_143 (kc_up u_i9 c54.2.1) u_x0_74) (fun I_152 I_152' u_I_152 => ?_)
            refine SbE rfl (fun b_154 => ?_)
            refine Sc (and_congr Iff.rfl (ix_up u_i9)) (fun c55 => ?_) (fun _ => Sn)
            refine SsJ (ri_up u_I_152 (kc_up u_i9 c55.2.1) u_v_99) (fun I_161 I_161' u_I_161 => ?_)
            refine SbE rfl (fun b_163 => ?_)
            refine SbE rfl (fun b_170 => ?_)
            refine Sc (and_congr Iff.rfl (ix_up u_i1)) (fun c56 => ?_) (fun _ => Sn)
            refine Sc (ix_up u_i11) (fun c57 => ?_) (fun _ => Sn)
            refine Sc Iff.rfl (fun c58 => ?_) (fun _ => Sn)
            refine Sb3 (ks_113 n (dp - 1) e 0 _ _ _ _ _ _ _ _ _ _ u_I_161 u_L1_107 (rfl : Ui (0) (0)) (ui_rd (a := b_170) u_I_161 u_i1 c56.2.1) (ui_rd (a := 29) u_I_161 u_i11 c57.1)) (fun x2_185 x2_185' I2_185 I2_185' L2_185 L2_185' u_x2_185 u_I2_185 u_L2_185 => ?_)
            refine Sc (and_congr Iff.rfl (ix_up u_i9)) (fun c59 => ?_) (fun _ => Sn)
            refine SsJ (ri_up u_I2_185 (kc_up u_i9 c59.2.1) u_x2_185) (fun I_188 I_188' u_I_188 => ?_)
            exact (ih dp e 2 _ _ _ _ _ _ _ _ _ _ _ _ _ _ _ _ _ _ _ _ _ _ _ _ _ _ _ _ _ _ u_I_188 u_L2_185 u_i1 u_i2 u_i3 u_i4 u_i7 u_i8 (ui_add u_i9 (rfl : Ui (Int32.ofInt (1)) (1)) g53) u_i10 u_i11 u_x0_74 u_v_99 u_x1_107 u_i9)
    refine Sc Iff.rfl (fun _ => ?_) (fun _ => ?_)
    · refine Sg (fun g1 => ?_)
      exact (ih dp e 1 _ _ _ _ _ _ _ _ _ _ _ _ _ _ _ _ _ _ _ _ _ _ _ _ _ _ _ _ _ _ u_I u_L u_i1 u_i2 u_i3 u_i4 u_i7 u_i8 u_i9 u_i10 (ui_add u_i11 (rfl : Ui (Int32.ofInt (1)) (1)) g1) (rfl : Ui 0 0) (rfl : Ui 0 0) (rfl : Ui 0 0) (rfl : Ui 0 0))
    exact Sn
set_option maxHeartbeats 4000000 in
set_option maxRecDepth 100000 in
def kf_116 : Nat → Nat → EN → Nat → JI → JI → Int → Option (Int × JI × JI)
  | 0, _, _, _, _, _, _ => none
  | n + 1, dp, e, lab, I, L, i1 =>
    if lab = 0 then (if 0 ≤ (bA i1 1023) ∧ (bA i1 1023) < 1024 then (if 0 ≤ (bA (bU i1 10) 1023) ∧ (bA (bU i1 10) 1023) < 1024 then (if 0 ≤ (bA (bU i1 20) 31) ∧ (bA (bU i1 20) 31) < 32 then (if (-2147483648 ≤ (I 41 (bA i1 1023)) + (I 42 (bA (bU i1 10) 1023)) ∧ (I 41 (bA i1 1023)) + (I 42 (bA (bU i1 10) 1023)) ≤ 2147483647) ∧ (-2147483648 ≤ ((I 41 (bA i1 1023)) + (I 42 (bA (bU i1 10) 1023))) + (I 43 (bA (bU i1 20) 31)) ∧ ((I 41 (bA i1 1023)) + (I 42 (bA (bU i1 10) 1023))) + (I 43 (bA (bU i1 20) 31)) ≤ 2147483647) then (some (((((I 41 (bA i1 1023)) + (I 42 (bA (bU i1 10) 1023))) + (I 43 (bA (bU i1 20) 31))) : Int), I, L)) else none) else none) else none) else none)
    else none
set_option maxRecDepth 100000 in
theorem ke_116_0 (n : Nat) (dp : Nat) (e : EN) (I : JI) (L : JI) (i1 : Int) : kf_116 (n + 1) dp e 0 I L i1 = (if 0 ≤ (bA i1 1023) ∧ (bA i1 1023) < 1024 then (if 0 ≤ (bA (bU i1 10) 1023) ∧ (bA (bU i1 10) 1023) < 1024 then (if 0 ≤ (bA (bU i1 20) 31) ∧ (bA (bU i1 20) 31) < 32 then (if (-2147483648 ≤ (I 41 (bA i1 1023)) + (I 42 (bA (bU i1 10) 1023)) ∧ (I 41 (bA i1 1023)) + (I 42 (bA (bU i1 10) 1023)) ≤ 2147483647) ∧ (-2147483648 ≤ ((I 41 (bA i1 1023)) + (I 42 (bA (bU i1 10) 1023))) + (I 43 (bA (bU i1 20) 31)) ∧ ((I 41 (bA i1 1023)) + (I 42 (bA (bU i1 10) 1023))) + (I 43 (bA (bU i1 20) 31)) ≤ 2147483647) then (some (((((I 41 (bA i1 1023)) + (I 42 (bA (bU i1 10) 1023))) + (I 43 (bA (bU i1 20) 31))) : Int), I, L)) else none) else none) else none) else none) := by rw [kf_116.eq_2, if_pos (show (0 : Nat) = 0 from rfl)]
set_option maxHeartbeats 8000000 in
set_option maxRecDepth 100000 in
theorem ks_116 : ∀ (n : Nat) (dp : Nat) (e : EN) (lab : Nat) (I : Nat → Nat → Int32) (I' : JI) (L : Nat → Nat → Int64) (L' : JI) (i1 : Int32) (i1' : Int), Rli I I' → Rll L L' → Ui i1 i1' → Sim R3 (g_116 n dp e lab I L i1) (kf_116 n dp e lab I' L' i1') := by
  intro n
  induction n with
  | zero => intros; rw [kf_116.eq_1]; exact Sn
  | succ n ih =>
    intro dp e lab I I' L L' i1 i1' u_I u_L u_i1
    rw [g_116.eq_2, kf_116.eq_2]
    refine Sc Iff.rfl (fun _ => ?_) (fun _ => ?_)
    · refine Sc (ix_up (ui_and u_i1 (rfl : Ui (1023) (1023)))) (fun c1 => ?_) (fun _ => Sn)
      refine Sc (ix_up (ui_and (ui_ushr u_i1 (rfl : Ui (10) (10))) (rfl : Ui (1023) (1023)))) (fun c2 => ?_) (fun _ => Sn)
      refine Sc (ix_up (ui_and (ui_ushr u_i1 (rfl : Ui (20) (20))) (rfl : Ui (31) (31)))) (fun c3 => ?_) (fun _ => Sn)
      refine Sg (fun g4 => ?_)
      exact Sr ⟨(ui_add (ui_add (ui_rd (a := 41) u_I (ui_and u_i1 (rfl : Ui (1023) (1023))) c1.1) (ui_rd (a := 42) u_I (ui_and (ui_ushr u_i1 (rfl : Ui (10) (10))) (rfl : Ui (1023) (1023))) c2.1) g4.1) (ui_rd (a := 43) u_I (ui_and (ui_ushr u_i1 (rfl : Ui (20) (20))) (rfl : Ui (31) (31))) c3.1) g4.2), u_I, u_L⟩
    exact Sn
