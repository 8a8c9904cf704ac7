/-! lifted functions 09, printed by lift.py -/
set_option maxHeartbeats 4000000 in
set_option maxRecDepth 100000 in
def kf_254 : Nat → Nat → EN → Nat → JI → JI → Int → Int → Option (JI × JI)
  | 0, _, _, _, _, _, _, _ => none
  | n + 1, dp, e, lab, I, L, i1, i2 =>
    if lab = 0 then (if 0 ≤ i1 ∧ i1 < 3 then (stI (w2 I 120 i1 0) (fun I_6 => (kf_254 n dp e 1 I_6 L i1 0))) else none)
    else if lab = 1 then (if 10 ≤ i2 then (stI (w2 I 123 0 (-2)) (fun I_45 => (kf_254 n dp e 2 I_45 L i1 0))) else (if i2 = 0 then (if 0 ≤ i2 ∧ i2 < 110 then (stI (w2 I 124 i2 1) (fun I_29 => (if -2147483648 ≤ i2 + 1 ∧ i2 + 1 ≤ 2147483647 then (kf_254 n dp e 1 I_29 L i1 (i2 + 1)) else none))) else none) else (if 0 ≤ i2 ∧ i2 < 110 then (stI (w2 I 124 i2 0) (fun I_29 => (if -2147483648 ≤ i2 + 1 ∧ i2 + 1 ≤ 2147483647 then (kf_254 n dp e 1 I_29 L i1 (i2 + 1)) else none))) else none)))
    else if lab = 2 then (if i2 < 0 then (some (I, L)) else (if 0 ≤ i1 ∧ i1 < 3 then (if 65 ≤ (I 120 i1) then (some (I, L)) else (if i2 = 10 then (if 1 ≤ dp then ((kf_255 n (dp - 1) e 0 I L i1 0 0).bind (fun ⟨I0_69, L0_69⟩ => (if -2147483648 ≤ i2 + (-1) ∧ i2 + (-1) ≤ 2147483647 then (kf_254 n dp e 2 I0_69 L0_69 i1 (i2 + (-1))) else none))) else none) else (if 1 ≤ dp then ((kf_256 n (dp - 1) e 0 I L i1 i2 0 0 0 0 0).bind (fun ⟨x0_81, I0_81, L0_81⟩ => (if x0_81 = 0 then (if -2147483648 ≤ i2 + (-1) ∧ i2 + (-1) ≤ 2147483647 then (kf_254 n dp e 2 I0_81 L0_81 i1 (i2 + (-1))) else none) else (if -2147483648 ≤ i2 + 1 ∧ i2 + 1 ≤ 2147483647 then (if 10 ≤ (i2 + 1) then (kf_254 n dp e 2 I0_81 L0_81 i1 (i2 + 1)) else (if 0 ≤ (i2 + 1) ∧ (i2 + 1) < 10 then (stI (w2 I0_81 123 (i2 + 1) (-2)) (fun I_103 => (kf_254 n dp e 2 I_103 L0_81 i1 (i2 + 1)))) else none)) else none)))) else none))) else none))
    else none
set_option maxRecDepth 100000 in
theorem ke_254_0 (n : Nat) (dp : Nat) (e : EN) (I : JI) (L : JI) (i1 : Int) (i2 : Int) : kf_254 (n + 1) dp e 0 I L i1 i2 = (if 0 ≤ i1 ∧ i1 < 3 then (stI (w2 I 120 i1 0) (fun I_6 => (kf_254 n dp e 1 I_6 L i1 0))) else none) := by rw [kf_254.eq_2, if_pos (show (0 : Nat) = 0 from rfl)]
set_option maxRecDepth 100000 in
theorem ke_254_1 (n : Nat) (dp : Nat) (e : EN) (I : JI) (L : JI) (i1 : Int) (i2 : Int) : kf_254 (n + 1) dp e 1 I L i1 i2 = (if 10 ≤ i2 then (stI (w2 I 123 0 (-2)) (fun I_45 => (kf_254 n dp e 2 I_45 L i1 0))) else (if i2 = 0 then (if 0 ≤ i2 ∧ i2 < 110 then (stI (w2 I 124 i2 1) (fun I_29 => (if -2147483648 ≤ i2 + 1 ∧ i2 + 1 ≤ 2147483647 then (kf_254 n dp e 1 I_29 L i1 (i2 + 1)) else none))) else none) else (if 0 ≤ i2 ∧ i2 < 110 then (stI (w2 I 124 i2 0) (fun I_29 => (if -2147483648 ≤ i2 + 1 ∧ i2 + 1 ≤ 2147483647 then (kf_254 n dp e 1 I_29 L i1 (i2 + 1)) else none))) else none))) := by rw [kf_254.eq_2, if_neg (show ¬ ((1 : Nat) = 0) by decide), if_pos (show (1 : Nat) = 1 from rfl)]
set_option maxRecDepth 100000 in
theorem ke_254_2 (n : Nat) (dp : Nat) (e : EN) (I : JI) (L : JI) (i1 : Int) (i2 : Int) : kf_254 (n + 1) dp e 2 I L i1 i2 = (if i2 < 0 then (some (I, L)) else (if 0 ≤ i1 ∧ i1 < 3 then (if 65 ≤ (I 120 i1) then (some (I, L)) else (if i2 = 10 then (if 1 ≤ dp then ((kf_255 n (dp - 1) e 0 I L i1 0 0).bind (fun ⟨I0_69, L0_69⟩ => (if -2147483648 ≤ i2 + (-1) ∧ i2 + (-1) ≤ 2147483647 then (kf_254 n dp e 2 I0_69 L0_69 i1 (i2 + (-1))) else none))) else none) else (if 1 ≤ dp then ((kf_256 n (dp - 1) e 0 I L i1 i2 0 0 0 0 0).bind (fun ⟨x0_81, I0_81, L0_81⟩ => (if x0_81 = 0 then (if -2147483648 ≤ i2 + (-1) ∧ i2 + (-1) ≤ 2147483647 then (kf_254 n dp e 2 I0_81 L0_81 i1 (i2 + (-1))) else none) else (if -2147483648 ≤ i2 + 1 ∧ i2 + 1 ≤ 2147483647 then (if 10 ≤ (i2 + 1) then (kf_254 n dp e 2 I0_81 L0_81 i1 (i2 + 1)) else (if 0 ≤ (i2 + 1) ∧ (i2 + 1) < 10 then (stI (w2 I0_81 123 (i2 + 1) (-2)) (fun I_103 => (kf_254 n dp e 2 I_103 L0_81 i1 (i2 + 1)))) else none)) else none)))) else none))) else none)) := by rw [kf_254.eq_2, if_neg (show ¬ ((2 : Nat) = 0) by decide), if_neg (show ¬ ((2 : Nat) = 1) by decide), if_pos (show (2 : Nat) = 2 from rfl)]
set_option maxHeartbeats 8000000 in
set_option maxRecDepth 100000 in
theorem ks_254 : ∀ (n : Nat) (dp : Nat) (e : EN) (lab : Nat) (I : Nat → Nat → Int32) (I' : JI) (L : Nat → Nat → Int64) (L' : JI) (i1 : Int32) (i1' : Int) (i2 : Int32) (i2' : Int), Rli I I' → Rll L L' → Ui i1 i1' → Ui i2 i2' → Sim R2 (g_254 n dp e lab I L i1 i2) (kf_254 n dp e lab I' L' i1' i2') := by
  intro n
  induction n with
  | zero => intros; rw [kf_254.eq_1]; exact Sn
  | succ n ih =>
    intro dp e lab I I' L L' i1 i1' i2 i2' u_I u_L u_i1 u_i2
    rw [g_254.eq_2, kf_254.eq_2]
    refine Sc Iff.rfl (fun _ => ?_) (fun _ => ?_)
    · refine Sc (ix_up u_i1) (fun c1 => ?_) (fun _ => Sn)
      refine SsJ (ri_up u_I (kc_up u_i1 c1.1) (rfl : Ui (0) (0))) (fun I_6 I_6' u_I_6 => ?_)
      exact (ih dp e 1 _ _ _ _ _ _ _ _ u_I_6 u_L u_i1 (rfl : Ui (0) (0)))
    refine Sc Iff.rfl (fun _ => ?_) (fun _ => ?_)
    · refine Sc (le_up (rfl : Ui (10) (10)) u_i2) (fun c1 => ?_) (fun c1 => ?_)
      · refine SsJ (ri_up u_I (rfl : ((0 : Nat) : Int) = 0) (rfl : Ui (-2) (-2))) (fun I_45 I_45' u_I_45 => ?_)
        exact (ih dp e 2 _ _ _ _ _ _ _ _ u_I_45 u_L u_i1 (rfl : Ui (0) (0)))
      · refine Sc (eq_up u_i2 (rfl : Ui 0 0)) (fun c2 => ?_) (fun c2 => ?_)
        · refine Sc (ix_up u_i2) (fun c3 => ?_) (fun _ => Sn)
          refine SsJ (ri_up u_I (kc_up u_i2 c3.1) (rfl : Ui (1) (1))) (fun I_29 I_29' u_I_29 => ?_)
          refine Sg (fun g4 => ?_)
          exact (ih dp e 1 _ _ _ _ _ _ _ _ u_I_29 u_L u_i1 (ui_add u_i2 (rfl : Ui (Int32.ofInt (1)) (1)) g4))
        · refine Sc (ix_up u_i2) (fun c5 => ?_) (fun _ => Sn)
          refine SsJ (ri_up u_I (kc_up u_i2 c5.1) (rfl : Ui (0) (0))) (fun I_29 I_29' u_I_29 => ?_)
          refine Sg (fun g6 => ?_)
          exact (ih dp e 1 _ _ _ _ _ _ _ _ u_I_29 u_L u_i1 (ui_add u_i2 (rfl : Ui (Int32.ofInt (1)) (1)) g6))
    refine Sc Iff.rfl (fun _ => ?_) (fun _ => ?_)
    · refine Sc (lt_up u_i2 (rfl : Ui 0 0)) (fun c1 => ?_) (fun c1 => ?_)
      · exact Sr ⟨u_I, u_L⟩
      · refine Sc (ix_up u_i1) (fun c2 => ?_) (fun _ => Sn)
        refine Sc (le_up (rfl : Ui (65) (65)) (ui_rd (a := 120) u_I u_i1 c2.1)) (fun c3 => ?_) (fun c3 => ?_)
        · exact Sr ⟨u_I, u_L⟩
        · refine Sc (eq_up u_i2 (rfl : Ui (10) (10))) (fun c4 => ?_) (fun c4 => ?_)
          · refine Sc Iff.rfl (fun c5 => ?_) (fun _ => Sn)
            refine Sb2 (ks_255 n (dp - 1) e 0 _ _ _ _ _ _ _ _ _ _ u_I u_L u_i1 (rfl : Ui 0 0) (rfl : Ui 0 0)) (fun I0_69 I0_69' L0_69 L0_69' u_I0_69 u_L0_69 => ?_)
            refine Sg (fun g6 => ?_)
            exact (ih dp e 2 _ _ _ _ _ _ _ _ u_I0_69 u_L0_69 u_i1 (ui_add u_i2 (rfl : Ui (Int32.ofInt (-1)) (-1)) g6))
          · refine Sc Iff.rfl (fun c7 => ?_) (fun _ => Sn)
            refine Sb3 (ks_256 n (dp - 1) e 0 _ _ _ _ _ _ _ _ _ _ _ _ _ _ _ _ _ _ u_I u_L u_i1 u_i2 (rfl : Ui 0 0) (rfl : Ui 0 0) (rfl : Ui 0 0) (rfl : Ui 0 0) (rfl : Ui 0 0)) (fun x0_81 x0_81' I0_81 I0_81' L0_81 L0_81' u_x0_81 u_I0_81 u_L0_81 => ?_)
            refine Sc (eq_up u_x0_81 (rfl : Ui 0 0)) (fun c8 => ?_) (fun c8 => ?_)
            · refine Sg (fun g9 => ?_)
              exact (ih dp e 2 _ _ _ _ _ _ _ _ u_I0_81 u_L0_81 u_i1 (ui_add u_i2 (rfl : Ui (Int32.ofInt (-1)) (-1)) g9))
            · refine Sg (fun g10 => ?_)
              refine Sc (le_up (rfl : Ui (10) (10)) (ui_add u_i2 (rfl : Ui (Int32.ofInt (1)) (1)) g10)) (fun c11 => ?_) (fun c11 => ?_)
              · exact (ih dp e 2 _ _ _ _ _ _ _ _ u_I0_81 u_L0_81 u_i1 (ui_add u_i2 (rfl : Ui (Int32.ofInt (1)) (1)) g10))
              · refine Sc (ix_up (ui_add u_i2 (rfl : Ui (Int32.ofInt (1)) (1)) g10)) (fun c12 => ?_) (fun _ => Sn)
                refine SsJ (ri_up u_I0_81 (kc_up (ui_add u_i2 (rfl : Ui (Int32.ofInt (1)) (1)) g10) c12.1) (rfl : Ui (-2) (-2))) (fun I_103 I_103' u_I_103 => ?_)
                exact (ih dp e 2 _ _ _ _ _ _ _ _ u_I_103 u_L0_81 u_i1 (ui_add u_i2 (rfl : Ui (Int32.ofInt (1)) (1)) g10))
    exact Sn
set_option maxHeartbeats 4000000 in
set_option maxRecDepth 100000 in
def kf_253 : Nat → Nat → EN → Nat → JI → JI → Int → Int → Option (JI × JI)
  | 0, _, _, _, _, _, _, _ => none
  | n + 1, dp, e, lab, I, L, i1, i2 =>
    if lab = 0 then (if (I 105 32) = 0 then (stI (w2 I 105 32 1) (fun I_10 => (kf_253 n dp e 1 I_10 L 0 0))) else (some (I, L)))
    else if lab = 1 then (if 3 ≤ i1 then (some (I, L)) else (kf_253 n dp e 2 I L i1 0))
    else if lab = 2 then (if (I 107 9) ≤ i2 then (if 1 ≤ dp then ((kf_254 n (dp - 1) e 0 I L i1 0).bind (fun ⟨I0_58, L0_58⟩ => (if -2147483648 ≤ i1 + 1 ∧ i1 + 1 ≤ 2147483647 then (kf_253 n dp e 1 I0_58 L0_58 (i1 + 1) 0) else none))) else none) else (if 1 ≤ dp then ((kf_245 n (dp - 1) e 0 I L i2 i1).bind (fun ⟨x0_46, I0_46, L0_46⟩ => (if (-2147483648 ≤ 16 * i1 ∧ 16 * i1 ≤ 2147483647) ∧ (-2147483648 ≤ (16 * i1) + i2 ∧ (16 * i1) + i2 ≤ 2147483647) then (if 0 ≤ ((16 * i1) + i2) ∧ ((16 * i1) + i2) < 48 then (if (x0_46 = 0) ∨ (x0_46 = 1) then (stI (w2 I0_46 125 ((16 * i1) + i2) x0_46) (fun I_49 => (if -2147483648 ≤ i2 + 1 ∧ i2 + 1 ≤ 2147483647 then (kf_253 n dp e 2 I_49 L0_46 i1 (i2 + 1)) else none))) else none) else none) else none))) else none))
    else none
set_option maxRecDepth 100000 in
theorem ke_253_0 (n : Nat) (dp : Nat) (e : EN) (I : JI) (L : JI) (i1 : Int) (i2 : Int) : kf_253 (n + 1) dp e 0 I L i1 i2 = (if (I 105 32) = 0 then (stI (w2 I 105 32 1) (fun I_10 => (kf_253 n dp e 1 I_10 L 0 0))) else (some (I, L))) := by rw [kf_253.eq_2, if_pos (show (0 : Nat) = 0 from rfl)]
set_option maxRecDepth 100000 in
theorem ke_253_1 (n : Nat) (dp : Nat) (e : EN) (I : JI) (L : JI) (i1 : Int) (i2 : Int) : kf_253 (n + 1) dp e 1 I L i1 i2 = (if 3 ≤ i1 then (some (I, L)) else (kf_253 n dp e 2 I L i1 0)) := by rw [kf_253.eq_2, if_neg (show ¬ ((1 : Nat) = 0) by decide), if_pos (show (1 : Nat) = 1 from rfl)]
set_option maxRecDepth 100000 in
theorem ke_253_2 (n : Nat) (dp : Nat) (e : EN) (I : JI) (L : JI) (i1 : Int) (i2 : Int) : kf_253 (n + 1) dp e 2 I L i1 i2 = (if (I 107 9) ≤ i2 then (if 1 ≤ dp then ((kf_254 n (dp - 1) e 0 I L i1 0).bind (fun ⟨I0_58, L0_58⟩ => (if -2147483648 ≤ i1 + 1 ∧ i1 + 1 ≤ 2147483647 then (kf_253 n dp e 1 I0_58 L0_58 (i1 + 1) 0) else none))) else none) else (if 1 ≤ dp then ((kf_245 n (dp - 1) e 0 I L i2 i1).bind (fun ⟨x0_46, I0_46, L0_46⟩ => (if (-2147483648 ≤ 16 * i1 ∧ 16 * i1 ≤ 2147483647) ∧ (-2147483648 ≤ (16 * i1) + i2 ∧ (16 * i1) + i2 ≤ 2147483647) then (if 0 ≤ ((16 * i1) + i2) ∧ ((16 * i1) + i2) < 48 then (if (x0_46 = 0) ∨ (x0_46 = 1) then (stI (w2 I0_46 125 ((16 * i1) + i2) x0_46) (fun I_49 => (if -2147483648 ≤ i2 + 1 ∧ i2 + 1 ≤ 2147483647 then (kf_253 n dp e 2 I_49 L0_46 i1 (i2 + 1)) else none))) else none) else none) else none))) else none)) := by rw [kf_253.eq_2, if_neg (show ¬ ((2 : Nat) = 0) by decide), if_neg (show ¬ ((2 : Nat) = 1) by decide), if_pos (show (2 : Nat) = 2 from rfl)]
set_option maxHeartbeats 8000000 in
set_option maxRecDepth 100000 in
theorem ks_253 : ∀ (n : Nat) (dp : Nat) (e : EN) (lab : Nat) (I : Nat → Nat → Int32) (I' : JI) (L : Nat → Nat → Int64) (L' : JI) (i1 : Int32) (i1' : Int) (i2 : Int32) (i2' : Int), Rli I I' → Rll L L' → Ui i1 i1' → Ui i2 i2' → Sim R2 (g_253 n dp e lab I L i1 i2) (kf_253 n dp e lab I' L' i1' i2') := by
  intro n
  induction n with
  | zero => intros; rw [kf_253.eq_1]; exact Sn
  | succ n ih =>
    intro dp e lab I I' L L' i1 i1' i2 i2' u_I u_L u_i1 u_i2
    rw [g_253.eq_2, kf_253.eq_2]
    refine Sc Iff.rfl (fun _ => ?_) (fun _ => ?_)
    · refine Sc (eq_up (u_I 105 32) (rfl : Ui 0 0)) (fun c1 => ?_) (fun c1 => ?_)
      · refine SsJ (ri_up u_I (rfl : ((32 : Nat) : Int) = 32) (rfl : Ui (1) (1))) (fun I_10 I_10' u_I_10 => ?_)
        exact (ih dp e 1 _ _ _ _ _ _ _ _ u_I_10 u_L (rfl : Ui (0) (0)) (rfl : Ui 0 0))
      · exact Sr ⟨u_I, u_L⟩
    refine Sc Iff.rfl (fun _ => ?_) (fun _ => ?_)
    · refine Sc (le_up (rfl : Ui (3) (3)) u_i1) (fun c1 => ?_) (fun c1 => ?_)
      · exact Sr ⟨u_I, u_L⟩
      · exact (ih dp e 2 _ _ _ _ _ _ _ _ u_I u_L u_i1 (rfl : Ui (0) (0)))
    refine Sc Iff.rfl (fun _ => ?_) (fun _ => ?_)
    · refine Sc (le_up (u_I 107 9) u_i2) (fun c1 => ?_) (fun c1 => ?_)
      · refine Sc Iff.rfl (fun c2 => ?_) (fun _ => Sn)
        refine Sb2 (ks_254 n (dp - 1) e 0 _ _ _ _ _ _ _ _ u_I u_L u_i1 (rfl : Ui 0 0)) (fun I0_58 I0_58' L0_58 L0_58' u_I0_58 u_L0_58 => ?_)
        refine Sg (fun g3 => ?_)
        exact (ih dp e 1 _ _ _ _ _ _ _ _ u_I0_58 u_L0_58 (ui_add u_i1 (rfl : Ui (Int32.ofInt (1)) (1)) g3) (rfl : Ui 0 0))
      · refine Sc Iff.rfl (fun c4 => ?_) (fun _ => Sn)
        refine Sb3 (ks_245 n (dp - 1) e 0 _ _ _ _ _ _ _ _ u_I u_L u_i2 u_i1) (fun x0_46 x0_46' I0_46 I0_46' L0_46 L0_46' u_x0_46 u_I0_46 u_L0_46 => ?_)
        refine Sg (fun g5 => ?_)
        refine Sc (ix_up (ui_add (ui_mul (rfl : Ui (16) (16)) u_i1 g5.1) u_i2 g5.2)) (fun c6 => ?_) (fun _ => Sn)
        refine Sc (or_congr (eq_up u_x0_46 (rfl : Ui 0 0)) (eq_up u_x0_46 (rfl : Ui 1 1))) (fun c7 => ?_) (fun _ => Sn)
        refine SsJ (ri_up u_I0_46 (kc_up (ui_add (ui_mul (rfl : Ui (16) (16)) u_i1 g5.1) u_i2 g5.2) c6.1) u_x0_46) (fun I_49 I_49' u_I_49 => ?_)
        refine Sg (fun g8 => ?_)
        exact (ih dp e 2 _ _ _ _ _ _ _ _ u_I_49 u_L0_46 u_i1 (ui_add u_i2 (rfl : Ui (Int32.ofInt (1)) (1)) g8))
    exact Sn
set_option maxHeartbeats 4000000 in
set_option maxRecDepth 100000 in
def kf_252 : Nat → Nat → EN → Nat → JI → JI → Int → Option (Int × JI × JI)
  | 0, _, _, _, _, _, _ => none
  | n + 1, dp, e, lab, I, L, i1 =>
    if lab = 0 then (stI (w2 I 105 0 0) (fun I_2 => (if 1 ≤ dp then ((kf_197 n (dp - 1) e 0 I_2 L i1).bind (fun ⟨x0_6, I0_6, L0_6⟩ => (if x0_6 = 0 then (some (((-1) : Int), I0_6, L0_6)) else (if 1 ≤ dp then ((kf_253 n (dp - 1) e 0 I0_6 L0_6 0 0).bind (fun ⟨I1_15, L1_15⟩ => (if 0 ≤ i1 ∧ i1 < 3 then (some (((I1_15 120 i1) : Int), I1_15, L1_15)) else none))) else none)))) else none)))
    else none
set_option maxRecDepth 100000 in
theorem ke_252_0 (n : Nat) (dp : Nat) (e : EN) (I : JI) (L : JI) (i1 : Int) : kf_252 (n + 1) dp e 0 I L i1 = (stI (w2 I 105 0 0) (fun I_2 => (if 1 ≤ dp then ((kf_197 n (dp - 1) e 0 I_2 L i1).bind (fun ⟨x0_6, I0_6, L0_6⟩ => (if x0_6 = 0 then (some (((-1) : Int), I0_6, L0_6)) else (if 1 ≤ dp then ((kf_253 n (dp - 1) e 0 I0_6 L0_6 0 0).bind (fun ⟨I1_15, L1_15⟩ => (if 0 ≤ i1 ∧ i1 < 3 then (some (((I1_15 120 i1) : Int), I1_15, L1_15)) else none))) else none)))) else none))) := by rw [kf_252.eq_2, if_pos (show (0 : Nat) = 0 from rfl)]
set_option maxHeartbeats 8000000 in
set_option maxRecDepth 100000 in
theorem ks_252 : ∀ (n : Nat) (dp : Nat) (e : EN) (lab : Nat) (I : Nat → Nat → Int32) (I' : JI) (L : Nat → Nat → Int64) (L' : JI) (i1 : Int32) (i1' : Int), Rli I I' → Rll L L' → Ui i1 i1' → Sim R3 (g_252 n dp e lab I L i1) (kf_252 n dp e lab I' L' i1') := by
  intro n
  induction n with
  | zero => intros; rw [kf_252.eq_1]; exact Sn
  | succ n ih =>
    intro dp e lab I I' L L' i1 i1' u_I u_L u_i1
    rw [g_252.eq_2, kf_252.eq_2]
    refine Sc Iff.rfl (fun _ => ?_) (fun _ => ?_)
    · refine SsJ (ri_up u_I (rfl : ((0 : Nat) : Int) = 0) (rfl : Ui (0) (0))) (fun I_2 I_2' u_I_2 => ?_)
      refine Sc Iff.rfl (fun c1 => ?_) (fun _ => Sn)
      refine Sb3 (ks_197 n (dp - 1) e 0 _ _ _ _ _ _ u_I_2 u_L u_i1) (fun x0_6 x0_6' I0_6 I0_6' L0_6 L0_6' u_x0_6 u_I0_6 u_L0_6 => ?_)
      refine Sc (eq_up u_x0_6 (rfl : Ui 0 0)) (fun c2 => ?_) (fun c2 => ?_)
      · exact Sr ⟨(rfl : Ui (-1) (-1)), u_I0_6, u_L0_6⟩
      · refine Sc Iff.rfl (fun c3 => ?_) (fun _ => Sn)
        refine Sb2 (ks_253 n (dp - 1) e 0 _ _ _ _ _ _ _ _ u_I0_6 u_L0_6 (rfl : Ui 0 0) (rfl : Ui 0 0)) (fun I1_15 I1_15' L1_15 L1_15' u_I1_15 u_L1_15 => ?_)
        refine Sc (ix_up u_i1) (fun c4 => ?_) (fun _ => Sn)
        exact Sr ⟨(ui_rd (a := 120) u_I1_15 u_i1 c4.1), u_I1_15, u_L1_15⟩
    exact Sn
set_option maxHeartbeats 4000000 in
set_option maxRecDepth 100000 in
def kf_258 : Nat → Nat → EN → Nat → JI → JI → Int → Int → Option (Int × JI × JI)
  | 0, _, _, _, _, _, _, _ => none
  | n + 1, dp, e, lab, I, L, i1, i2 =>
    if lab = 0 then (if 1 ≤ dp then ((kf_197 n (dp - 1) e 0 I L i1).bind (fun ⟨x0_1, I0_1, L0_1⟩ => (if x0_1 = 0 then (some ((0 : Int), I0_1, L0_1)) else (if 1 ≤ dp then ((kf_197 n (dp - 1) e 0 I0_1 L0_1 i1).bind (fun ⟨x1_12, I1_12, L1_12⟩ => (if x1_12 = 0 then (if 65 ≤ (I1_12 120 0) then (some ((0 : Int), I1_12, L1_12)) else (if 1 ≤ dp then ((kf_197 n (dp - 1) e 0 I1_12 L1_12 i1).bind (fun ⟨x2_37, I2_37, L2_37⟩ => (if x2_37 = 0 then (if 1 ≤ dp then (if -9223372036854775808 ≤ (I2_37 120 0) - 1 ∧ (I2_37 120 0) - 1 ≤ 9223372036854775807 then ((kf_193 n (dp - 1) e 0 I2_37 L2_37 i2 0 ((I2_37 120 0) - 1)).bind (fun ⟨x3_52, I3_52, L3_52⟩ => (if x3_52 = 0 then (some ((0 : Int), I3_52, L3_52)) else (some ((1 : Int), I3_52, L3_52))))) else none) else none) else (if 0 ≤ i1 ∧ i1 < 3 then (if 1 ≤ dp then (if -9223372036854775808 ≤ (I2_37 120 i1) - 1 ∧ (I2_37 120 i1) - 1 ≤ 9223372036854775807 then ((kf_193 n (dp - 1) e 0 I2_37 L2_37 i2 0 ((I2_37 120 i1) - 1)).bind (fun ⟨x3_52, I3_52, L3_52⟩ => (if x3_52 = 0 then (some ((0 : Int), I3_52, L3_52)) else (some ((1 : Int), I3_52, L3_52))))) else none) else none) else none)))) else none)) else (if 0 ≤ i1 ∧ i1 < 3 then (if 65 ≤ (I1_12 120 i1) then (some ((0 : Int), I1_12, L1_12)) else (if 1 ≤ dp then ((kf_197 n (dp - 1) e 0 I1_12 L1_12 i1).bind (fun ⟨x2_37, I2_37, L2_37⟩ => (if x2_37 = 0 then (if 1 ≤ dp then (if -9223372036854775808 ≤ (I2_37 120 0) - 1 ∧ (I2_37 120 0) - 1 ≤ 9223372036854775807 then ((kf_193 n (dp - 1) e 0 I2_37 L2_37 i2 0 ((I2_37 120 0) - 1)).bind (fun ⟨x3_52, I3_52, L3_52⟩ => (if x3_52 = 0 then (some ((0 : Int), I3_52, L3_52)) else (some ((1 : Int), I3_52, L3_52))))) else none) else none) else (if 0 ≤ i1 ∧ i1 < 3 then (if 1 ≤ dp then (if -9223372036854775808 ≤ (I2_37 120 i1) - 1 ∧ (I2_37 120 i1) - 1 ≤ 9223372036854775807 then ((kf_193 n (dp - 1) e 0 I2_37 L2_37 i2 0 ((I2_37 120 i1) - 1)).bind (fun ⟨x3_52, I3_52, L3_52⟩ => (if x3_52 = 0 then (some ((0 : Int), I3_52, L3_52)) else (some ((1 : Int), I3_52, L3_52))))) else none) else none) else none)))) else none)) else none)))) else none)))) else none)
    else none
set_option maxRecDepth 100000 in
theorem ke_258_0 (n : Nat) (dp : Nat) (e : EN) (I : JI) (L : JI) (i1 : Int) (i2 : Int) : kf_258 (n + 1) dp e 0 I L i1 i2 = (if 1 ≤ dp then ((kf_197 n (dp - 1) e 0 I L i1).bind (fun ⟨x0_1, I0_1, L0_1⟩ => (if x0_1 = 0 then (some ((0 : Int), I0_1, L0_1)) else (if 1 ≤ dp then ((kf_197 n (dp - 1) e 0 I0_1 L0_1 i1).bind (fun ⟨x1_12, I1_12, L1_12⟩ => (if x1_12 = 0 then (if 65 ≤ (I1_12 120 0) then (some ((0 : Int), I1_12, L1_12)) else (if 1 ≤ dp then ((kf_197 n (dp - 1) e 0 I1_12 L1_12 i1).bind (fun ⟨x2_37, I2_37, L2_37⟩ => (if x2_37 = 0 then (if 1 ≤ dp then (if -9223372036854775808 ≤ (I2_37 120 0) - 1 ∧ (I2_37 120 0) - 1 ≤ 9223372036854775807 then ((kf_193 n (dp - 1) e 0 I2_37 L2_37 i2 0 ((I2_37 120 0) - 1)).bind (fun ⟨x3_52, I3_52, L3_52⟩ => (if x3_52 = 0 then (some ((0 : Int), I3_52, L3_52)) else (some ((1 : Int), I3_52, L3_52))))) else none) else none) else (if 0 ≤ i1 ∧ i1 < 3 then (if 1 ≤ dp then (if -9223372036854775808 ≤ (I2_37 120 i1) - 1 ∧ (I2_37 120 i1) - 1 ≤ 9223372036854775807 then ((kf_193 n (dp - 1) e 0 I2_37 L2_37 i2 0 ((I2_37 120 i1) - 1)).bind (fun ⟨x3_52, I3_52, L3_52⟩ => (if x3_52 = 0 then (some ((0 : Int), I3_52, L3_52)) else (some ((1 : Int), I3_52, L3_52))))) else none) else none) else none)))) else none)) else (if 0 ≤ i1 ∧ i1 < 3 then (if 65 ≤ (I1_12 120 i1) then (some ((0 : Int), I1_12, L1_12)) else (if 1 ≤ dp then ((kf_197 n (dp - 1) e 0 I1_12 L1_12 i1).bind (fun ⟨x2_37, I2_37, L2_37⟩ => (if x2_37 = 0 then (if 1 ≤ dp then (if -9223372036854775808 ≤ (I2_37 120 0) - 1 ∧ (I2_37 120 0) - 1 ≤ 9223372036854775807 then ((kf_193 n (dp - 1) e 0 I2_37 L2_37 i2 0 ((I2_37 120 0) - 1)).bind (fun ⟨x3_52, I3_52, L3_52⟩ => (if x3_52 = 0 then (some ((0 : Int), I3_52, L3_52)) else (some ((1 : Int), I3_52, L3_52))))) else none) else none) else (if 0 ≤ i1 ∧ i1 < 3 then (if 1 ≤ dp then (if -9223372036854775808 ≤ (I2_37 120 i1) - 1 ∧ (I2_37 120 i1) - 1 ≤ 9223372036854775807 then ((kf_193 n (dp - 1) e 0 I2_37 L2_37 i2 0 ((I2_37 120 i1) - 1)).bind (fun ⟨x3_52, I3_52, L3_52⟩ => (if x3_52 = 0 then (some ((0 : Int), I3_52, L3_52)) else (some ((1 : Int), I3_52, L3_52))))) else none) else none) else none)))) else none)) else none)))) else none)))) else none) := by rw [kf_258.eq_2, if_pos (show (0 : Nat) = 0 from rfl)]
set_option maxHeartbeats 8000000 in
set_option maxRecDepth 100000 in
theorem ks_258 : ∀ (n : Nat) (dp : Nat) (e : EN) (lab : Nat) (I : Nat → Nat → Int32) (I' : JI) (L : Nat → Nat → Int64) (L' : JI) (i1 : Int32) (i1' : Int) (i2 : Int32) (i2' : Int), Rli I I' → Rll L L' → Ui i1 i1' → Ui i2 i2' → Sim R3 (g_258 n dp e lab I L i1 i2) (kf_258 n dp e lab I' L' i1' i2') := by
  intro n
  induction n with
  | zero => intros; rw [kf_258.eq_1]; exact Sn
  | succ n ih =>
    intro dp e lab I I' L L' i1 i1' i2 i2' u_I u_L u_i1 u_i2
    rw [g_258.eq_2, kf_258.eq_2]
    refine Sc Iff.rfl (fun _ => ?_) (fun _ => ?_)
    · refine Sc Iff.rfl (fun c1 => ?_) (fun _ => Sn)
      refine Sb3 (ks_197 n (dp - 1) e 0 _ _ _ _ _ _ u_I u_L u_i1) (fun x0_1 x0_1' I0_1 I0_1' L0_1 L0_1' u_x0_1 u_I0_1 u_L0_1 => ?_)
      refine Sc (eq_up u_x0_1 (rfl : Ui 0 0)) (fun c2 => ?_) (fun c2 => ?_)
      · exact Sr ⟨(rfl : Ui (0) (0)), u_I0_1, u_L0_1⟩
      · refine Sc Iff.rfl (fun c3 => ?_) (fun _ => Sn)
        refine Sb3 (ks_197 n (dp - 1) e 0 _ _ _ _ _ _ u_I0_1 u_L0_1 u_i1) (fun x1_12 x1_12' I1_12 I1_12' L1_12 L1_12' u_x1_12 u_I1_12 u_L1_12 => ?_)
        refine Sc (eq_up u_x1_12 (rfl : Ui 0 0)) (fun c4 => ?_) (fun c4 => ?_)
        · refine Sc (le_up (rfl : Ui (65) (65)) (u_I1_12 120 0)) (fun c5 => ?_) (fun c5 => ?_)
          · exact Sr ⟨(rfl : Ui (0) (0)), u_I1_12, u_L1_12⟩
          · refine Sc Iff.rfl (fun c6 => ?_) (fun _ => Sn)
            refine Sb3 (ks_197 n (dp - 1) e 0 _ _ _ _ _ _ u_I1_12 u_L1_12 u_i1) (fun x2_37 x2_37' I2_37 I2_37' L2_37 L2_37' u_x2_37 u_I2_37 u_L2_37 => ?_)
            refine Sc (eq_up u_x2_37 (rfl : Ui 0 0)) (fun c7 => ?_) (fun c7 => ?_)
            · refine Sc Iff.rfl (fun c8 => ?_) (fun _ => Sn)
              refine Sg (fun g9 => ?_)
              refine Sb3 (ks_193 n (dp - 1) e 0 _ _ _ _ _ _ _ _ _ _ u_I2_37 u_L2_37 (ul_i2l u_i2) (rfl : Ul (0) (0)) (ul_sub (ul_i2l (u_I2_37 120 0)) (rfl : Ul (1) (1)) g9)) (fun x3_52 x3_52' I3_52 I3_52' L3_52 L3_52' u_x3_52 u_I3_52 u_L3_52 => ?_)
              refine Sc (eq_up u_x3_52 (rfl : Ui 0 0)) (fun c10 => ?_) (fun c10 => ?_)
              · exact Sr ⟨(rfl : Ui (0) (0)), u_I3_52, u_L3_52⟩
              · exact Sr ⟨(rfl : Ui (1) (1)), u_I3_52, u_L3_52⟩
            · refine Sc (ix_up u_i1) (fun c11 => ?_) (fun _ => Sn)
              refine Sc Iff.rfl (fun c12 => ?_) (fun _ => Sn)
              refine Sg (fun g13 => ?_)
              refine Sb3 (ks_193 n (dp - 1) e 0 _ _ _ _ _ _ _ _ _ _ u_I2_37 u_L2_37 (ul_i2l u_i2) (rfl : Ul (0) (0)) (ul_sub (ul_i2l (ui_rd (a := 120) u_I2_37 u_i1 c11.1)) (rfl : Ul (1) (1)) g13)) (fun x3_52 x3_52' I3_52 I3_52' L3_52 L3_52' u_x3_52 u_I3_52 u_L3_52 => ?_)
              refine Sc (eq_up u_x3_52 (rfl : Ui 0 0)) (fun c14 => ?_) (fun c14 => ?_)
              · exact Sr ⟨(rfl : Ui (0) (0)), u_I3_52, u_L3_52⟩
              · exact Sr ⟨(rfl : Ui (1) (1)), u_I3_52, u_L3_52⟩
        · refine Sc (ix_up u_i1) (fun c15 => ?_) (fun _ => Sn)
          refine Sc (le_up (rfl : Ui (65) (65)) (ui_rd (a := 120) u_I1_12 u_i1 c15.1)) (fun c16 => ?_) (fun c16 => ?_)
          · exact Sr ⟨(rfl : Ui (0) (0)), u_I1_12, u_L1_12⟩
          · refine Sc Iff.rfl (fun c17 => ?_) (fun _ => Sn)
            refine Sb3 (ks_197 n (dp - 1) e 0 _ _ _ _ _ _ u_I1_12 u_L1_12 u_i1) (fun x2_37 x2_37' I2_37 I2_37' L2_37 L2_37' u_x2_37 u_I2_37 u_L2_37 => ?_)
            refine Sc (eq_up u_x2_37 (rfl : Ui 0 0)) (fun c18 => ?_) (fun c18 => ?_)
            · refine Sc Iff.rfl (fun c19 => ?_) (fun _ => Sn)
              refine Sg (fun g20 => ?_)
              refine Sb3 (ks_193 n (dp - 1) e 0 _ _ _ _ _ _ _ _ _ _ u_I2_37 u_L2_37 (ul_i2l u_i2) (rfl : Ul (0) (0)) (ul_sub (ul_i2l (u_I2_37 120 0)) (rfl : Ul (1) (1)) g20)) (fun x3_52 x3_52' I3_52 I3_52' L3_52 L3_52' u_x3_52 u_I3_52 u_L3_52 => ?_)
              refine Sc (eq_up u_x3_52 (rfl : Ui 0 0)) (fun c21 => ?_) (fun c21 => ?_)
              · exact Sr ⟨(rfl : Ui (0) (0)), u_I3_52, u_L3_52⟩
              · exact Sr ⟨(rfl : Ui (1) (1)), u_I3_52, u_L3_52⟩
            · refine Sc (ix_up u_i1) (fun c22 => ?_) (fun _ => Sn)
              refine Sc Iff.rfl (fun c23 => ?_) (fun _ => Sn)
              refine Sg (fun g24 => ?_)
              refine Sb3 (ks_193 n (dp - 1) e 0 _ _ _ _ _ _ _ _ _ _ u_I2_37 u_L2_37 (ul_i2l u_i2) (rfl : Ul (0) (0)) (ul_sub (ul_i2l (ui_rd (a := 120) u_I2_37 u_i1 c22.1)) (rfl : Ul (1) (1)) g24)) (fun x3_52 x3_52' I3_52 I3_52' L3_52 L3_52' u_x3_52 u_I3_52 u_L3_52 => ?_)
              refine Sc (eq_up u_x3_52 (rfl : Ui 0 0)) (fun c25 => ?_) (fun c25 => ?_)
              · exact Sr ⟨(rfl : Ui (0) (0)), u_I3_52, u_L3_52⟩
              · exact Sr ⟨(rfl : Ui (1) (1)), u_I3_52, u_L3_52⟩
    exact Sn
set_option maxHeartbeats 4000000 in
set_option maxRecDepth 100000 in
def kf_257 : Nat → Nat → EN → Nat → JI → JI → Int → Int → Int → Option (Int × JI × JI)
  | 0, _, _, _, _, _, _, _, _ => none
  | n + 1, dp, e, lab, I, L, i1, i2, i3 =>
    if lab = 0 then (stI (w2 I 105 0 0) (fun I_2 => (if 1 ≤ dp then ((kf_253 n (dp - 1) e 0 I_2 L 0 0).bind (fun ⟨I0_6, L0_6⟩ => (if 1 ≤ dp then ((kf_258 n (dp - 1) e 0 I0_6 L0_6 i1 i2).bind (fun ⟨x1_12, I1_12, L1_12⟩ => (if x1_12 = 0 then (some (((-100000) : Int), I1_12, L1_12)) else (if 1 ≤ dp then ((kf_202 n (dp - 1) e 0 I1_12 L1_12 i3).bind (fun ⟨x2_19, I2_19, L2_19⟩ => (if x2_19 = 0 then (some (((-100000) : Int), I2_19, L2_19)) else (if (-2147483648 ≤ 640 * i1 ∧ 640 * i1 ≤ 2147483647) ∧ (-2147483648 ≤ 10 * i2 ∧ 10 * i2 ≤ 2147483647) ∧ (-2147483648 ≤ (640 * i1) + (10 * i2) ∧ (640 * i1) + (10 * i2) ≤ 2147483647) ∧ (-2147483648 ≤ ((640 * i1) + (10 * i2)) + i3 ∧ ((640 * i1) + (10 * i2)) + i3 ≤ 2147483647) then (if 0 ≤ (((640 * i1) + (10 * i2)) + i3) ∧ (((640 * i1) + (10 * i2)) + i3) < 1920 then (some (((I2_19 121 (((640 * i1) + (10 * i2)) + i3)) : Int), I2_19, L2_19)) else none) else none)))) else none)))) else none))) else none)))
    else none
set_option maxRecDepth 100000 in
theorem ke_257_0 (n : Nat) (dp : Nat) (e : EN) (I : JI) (L : JI) (i1 : Int) (i2 : Int) (i3 : Int) : kf_257 (n + 1) dp e 0 I L i1 i2 i3 = (stI (w2 I 105 0 0) (fun I_2 => (if 1 ≤ dp then ((kf_253 n (dp - 1) e 0 I_2 L 0 0).bind (fun ⟨I0_6, L0_6⟩ => (if 1 ≤ dp then ((kf_258 n (dp - 1) e 0 I0_6 L0_6 i1 i2).bind (fun ⟨x1_12, I1_12, L1_12⟩ => (if x1_12 = 0 then (some (((-100000) : Int), I1_12, L1_12)) else (if 1 ≤ dp then ((kf_202 n (dp - 1) e 0 I1_12 L1_12 i3).bind (fun ⟨x2_19, I2_19, L2_19⟩ => (if x2_19 = 0 then (some (((-100000) : Int), I2_19, L2_19)) else (if (-2147483648 ≤ 640 * i1 ∧ 640 * i1 ≤ 2147483647) ∧ (-2147483648 ≤ 10 * i2 ∧ 10 * i2 ≤ 2147483647) ∧ (-2147483648 ≤ (640 * i1) + (10 * i2) ∧ (640 * i1) + (10 * i2) ≤ 2147483647) ∧ (-2147483648 ≤ ((640 * i1) + (10 * i2)) + i3 ∧ ((640 * i1) + (10 * i2)) + i3 ≤ 2147483647) then (if 0 ≤ (((640 * i1) + (10 * i2)) + i3) ∧ (((640 * i1) + (10 * i2)) + i3) < 1920 then (some (((I2_19 121 (((640 * i1) + (10 * i2)) + i3)) : Int), I2_19, L2_19)) else none) else none)))) else none)))) else none))) else none))) := by rw [kf_257.eq_2, if_pos (show (0 : Nat) = 0 from rfl)]
set_option maxHeartbeats 8000000 in
set_option maxRecDepth 100000 in
theorem ks_257 : ∀ (n : Nat) (dp : Nat) (e : EN) (lab : Nat) (I : Nat → Nat → Int32) (I' : JI) (L : Nat → Nat → Int64) (L' : JI) (i1 : Int32) (i1' : Int) (i2 : Int32) (i2' : Int) (i3 : Int32) (i3' : Int), Rli I I' → Rll L L' → Ui i1 i1' → Ui i2 i2' → Ui i3 i3' → Sim R3 (g_257 n dp e lab I L i1 i2 i3) (kf_257 n dp e lab I' L' i1' i2' i3') := by
  intro n
  induction n with
  | zero => intros; rw [kf_257.eq_1]; exact Sn
  | succ n ih =>
    intro dp e lab I I' L L' i1 i1' i2 i2' i3 i3' u_I u_L u_i1 u_i2 u_i3
    rw [g_257.eq_2, kf_257.eq_2]
    refine Sc Iff.rfl (fun _ => ?_) (fun _ => ?_)
    · refine SsJ (ri_up u_I (rfl : ((0 : Nat) : Int) = 0) (rfl : Ui (0) (0))) (fun I_2 I_2' u_I_2 => ?_)
      refine Sc Iff.rfl (fun c1 => ?_) (fun _ => Sn)
      refine Sb2 (ks_253 n (dp - 1) e 0 _ _ _ _ _ _ _ _ u_I_2 u_L (rfl : Ui 0 0) (rfl : Ui 0 0)) (fun I0_6 I0_6' L0_6 L0_6' u_I0_6 u_L0_6 => ?_)
      refine Sc Iff.rfl (fun c2 => ?_) (fun _ => Sn)
      refine Sb3 (ks_258 n (dp - 1) e 0 _ _ _ _ _ _ _ _ u_I0_6 u_L0_6 u_i1 u_i2) (fun x1_12 x1_12' I1_12 I1_12' L1_12 L1_12' u_x1_12 u_I1_12 u_L1_12 => ?_)
      refine Sc (eq_up u_x1_12 (rfl : Ui 0 0)) (fun c3 => ?_) (fun c3 => ?_)
      · exact Sr ⟨(rfl : Ui (-100000) (-100000)), u_I1_12, u_L1_12⟩
      · refine Sc Iff.rfl (fun c4 => ?_) (fun _ => Sn)
        refine Sb3 (ks_202 n (dp - 1) e 0 _ _ _ _ _ _ u_I1_12 u_L1_12 u_i3) (fun x2_19 x2_19' I2_19 I2_19' L2_19 L2_19' u_x2_19 u_I2_19 u_L2_19 => ?_)
        refine Sc (eq_up u_x2_19 (rfl : Ui 0 0)) (fun c5 => ?_) (fun c5 => ?_)
        · exact Sr ⟨(rfl : Ui (-100000) (-100000)), u_I2_19, u_L2_19⟩
        · refine Sg (fun g6 => ?_)
          refine Sc (ix_up (ui_add (ui_add (ui_mul (rfl : Ui (640) (640)) u_i1 g6.1) (ui_mul (rfl : Ui (10) (10)) u_i2 g6.2.1) g6.2.2.1) u_i3 g6.2.2.2)) (fun c7 => ?_) (fun _ => Sn)
          exact Sr ⟨(ui_rd (a := 121) u_I2_19 (ui_add (ui_add (ui_mul (rfl : Ui (640) (640)) u_i1 g6.1) (ui_mul (rfl : Ui (10) (10)) u_i2 g6.2.1) g6.2.2.1) u_i3 g6.2.2.2) c7.1), u_I2_19, u_L2_19⟩
    exact Sn
set_option maxHeartbeats 4000000 in
set_option maxRecDepth 100000 in
def kf_259 : Nat → Nat → EN → Nat → JI → JI → Int → Int → Int → Option (Int × JI × JI)
  | 0, _, _, _, _, _, _, _, _ => none
  | n + 1, dp, e, lab, I, L, i1, i2, i3 =>
    if lab = 0 then (stI (w2 I 105 0 0) (fun I_2 => (if 1 ≤ dp then ((kf_253 n (dp - 1) e 0 I_2 L 0 0).bind (fun ⟨I0_6, L0_6⟩ => (if 1 ≤ dp then ((kf_258 n (dp - 1) e 0 I0_6 L0_6 i1 i2).bind (fun ⟨x1_12, I1_12, L1_12⟩ => (if x1_12 = 0 then (some (((-1) : Int), I1_12, L1_12)) else (if 1 ≤ dp then ((kf_202 n (dp - 1) e 0 I1_12 L1_12 i3).bind (fun ⟨x2_19, I2_19, L2_19⟩ => (if x2_19 = 0 then (some (((-1) : Int), I2_19, L2_19)) else (if (-2147483648 ≤ 640 * i1 ∧ 640 * i1 ≤ 2147483647) ∧ (-2147483648 ≤ 10 * i2 ∧ 10 * i2 ≤ 2147483647) ∧ (-2147483648 ≤ (640 * i1) + (10 * i2) ∧ (640 * i1) + (10 * i2) ≤ 2147483647) ∧ (-2147483648 ≤ ((640 * i1) + (10 * i2)) + i3 ∧ ((640 * i1) + (10 * i2)) + i3 ≤ 2147483647) then (if 0 ≤ (((640 * i1) + (10 * i2)) + i3) ∧ (((640 * i1) + (10 * i2)) + i3) < 1920 then (some (((I2_19 122 (((640 * i1) + (10 * i2)) + i3)) : Int), I2_19, L2_19)) else none) else none)))) else none)))) else none))) else none)))
    else none
set_option maxRecDepth 100000 in
theorem ke_259_0 (n : Nat) (dp : Nat) (e : EN) (I : JI) (L : JI) (i1 : Int) (i2 : Int) (i3 : Int) : kf_259 (n + 1) dp e 0 I L i1 i2 i3 = (stI (w2 I 105 0 0) (fun I_2 => (if 1 ≤ dp then ((kf_253 n (dp - 1) e 0 I_2 L 0 0).bind (fun ⟨I0_6, L0_6⟩ => (if 1 ≤ dp then ((kf_258 n (dp - 1) e 0 I0_6 L0_6 i1 i2).bind (fun ⟨x1_12, I1_12, L1_12⟩ => (if x1_12 = 0 then (some (((-1) : Int), I1_12, L1_12)) else (if 1 ≤ dp then ((kf_202 n (dp - 1) e 0 I1_12 L1_12 i3).bind (fun ⟨x2_19, I2_19, L2_19⟩ => (if x2_19 = 0 then (some (((-1) : Int), I2_19, L2_19)) else (if (-2147483648 ≤ 640 * i1 ∧ 640 * i1 ≤ 2147483647) ∧ (-2147483648 ≤ 10 * i2 ∧ 10 * i2 ≤ 2147483647) ∧ (-2147483648 ≤ (640 * i1) + (10 * i2) ∧ (640 * i1) + (10 * i2) ≤ 2147483647) ∧ (-2147483648 ≤ ((640 * i1) + (10 * i2)) + i3 ∧ ((640 * i1) + (10 * i2)) + i3 ≤ 2147483647) then (if 0 ≤ (((640 * i1) + (10 * i2)) + i3) ∧ (((640 * i1) + (10 * i2)) + i3) < 1920 then (some (((I2_19 122 (((640 * i1) + (10 * i2)) + i3)) : Int), I2_19, L2_19)) else none) else none)))) else none)))) else none))) else none))) := by rw [kf_259.eq_2, if_pos (show (0 : Nat) = 0 from rfl)]
set_option maxHeartbeats 8000000 in
set_option maxRecDepth 100000 in
theorem ks_259 : ∀ (n : Nat) (dp : Nat) (e : EN) (lab : Nat) (I : Nat → Nat → Int32) (I' : JI) (L : Nat → Nat → Int64) (L' : JI) (i1 : Int32) (i1' : Int) (i2 : Int32) (i2' : Int) (i3 : Int32) (i3' : Int), Rli I I' → Rll L L' → Ui i1 i1' → Ui i2 i2' → Ui i3 i3' → Sim R3 (g_259 n dp e lab I L i1 i2 i3) (kf_259 n dp e lab I' L' i1' i2' i3') := by
  intro n
  induction n with
  | zero => intros; rw [kf_259.eq_1]; exact Sn
  | succ n ih =>
    intro dp e lab I I' L L' i1 i1' i2 i2' i3 i3' u_I u_L u_i1 u_i2 u_i3
    rw [g_259.eq_2, kf_259.eq_2]
    refine Sc Iff.rfl (fun _ => ?_) (fun _ => ?_)
    · refine SsJ (ri_up u_I (rfl : ((0 : Nat) : Int) = 0) (rfl : Ui (0) (0))) (fun I_2 I_2' u_I_2 => ?_)
      refine Sc Iff.rfl (fun c1 => ?_) (fun _ => Sn)
      refine Sb2 (ks_253 n (dp - 1) e 0 _ _ _ _ _ _ _ _ u_I_2 u_L (rfl : Ui 0 0) (rfl : Ui 0 0)) (fun I0_6 I0_6' L0_6 L0_6' u_I0_6 u_L0_6 => ?_)
      refine Sc Iff.rfl (fun c2 => ?_) (fun _ => Sn)
      refine Sb3 (ks_258 n (dp - 1) e 0 _ _ _ _ _ _ _ _ u_I0_6 u_L0_6 u_i1 u_i2) (fun x1_12 x1_12' I1_12 I1_12' L1_12 L1_12' u_x1_12 u_I1_12 u_L1_12 => ?_)
      refine Sc (eq_up u_x1_12 (rfl : Ui 0 0)) (fun c3 => ?_) (fun c3 => ?_)
      · exact Sr ⟨(rfl : Ui (-1) (-1)), u_I1_12, u_L1_12⟩
      · refine Sc Iff.rfl (fun c4 => ?_) (fun _ => Sn)
        refine Sb3 (ks_202 n (dp - 1) e 0 _ _ _ _ _ _ u_I1_12 u_L1_12 u_i3) (fun x2_19 x2_19' I2_19 I2_19' L2_19 L2_19' u_x2_19 u_I2_19 u_L2_19 => ?_)
        refine Sc (eq_up u_x2_19 (rfl : Ui 0 0)) (fun c5 => ?_) (fun c5 => ?_)
        · exact Sr ⟨(rfl : Ui (-1) (-1)), u_I2_19, u_L2_19⟩
        · refine Sg (fun g6 => ?_)
          refine Sc (ix_up (ui_add (ui_add (ui_mul (rfl : Ui (640) (640)) u_i1 g6.1) (ui_mul (rfl : Ui (10) (10)) u_i2 g6.2.1) g6.2.2.1) u_i3 g6.2.2.2)) (fun c7 => ?_) (fun _ => Sn)
          exact Sr ⟨(ui_rd (a := 122) u_I2_19 (ui_add (ui_add (ui_mul (rfl : Ui (640) (640)) u_i1 g6.1) (ui_mul (rfl : Ui (10) (10)) u_i2 g6.2.1) g6.2.2.1) u_i3 g6.2.2.2) c7.1), u_I2_19, u_L2_19⟩
    exact Sn
set_option maxHeartbeats 4000000 in
set_option maxRecDepth 100000 in
def kf_262 : Nat → Nat → EN → Nat → JI → JI → Int → Int → Int → Int → Int → Int → Option (Int × JI × JI)
  | 0, _, _, _, _, _, _, _, _, _, _, _ => none
  | n + 1, dp, e, lab, I, L, i1, i2, i3, i4, i5, i6 =>
    if lab = 0 then (if 1 ≤ dp then ((kf_253 n (dp - 1) e 0 I L 0 0).bind (fun ⟨I0_1, L0_1⟩ => (stI (w2 I0_1 105 40 0) (fun I_6 => (kf_262 n dp e 1 I_6 L0_1 i1 i2 i3 0 0 0))))) else none)
    else if lab = 1 then (if 3 ≤ i4 then (stI (w2 I 105 48 1) (fun I_104 => (kf_262 n dp e 4 I_104 L i1 i2 i3 0 0 0))) else (if i4 = 0 then (kf_262 n dp e 2 I L i1 i2 i3 i4 i1 0) else (if i4 = 1 then (kf_262 n dp e 2 I L i1 i2 i3 i4 i2 0) else (kf_262 n dp e 2 I L i1 i2 i3 i4 i3 0))))
    else if lab = 2 then (if i5 ≤ i6 then (if i5 ≤ 0 then (kf_262 n dp e 3 I L i1 i2 i3 i4 i5 i6) else (if 0 ≤ i4 ∧ i4 < 3 then (if (I 120 i4) ≤ 64 then (kf_262 n dp e 3 I L i1 i2 i3 i4 i5 i6) else (some ((0 : Int), I, L))) else none)) else (if 0 ≤ (I 105 40) ∧ (I 105 40) < 8 then (stI (w2 I 126 (I 105 40) i4) (fun I_60 => (if -2147483648 ≤ (I_60 105 40) + 1 ∧ (I_60 105 40) + 1 ≤ 2147483647 then (stI (w2 I_60 105 40 ((I_60 105 40) + 1)) (fun I_68 => (if -2147483648 ≤ i6 + 1 ∧ i6 + 1 ≤ 2147483647 then (kf_262 n dp e 2 I_68 L i1 i2 i3 i4 i5 (i6 + 1)) else none))) else none))) else none))
    else if lab = 3 then (if -2147483648 ≤ i4 + 1 ∧ i4 + 1 ≤ 2147483647 then (kf_262 n dp e 1 I L i1 i2 i3 (i4 + 1) 0 0) else none)
    else if lab = 4 then (if 10 ≤ i4 then (some ((1 : Int), I, L)) else (if -2147483648 ≤ 60 + i4 ∧ 60 + i4 ≤ 2147483647 then (if 0 ≤ (60 + i4) ∧ (60 + i4) < 1570 then (if 0 ≤ i4 ∧ i4 < 10 then (stI (w2 I 127 i4 (I 107 (60 + i4))) (fun I_133 => (if -2147483648 ≤ i4 + 1 ∧ i4 + 1 ≤ 2147483647 then (kf_262 n dp e 4 I_133 L i1 i2 i3 (i4 + 1) 0 0) else none))) else none) else none) else none))
    else none
set_option maxRecDepth 100000 in
theorem ke_262_0 (n : Nat) (dp : Nat) (e : EN) (I : JI) (L : JI) (i1 : Int) (i2 : Int) (i3 : Int) (i4 : Int) (i5 : Int) (i6 : Int) : kf_262 (n + 1) dp e 0 I L i1 i2 i3 i4 i5 i6 = (if 1 ≤ dp then ((kf_253 n (dp - 1) e 0 I L 0 0).bind (fun ⟨I0_1, L0_1⟩ => (stI (w2 I0_1 105 40 0) (fun I_6 => (kf_262 n dp e 1 I_6 L0_1 i1 i2 i3 0 0 0))))) else none) := by rw [kf_262.eq_2, if_pos (show (0 : Nat) = 0 from rfl)]
set_option maxRecDepth 100000 in
theorem ke_262_1 (n : Nat) (dp : Nat) (e : EN) (I : JI) (L : JI) (i1 : Int) (i2 : Int) (i3 : Int) (i4 : Int) (i5 : Int) (i6 : Int) : kf_262 (n + 1) dp e 1 I L i1 i2 i3 i4 i5 i6 = (if 3 ≤ i4 then (stI (w2 I 105 48 1) (fun I_104 => (kf_262 n dp e 4 I_104 L i1 i2 i3 0 0 0))) else (if i4 = 0 then (kf_262 n dp e 2 I L i1 i2 i3 i4 i1 0) else (if i4 = 1 then (kf_262 n dp e 2 I L i1 i2 i3 i4 i2 0) else (kf_262 n dp e 2 I L i1 i2 i3 i4 i3 0)))) := by rw [kf_262.eq_2, if_neg (show ¬ ((1 : Nat) = 0) by decide), if_pos (show (1 : Nat) = 1 from rfl)]
set_option maxRecDepth 100000 in
theorem ke_262_2 (n : Nat) (dp : Nat) (e : EN) (I : JI) (L : JI) (i1 : Int) (i2 : Int) (i3 : Int) (i4 : Int) (i5 : Int) (i6 : Int) : kf_262 (n + 1) dp e 2 I L i1 i2 i3 i4 i5 i6 = (if i5 ≤ i6 then (if i5 ≤ 0 then (kf_262 n dp e 3 I L i1 i2 i3 i4 i5 i6) else (if 0 ≤ i4 ∧ i4 < 3 then (if (I 120 i4) ≤ 64 then (kf_262 n dp e 3 I L i1 i2 i3 i4 i5 i6) else (some ((0 : Int), I, L))) else none)) else (if 0 ≤ (I 105 40) ∧ (I 105 40) < 8 then (stI (w2 I 126 (I 105 40) i4) (fun I_60 => (if -2147483648 ≤ (I_60 105 40) + 1 ∧ (I_60 105 40) + 1 ≤ 2147483647 then (stI (w2 I_60 105 40 ((I_60 105 40) + 1)) (fun I_68 => (if -2147483648 ≤ i6 + 1 ∧ i6 + 1 ≤ 2147483647 then (kf_262 n dp e 2 I_68 L i1 i2 i3 i4 i5 (i6 + 1)) else none))) else none))) else none)) := by rw [kf_262.eq_2, if_neg (show ¬ ((2 : Nat) = 0) by decide), if_neg (show ¬ ((2 : Nat) = 1) by decide), if_pos (show (2 : Nat) = 2 from rfl)]
set_option maxRecDepth 100000 in
theorem ke_262_3 (n : Nat) (dp : Nat) (e : EN) (I : JI) (L : JI) (i1 : Int) (i2 : Int) (i3 : Int) (i4 : Int) (i5 : Int) (i6 : Int) : kf_262 (n + 1) dp e 3 I L i1 i2 i3 i4 i5 i6 = (if -2147483648 ≤ i4 + 1 ∧ i4 + 1 ≤ 2147483647 then (kf_262 n dp e 1 I L i1 i2 i3 (i4 + 1) 0 0) else none) := by rw [kf_262.eq_2, if_neg (show ¬ ((3 : Nat) = 0) by decide), if_neg (show ¬ ((3 : Nat) = 1) by decide), if_neg (show ¬ ((3 : Nat) = 2) by decide), if_pos (show (3 : Nat) = 3 from rfl)]
set_option maxRecDepth 100000 in
theorem ke_262_4 (n : Nat) (dp : Nat) (e : EN) (I : JI) (L : JI) (i1 : Int) (i2 : Int) (i3 : Int) (i4 : Int) (i5 : Int) (i6 : Int) : kf_262 (n + 1) dp e 4 I L i1 i2 i3 i4 i5 i6 = (if 10 ≤ i4 then (some ((1 : Int), I, L)) else (if -2147483648 ≤ 60 + i4 ∧ 60 + i4 ≤ 2147483647 then (if 0 ≤ (60 + i4) ∧ (60 + i4) < 1570 then (if 0 ≤ i4 ∧ i4 < 10 then (stI (w2 I 127 i4 (I 107 (60 + i4))) (fun I_133 => (if -2147483648 ≤ i4 + 1 ∧ i4 + 1 ≤ 2147483647 then (kf_262 n dp e 4 I_133 L i1 i2 i3 (i4 + 1) 0 0) else none))) else none) else none) else none)) := by rw [kf_262.eq_2, if_neg (show ¬ ((4 : Nat) = 0) by decide), if_neg (show ¬ ((4 : Nat) = 1) by decide), if_neg (show ¬ ((4 : Nat) = 2) by decide), if_neg (show ¬ ((4 : Nat) = 3) by decide), if_pos (show (4 : Nat) = 4 from rfl)]
set_option maxHeartbeats 8000000 in
set_option maxRecDepth 100000 in
theorem ks_262 : ∀ (n : Nat) (dp : Nat) (e : EN) (lab : Nat) (I : Nat → Nat → Int32) (I' : JI) (L : Nat → Nat → Int64) (L' : JI) (i1 : Int32) (i1' : Int) (i2 : Int32) (i2' : Int) (i3 : Int32) (i3' : Int) (i4 : Int32) (i4' : Int) (i5 : Int32) (i5' : Int) (i6 : Int32) (i6' : Int), Rli I I' → Rll L L' → Ui i1 i1' → Ui i2 i2' → Ui i3 i3' → Ui i4 i4' → Ui i5 i5' → Ui i6 i6' → Sim R3 (g_262 n dp e lab I L i1 i2 i3 i4 i5 i6) (kf_262 n dp e lab I' L' i1' i2' i3' i4' i5' i6') := by
  intro n
  induction n with
  | zero => intros; rw [kf_262.eq_1]; exact Sn
  | succ n ih =>
    intro dp e lab I I' L L' i1 i1' i2 i2' i3 i3' i4 i4' i5 i5' i6 i6' u_I u_L u_i1 u_i2 u_i3 u_i4 u_i5 u_i6
    rw [g_262.eq_2, kf_262.eq_2]
    refine Sc Iff.rfl (fun _ => ?_) (fun _ => ?_)
    · refine Sc Iff.rfl (fun c1 => ?_) (fun _ => Sn)
      refine Sb2 (ks_253 n (dp - 1) e 0 _ _ _ _ _ _ _ _ u_I u_L (rfl : Ui 0 0) (rfl : Ui 0 0)) (fun I0_1 I0_1' L0_1 L0_1' u_I0_1 u_L0_1 => ?_)
      refine SsJ (ri_up u_I0_1 (rfl : ((40 : Nat) : Int) = 40) (rfl : Ui (0) (0))) (fun I_6 I_6' u_I_6 => ?_)
      exact (ih dp e 1 _ _ _ _ _ _ _ _ _ _ _ _ _ _ _ _ u_I_6 u_L0_1 u_i1 u_i2 u_i3 (rfl : Ui (0) (0)) (rfl : Ui 0 0) (rfl : Ui 0 0))
    refine Sc Iff.rfl (fun _ => ?_) (fun _ => ?_)
    · refine Sc (le_up (rfl : Ui (3) (3)) u_i4) (fun c1 => ?_) (fun c1 => ?_)
      · refine SsJ (ri_up u_I (rfl : ((48 : Nat) : Int) = 48) (rfl : Ui (1) (1))) (fun I_104 I_104' u_I_104 => ?_)
        exact (ih dp e 4 _ _ _ _ _ _ _ _ _ _ _ _ _ _ _ _ u_I_104 u_L u_i1 u_i2 u_i3 (rfl : Ui (0) (0)) (rfl : Ui 0 0) (rfl : Ui 0 0))
      · refine Sc (eq_up u_i4 (rfl : Ui 0 0)) (fun c2 => ?_) (fun c2 => ?_)
        · exact (ih dp e 2 _ _ _ _ _ _ _ _ _ _ _ _ _ _ _ _ u_I u_L u_i1 u_i2 u_i3 u_i4 u_i1 (rfl : Ui (0) (0)))
        · refine Sc (eq_up u_i4 (rfl : Ui (1) (1))) (fun c3 => ?_) (fun c3 => ?_)
          · exact (ih dp e 2 _ _ _ _ _ _ _ _ _ _ _ _ _ _ _ _ u_I u_L u_i1 u_i2 u_i3 u_i4 u_i2 (rfl : Ui (0) (0)))
          · exact (ih dp e 2 _ _ _ _ _ _ _ _ _ _ _ _ _ _ _ _ u_I u_L u_i1 u_i2 u_i3 u_i4 u_i3 (rfl : Ui (0) (0)))
    refine Sc Iff.rfl (fun _ => ?_) (fun _ => ?_)
    · refine Sc (le_up u_i5 u_i6) (fun c1 => ?_) (fun c1 => ?_)
      · refine Sc (le_up u_i5 (rfl : Ui 0 0)) (fun c2 => ?_) (fun c2 => ?_)
        · exact (ih dp e 3 _ _ _ _ _ _ _ _ _ _ _ _ _ _ _ _ u_I u_L u_i1 u_i2 u_i3 u_i4 u_i5 u_i6)
        · refine Sc (ix_up u_i4) (fun c3 => ?_) (fun _ => Sn)
          refine Sc (le_up (ui_rd (a := 120) u_I u_i4 c3.1) (rfl : Ui (64) (64))) (fun c4 => ?_) (fun c4 => ?_)
          · exact (ih dp e 3 _ _ _ _ _ _ _ _ _ _ _ _ _ _ _ _ u_I u_L u_i1 u_i2 u_i3 u_i4 u_i5 u_i6)
          · exact Sr ⟨(rfl : Ui (0) (0)), u_I, u_L⟩
      · refine Sc (ix_up (u_I 105 40)) (fun c5 => ?_) (fun _ => Sn)
        refine SsJ (ri_up u_I (kc_up (u_I 105 40) c5.1) u_i4) (fun I_60 I_60' u_I_60 => ?_)
        refine Sg (fun g6 => ?_)
        refine SsJ (ri_up u_I_60 (rfl : ((40 : Nat) : Int) = 40) (ui_add (u_I_60 105 40) (rfl : Ui (1) (1)) g6)) (fun I_68 I_68' u_I_68 => ?_)
        refine Sg (fun g7 => ?_)
        exact (ih dp e 2 _ _ _ _ _ _ _ _ _ _ _ _ _ _ _ _ u_I_68 u_L u_i1 u_i2 u_i3 u_i4 u_i5 (ui_add u_i6 (rfl : Ui (Int32.ofInt (1)) (1)) g7))
    refine Sc Iff.rfl (fun _ => ?_) (fun _ => ?_)
    · refine Sg (fun g1 => ?_)
      exact (ih dp e 1 _ _ _ _ _ _ _ _ _ _ _ _ _ _ _ _ u_I u_L u_i1 u_i2 u_i3 (ui_add u_i4 (rfl : Ui (Int32.ofInt (1)) (1)) g1) (rfl : Ui 0 0) (rfl : Ui 0 0))
    refine Sc Iff.rfl (fun _ => ?_) (fun _ => ?_)
    · refine Sc (le_up (rfl : Ui (10) (10)) u_i4) (fun c1 => ?_) (fun c1 => ?_)
      · exact Sr ⟨(rfl : Ui (1) (1)), u_I, u_L⟩
      · refine Sg (fun g2 => ?_)
        refine Sc (ix_up (ui_add (rfl : Ui (60) (60)) u_i4 g2)) (fun c3 => ?_) (fun _ => Sn)
        refine Sc (ix_up u_i4) (fun c4 => ?_) (fun _ => Sn)
        refine SsJ (ri_up u_I (kc_up u_i4 c4.1) (ui_rd (a := 107) u_I (ui_add (rfl : Ui (60) (60)) u_i4 g2) c3.1)) (fun I_133 I_133' u_I_133 => ?_)
        refine Sg (fun g5 => ?_)
        exact (ih dp e 4 _ _ _ _ _ _ _ _ _ _ _ _ _ _ _ _ u_I_133 u_L u_i1 u_i2 u_i3 (ui_add u_i4 (rfl : Ui (Int32.ofInt (1)) (1)) g5) (rfl : Ui 0 0) (rfl : Ui 0 0))
    exact Sn
set_option maxHeartbeats 4000000 in
set_option maxRecDepth 100000 in
def kf_264 : Nat → Nat → EN → Nat → JI → JI → Int → Option (JI × JI)
  | 0, _, _, _, _, _, _ => none
  | n + 1, dp, e, lab, I, L, i1 =>
    if lab = 0 then (stI (w2 I 105 43 0) (fun I_2 => (stI (w2 I_2 105 44 1) (fun I_7 => (kf_264 n dp e 1 I_7 L 0)))))
    else if lab = 1 then (if 10 ≤ i1 then (some (I, L)) else (if 0 ≤ i1 ∧ i1 < 10 then (if (I 127 i1) ≤ 0 then (kf_264 n dp e 2 I L i1) else (if 0 ≤ (I 105 43) ∧ (I 105 43) < 5 then (stI (w2 I 128 (I 105 43) i1) (fun I_36 => (if -2147483648 ≤ (I_36 105 43) + 1 ∧ (I_36 105 43) + 1 ≤ 2147483647 then (stI (w2 I_36 105 43 ((I_36 105 43) + 1)) (fun I_44 => (if 0 ≤ i1 ∧ i1 < 10 then (if (-2147483648 ≤ (I_44 127 i1) + 1 ∧ (I_44 127 i1) + 1 ≤ 2147483647) ∧ (-2147483648 ≤ (I_44 105 44) * ((I_44 127 i1) + 1) ∧ (I_44 105 44) * ((I_44 127 i1) + 1) ≤ 2147483647) then (stI (w2 I_44 105 44 ((I_44 105 44) * ((I_44 127 i1) + 1))) (fun I_61 => (kf_264 n dp e 2 I_61 L i1))) else none) else none))) else none))) else none)) else none))
    else if lab = 2 then (if -2147483648 ≤ i1 + 1 ∧ i1 + 1 ≤ 2147483647 then (kf_264 n dp e 1 I L (i1 + 1)) else none)
    else none
set_option maxRecDepth 100000 in
theorem ke_264_0 (n : Nat) (dp : Nat) (e : EN) (I : JI) (L : JI) (i1 : Int) : kf_264 (n + 1) dp e 0 I L i1 = (stI (w2 I 105 43 0) (fun I_2 => (stI (w2 I_2 105 44 1) (fun I_7 => (kf_264 n dp e 1 I_7 L 0))))) := by rw [kf_264.eq_2, if_pos (show (0 : Nat) = 0 from rfl)]
set_option maxRecDepth 100000 in
theorem ke_264_1 (n : Nat) (dp : Nat) (e : EN) (I : JI) (L : JI) (i1 : Int) : kf_264 (n + 1) dp e 1 I L i1 = (if 10 ≤ i1 then (some (I, L)) else (if 0 ≤ i1 ∧ i1 < 10 then (if (I 127 i1) ≤ 0 then (kf_264 n dp e 2 I L i1) else (if 0 ≤ (I 105 43) ∧ (I 105 43) < 5 then (stI (w2 I 128 (I 105 43) i1) (fun I_36 => (if -2147483648 ≤ (I_36 105 43) + 1 ∧ (I_36 105 43) + 1 ≤ 2147483647 then (stI (w2 I_36 105 43 ((I_36 105 43) + 1)) (fun I_44 => (if 0 ≤ i1 ∧ i1 < 10 then (if (-2147483648 ≤ (I_44 127 i1) + 1 ∧ (I_44 127 i1) + 1 ≤ 2147483647) ∧ (-2147483648 ≤ (I_44 105 44) * ((I_44 127 i1) + 1) ∧ (I_44 105 44) * ((I_44 127 i1) + 1) ≤ 2147483647) then (stI (w2 I_44 105 44 ((I_44 105 44) * ((I_44 127 i1) + 1))) (fun I_61 => (kf_264 n dp e 2 I_61 L i1))) else none) else none))) else none))) else none)) else none)) := by rw [kf_264.eq_2, if_neg (show ¬ ((1 : Nat) = 0) by decide), if_pos (show (1 : Nat) = 1 from rfl)]
set_option maxRecDepth 100000 in
theorem ke_264_2 (n : Nat) (dp : Nat) (e : EN) (I : JI) (L : JI) (i1 : Int) : kf_264 (n + 1) dp e 2 I L i1 = (if -2147483648 ≤ i1 + 1 ∧ i1 + 1 ≤ 2147483647 then (kf_264 n dp e 1 I L (i1 + 1)) else none) := by rw [kf_264.eq_2, if_neg (show ¬ ((2 : Nat) = 0) by decide), if_neg (show ¬ ((2 : Nat) = 1) by decide), if_pos (show (2 : Nat) = 2 from rfl)]
set_option maxHeartbeats 8000000 in
set_option maxRecDepth 100000 in
theorem ks_264 : ∀ (n : Nat) (dp : Nat) (e : EN) (lab : Nat) (I : Nat → Nat → Int32) (I' : JI) (L : Nat → Nat → Int64) (L' : JI) (i1 : Int32) (i1' : Int), Rli I I' → Rll L L' → Ui i1 i1' → Sim R2 (g_264 n dp e lab I L i1) (kf_264 n dp e lab I' L' i1') := by
  intro n
  induction n with
  | zero => intros; rw [kf_264.eq_1]; exact Sn
  | succ n ih =>
    intro dp e lab I I' L L' i1 i1' u_I u_L u_i1
    rw [g_264.eq_2, kf_264.eq_2]
    refine Sc Iff.rfl (fun _ => ?_) (fun _ => ?_)
    · refine SsJ (ri_up u_I (rfl : ((43 : Nat) : Int) = 43) (rfl : Ui (0) (0))) (fun I_2 I_2' u_I_2 => ?_)
      refine SsJ (ri_up u_I_2 (rfl : ((44 : Nat) : Int) = 44) (rfl : Ui (1) (1))) (fun I_7 I_7' u_I_7 => ?_)
      exact (ih dp e 1 _ _ _ _ _ _ u_I_7 u_L (rfl : Ui (0) (0)))
    refine Sc Iff.rfl (fun _ => ?_) (fun _ => ?_)
    · refine Sc (le_up (rfl : Ui (10) (10)) u_i1) (fun c1 => ?_) (fun c1 => ?_)
      · exact Sr ⟨u_I, u_L⟩
      · refine Sc (ix_up u_i1) (fun c2 => ?_) (fun _ => Sn)
        refine Sc (le_up (ui_rd (a := 127) u_I u_i1 c2.1) (rfl : Ui 0 0)) (fun c3 => ?_) (fun c3 => ?_)
        · exact (ih dp e 2 _ _ _ _ _ _ u_I u_L u_i1)
        · refine Sc (ix_up (u_I 105 43)) (fun c4 => ?_) (fun _ => Sn)
          refine SsJ (ri_up u_I (kc_up (u_I 105 43) c4.1) u_i1) (fun I_36 I_36' u_I_36 => ?_)
          refine Sg (fun g5 => ?_)
          refine SsJ (ri_up u_I_36 (rfl : ((43 : Nat) : Int) = 43) (ui_add (u_I_36 105 43) (rfl : Ui (1) (1)) g5)) (fun I_44 I_44' u_I_44 => ?_)
          refine Sc (ix_up u_i1) (fun c6 => ?_) (fun _ => Sn)
          refine Sg (fun g7 => ?_)
          refine SsJ (ri_up u_I_44 (rfl : ((44 : Nat) : Int) = 44) (ui_mul (u_I_44 105 44) (ui_add (ui_rd (a := 127) u_I_44 u_i1 c6.1) (rfl : Ui (1) (1)) g7.1) g7.2)) (fun I_61 I_61' u_I_61 => ?_)
          exact (ih dp e 2 _ _ _ _ _ _ u_I_61 u_L u_i1)
    refine Sc Iff.rfl (fun _ => ?_) (fun _ => ?_)
    · refine Sg (fun g1 => ?_)
      exact (ih dp e 1 _ _ _ _ _ _ u_I u_L (ui_add u_i1 (rfl : Ui (Int32.ofInt (1)) (1)) g1))
    exact Sn
set_option maxHeartbeats 4000000 in
set_option maxRecDepth 100000 in
def kf_265 : Nat → Nat → EN → Nat → JI → JI → Int → Int → Int → Option (JI × JI)
  | 0, _, _, _, _, _, _, _, _ => none
  | n + 1, dp, e, lab, I, L, i1, i2, i3 =>
    if lab = 0 then (kf_265 n dp e 1 I L i1 i1 0)
    else if lab = 1 then (if (I 105 43) ≤ i3 then (some (I, L)) else (if 0 ≤ i3 ∧ i3 < 5 then (if 0 ≤ (I 128 i3) ∧ (I 128 i3) < 10 then (if -2147483648 ≤ (I 127 (I 128 i3)) + 1 ∧ (I 127 (I 128 i3)) + 1 ≤ 2147483647 then (stI ((I 127 (I 128 i3)) + 1) (fun v_25 => (if ¬ (v_25 = 0) then (if 0 ≤ i3 ∧ i3 < 5 then (if -2147483647 ≤ i2 then (stI (w2 I 133 i3 (Int.tmod i2 v_25)) (fun I_36 => (if ¬ (v_25 = 0) then (if -2147483648 ≤ i3 + 1 ∧ i3 + 1 ≤ 2147483647 then (kf_265 n dp e 1 I_36 L i1 (Int.tdiv i2 v_25) (i3 + 1)) else none) else none))) else none) else none) else none))) else none) else none) else none))
    else none
set_option maxRecDepth 100000 in
theorem ke_265_0 (n : Nat) (dp : Nat) (e : EN) (I : JI) (L : JI) (i1 : Int) (i2 : Int) (i3 : Int) : kf_265 (n + 1) dp e 0 I L i1 i2 i3 = (kf_265 n dp e 1 I L i1 i1 0) := by rw [kf_265.eq_2, if_pos (show (0 : Nat) = 0 from rfl)]
set_option maxRecDepth 100000 in
theorem ke_265_1 (n : Nat) (dp : Nat) (e : EN) (I : JI) (L : JI) (i1 : Int) (i2 : Int) (i3 : Int) : kf_265 (n + 1) dp e 1 I L i1 i2 i3 = (if (I 105 43) ≤ i3 then (some (I, L)) else (if 0 ≤ i3 ∧ i3 < 5 then (if 0 ≤ (I 128 i3) ∧ (I 128 i3) < 10 then (if -2147483648 ≤ (I 127 (I 128 i3)) + 1 ∧ (I 127 (I 128 i3)) + 1 ≤ 2147483647 then (stI ((I 127 (I 128 i3)) + 1) (fun v_25 => (if ¬ (v_25 = 0) then (if 0 ≤ i3 ∧ i3 < 5 then (if -2147483647 ≤ i2 then (stI (w2 I 133 i3 (Int.tmod i2 v_25)) (fun I_36 => (if ¬ (v_25 = 0) then (if -2147483648 ≤ i3 + 1 ∧ i3 + 1 ≤ 2147483647 then (kf_265 n dp e 1 I_36 L i1 (Int.tdiv i2 v_25) (i3 + 1)) else none) else none))) else none) else none) else none))) else none) else none) else none)) := by rw [kf_265.eq_2, if_neg (show ¬ ((1 : Nat) = 0) by decide), if_pos (show (1 : Nat) = 1 from rfl)]
set_option maxHeartbeats 8000000 in
set_option maxRecDepth 100000 in
theorem ks_265 : ∀ (n : Nat) (dp : Nat) (e : EN) (lab : Nat) (I : Nat → Nat → Int32) (I' : JI) (L : Nat → Nat → Int64) (L' : JI) (i1 : Int32) (i1' : Int) (i2 : Int32) (i2' : Int) (i3 : Int32) (i3' : Int), Rli I I' → Rll L L' → Ui i1 i1' → Ui i2 i2' → Ui i3 i3' → Sim R2 (g_265 n dp e lab I L i1 i2 i3) (kf_265 n dp e lab I' L' i1' i2' i3') := by
  intro n
  induction n with
  | zero => intros; rw [kf_265.eq_1]; exact Sn
  | succ n ih =>
    intro dp e lab I I' L L' i1 i1' i2 i2' i3 i3' u_I u_L u_i1 u_i2 u_i3
    rw [g_265.eq_2, kf_265.eq_2]
    refine Sc Iff.rfl (fun _ => ?_) (fun _ => ?_)
    · exact (ih dp e 1 _ _ _ _ _ _ _ _ _ _ u_I u_L u_i1 u_i1 (rfl : Ui (0) (0)))
    refine Sc Iff.rfl (fun _ => ?_) (fun _ => ?_)
    · refine Sc (le_up (u_I 105 43) u_i3) (fun c1 => ?_) (fun c1 => ?_)
      · exact Sr ⟨u_I, u_L⟩
      · refine Sc (ix_up u_i3) (fun c2 => ?_) (fun _ => Sn)
        refine Sc (ix_up (ui_rd (a := 128) u_I u_i3 c2.1)) (fun c3 => ?_) (fun _ => Sn)
        refine Sg (fun g4 => ?_)
        refine SsI (ui_add (ui_rd (a := 127) u_I (ui_rd (a := 128) u_I u_i3 c2.1) c3.1) (rfl : Ui (1) (1)) g4) (fun v_25 v_25' u_v_25 => ?_)
        refine Sc (not_congr (eq_up u_v_25 (rfl : Ui 0 0))) (fun c5 => ?_) (fun _ => Sn)
        refine Sc (ix_up u_i3) (fun c6 => ?_) (fun _ => Sn)
        refine Sg (fun g7 => ?_)
        refine SsJ (ri_up u_I (kc_up u_i3 c6.1) (ui_rem u_i2 u_v_25 g7)) (fun I_36 I_36' u_I_36 => ?_)
        refine Sc (not_congr (eq_up u_v_25 (rfl : Ui 0 0))) (fun c8 => ?_) (fun _ => Sn)
        refine Sg (fun g9 => ?_)
        exact (ih dp e 1 _ _ _ _ _ _ _ _ _ _ u_I_36 u_L u_i1 (ui_div u_i2 u_v_25 g7) (ui_add u_i3 (rfl : Ui (Int32.ofInt (1)) (1)) g9))
    exact Sn
set_option maxHeartbeats 4000000 in
set_option maxRecDepth 100000 in
def kf_266 : Nat → Nat → EN → Nat → JI → JI → Int → Int → Int → Int → Int → Option (Int × JI × JI)
  | 0, _, _, _, _, _, _, _, _, _, _ => none
  | n + 1, dp, e, lab, I, L, i1, i2, i3, i4, i5 =>
    if lab = 0 then (if (-2147483648 ≤ 640 * i1 ∧ 640 * i1 ≤ 2147483647) ∧ (-2147483648 ≤ 10 * i2 ∧ 10 * i2 ≤ 2147483647) ∧ (-2147483648 ≤ (640 * i1) + (10 * i2) ∧ (640 * i1) + (10 * i2) ≤ 2147483647) then (stI ((640 * i1) + (10 * i2)) (fun v_10 => (if -2147483648 ≤ (I 105 43) - 1 ∧ (I 105 43) - 1 ≤ 2147483647 then (stI ((I 105 43) - 1) (fun v_20 => (kf_266 n dp e 1 I L i1 i2 v_10 0 v_20))) else none))) else none)
    else if lab = 1 then (if i5 < 0 then (some ((i4 : Int), I, L)) else (if 0 ≤ i5 ∧ i5 < 5 then (if 0 ≤ (I 128 i5) ∧ (I 128 i5) < 10 then (stI (I 127 (I 128 i5)) (fun v_39 => (if 0 ≤ i5 ∧ i5 < 5 then (if 0 ≤ i5 ∧ i5 < 5 then (if -2147483648 ≤ i3 + (I 128 i5) ∧ i3 + (I 128 i5) ≤ 2147483647 then (if 0 ≤ (i3 + (I 128 i5)) ∧ (i3 + (I 128 i5)) < 1920 then (if -2147483648 ≤ (I 133 i5) + (I 122 (i3 + (I 128 i5))) ∧ (I 133 i5) + (I 122 (i3 + (I 128 i5))) ≤ 2147483647 then (stI ((I 133 i5) + (I 122 (i3 + (I 128 i5)))) (fun v_63 => (if v_63 ≤ v_39 then (if (-2147483648 ≤ v_39 + 1 ∧ v_39 + 1 ≤ 2147483647) ∧ (-2147483648 ≤ i4 * (v_39 + 1) ∧ i4 * (v_39 + 1) ≤ 2147483647) ∧ (-2147483648 ≤ (i4 * (v_39 + 1)) + v_63 ∧ (i4 * (v_39 + 1)) + v_63 ≤ 2147483647) then (stI ((i4 * (v_39 + 1)) + v_63) (fun v_87 => (if -2147483648 ≤ i5 + (-1) ∧ i5 + (-1) ≤ 2147483647 then (kf_266 n dp e 1 I L i1 i2 i3 v_87 (i5 + (-1))) else none))) else none) else (if (-2147483648 ≤ v_39 + 1 ∧ v_39 + 1 ≤ 2147483647) ∧ (-2147483648 ≤ i4 * (v_39 + 1) ∧ i4 * (v_39 + 1) ≤ 2147483647) ∧ (-2147483648 ≤ (i4 * (v_39 + 1)) + v_39 ∧ (i4 * (v_39 + 1)) + v_39 ≤ 2147483647) then (stI ((i4 * (v_39 + 1)) + v_39) (fun v_87 => (if -2147483648 ≤ i5 + (-1) ∧ i5 + (-1) ≤ 2147483647 then (kf_266 n dp e 1 I L i1 i2 i3 v_87 (i5 + (-1))) else none))) else none)))) else none) else none) else none) else none) else none))) else none) else none))
    else none
set_option maxRecDepth 100000 in
theorem ke_266_0 (n : Nat) (dp : Nat) (e : EN) (I : JI) (L : JI) (i1 : Int) (i2 : Int) (i3 : Int) (i4 : Int) (i5 : Int) : kf_266 (n + 1) dp e 0 I L i1 i2 i3 i4 i5 = (if (-2147483648 ≤ 640 * i1 ∧ 640 * i1 ≤ 2147483647) ∧ (-2147483648 ≤ 10 * i2 ∧ 10 * i2 ≤ 2147483647) ∧ (-2147483648 ≤ (640 * i1) + (10 * i2) ∧ (640 * i1) + (10 * i2) ≤ 2147483647) then (stI ((640 * i1) + (10 * i2)) (fun v_10 => (if -2147483648 ≤ (I 105 43) - 1 ∧ (I 105 43) - 1 ≤ 2147483647 then (stI ((I 105 43) - 1) (fun v_20 => (kf_266 n dp e 1 I L i1 i2 v_10 0 v_20))) else none))) else none) := by rw [kf_266.eq_2, if_pos (show (0 : Nat) = 0 from rfl)]
set_option maxRecDepth 100000 in
theorem ke_266_1 (n : Nat) (dp : Nat) (e : EN) (I : JI) (L : JI) (i1 : Int) (i2 : Int) (i3 : Int) (i4 : Int) (i5 : Int) : kf_266 (n + 1) dp e 1 I L i1 i2 i3 i4 i5 = (if i5 < 0 then (some ((i4 : Int), I, L)) else (if 0 ≤ i5 ∧ i5 < 5 then (if 0 ≤ (I 128 i5) ∧ (I 128 i5) < 10 then (stI (I 127 (I 128 i5)) (fun v_39 => (if 0 ≤ i5 ∧ i5 < 5 then (if 0 ≤ i5 ∧ i5 < 5 then (if -2147483648 ≤ i3 + (I 128 i5) ∧ i3 + (I 128 i5) ≤ 2147483647 then (if 0 ≤ (i3 + (I 128 i5)) ∧ (i3 + (I 128 i5)) < 1920 then (if -2147483648 ≤ (I 133 i5) + (I 122 (i3 + (I 128 i5))) ∧ (I 133 i5) + (I 122 (i3 + (I 128 i5))) ≤ 2147483647 then (stI ((I 133 i5) + (I 122 (i3 + (I 128 i5)))) (fun v_63 => (if v_63 ≤ v_39 then (if (-2147483648 ≤ v_39 + 1 ∧ v_39 + 1 ≤ 2147483647) ∧ (-2147483648 ≤ i4 * (v_39 + 1) ∧ i4 * (v_39 + 1) ≤ 2147483647) ∧ (-2147483648 ≤ (i4 * (v_39 + 1)) + v_63 ∧ (i4 * (v_39 + 1)) + v_63 ≤ 2147483647) then (stI ((i4 * (v_39 + 1)) + v_63) (fun v_87 => (if -2147483648 ≤ i5 + (-1) ∧ i5 + (-1) ≤ 2147483647 then (kf_266 n dp e 1 I L i1 i2 i3 v_87 (i5 + (-1))) else none))) else none) else (if (-2147483648 ≤ v_39 + 1 ∧ v_39 + 1 ≤ 2147483647) ∧ (-2147483648 ≤ i4 * (v_39 + 1) ∧ i4 * (v_39 + 1) ≤ 2147483647) ∧ (-2147483648 ≤ (i4 * (v_39 + 1)) + v_39 ∧ (i4 * (v_39 + 1)) + v_39 ≤ 2147483647) then (stI ((i4 * (v_39 + 1)) + v_39) (fun v_87 => (if -2147483648 ≤ i5 + (-1) ∧ i5 + (-1) ≤ 2147483647 then (kf_266 n dp e 1 I L i1 i2 i3 v_87 (i5 + (-1))) else none))) else none)))) else none) else none) else none) else none) else none))) else none) else none)) := by rw [kf_266.eq_2, if_neg (show ¬ ((1 : Nat) = 0) by decide), if_pos (show (1 : Nat) = 1 from rfl)]
set_option maxHeartbeats 8000000 in
set_option maxRecDepth 100000 in
theorem ks_266 : ∀ (n : Nat) (dp : Nat) (e : EN) (lab : Nat) (I : Nat → Nat → Int32) (I' : JI) (L : Nat → Nat → Int64) (L' : JI) (i1 : Int32) (i1' : Int) (i2 : Int32) (i2' : Int) (i3 : Int32) (i3' : Int) (i4 : Int32) (i4' : Int) (i5 : Int32) (i5' : Int), Rli I I' → Rll L L' → Ui i1 i1' → Ui i2 i2' → Ui i3 i3' → Ui i4 i4' → Ui i5 i5' → Sim R3 (g_266 n dp e lab I L i1 i2 i3 i4 i5) (kf_266 n dp e lab I' L' i1' i2' i3' i4' i5') := by
  intro n
  induction n with
  | zero => intros; rw [kf_266.eq_1]; exact Sn
  | succ n ih =>
    intro dp e lab I I' L L' i1 i1' i2 i2' i3 i3' i4 i4' i5 i5' u_I u_L u_i1 u_i2 u_i3 u_i4 u_i5
    rw [g_266.eq_2, kf_266.eq_2]
    refine Sc Iff.rfl (fun _ => ?_) (fun _ => ?_)
    · refine Sg (fun g1 => ?_)
      refine SsI (ui_add (ui_mul (rfl : Ui (640) (640)) u_i1 g1.1) (ui_mul (rfl : Ui (10) (10)) u_i2 g1.2.1) g1.2.2) (fun v_10 v_10' u_v_10 => ?_)
      refine Sg (fun g2 => ?_)
      refine SsI (ui_sub (u_I 105 43) (rfl : Ui (1) (1)) g2) (fun v_20 v_20' u_v_20 => ?_)
      exact (ih dp e 1 _ _ _ _ _ _ _ _ _ _ _ _ _ _ u_I u_L u_i1 u_i2 u_v_10 (rfl : Ui (0) (0)) u_v_20)
    refine Sc Iff.rfl (fun _ => ?_) (fun _ => ?_)
    · refine Sc (lt_up u_i5 (rfl : Ui 0 0)) (fun c1 => ?_) (fun c1 => ?_)
      · exact Sr ⟨u_i4, u_I, u_L⟩
      · refine Sc (ix_up u_i5) (fun c2 => ?_) (fun _ => Sn)
        refine Sc (ix_up (ui_rd (a := 128) u_I u_i5 c2.1)) (fun c3 => ?_) (fun _ => Sn)
        refine SsI (ui_rd (a := 127) u_I (ui_rd (a := 128) u_I u_i5 c2.1) c3.1) (fun v_39 v_39' u_v_39 => ?_)
        refine Sc (ix_up u_i5) (fun c4 => ?_) (fun _ => Sn)
        refine Sc (ix_up u_i5) (fun c5 => ?_) (fun _ => Sn)
        refine Sg (fun g6 => ?_)
        refine Sc (ix_up (ui_add u_i3 (ui_rd (a := 128) u_I u_i5 c5.1) g6)) (fun c7 => ?_) (fun _ => Sn)
        refine Sg (fun g8 => ?_)
        refine SsI (ui_add (ui_rd (a := 133) u_I u_i5 c5.1) (ui_rd (a := 122) u_I (ui_add u_i3 (ui_rd (a := 128) u_I u_i5 c5.1) g6) c7.1) g8) (fun v_63 v_63' u_v_63 => ?_)
        refine Sc (le_up u_v_63 u_v_39) (fun c9 => ?_) (fun c9 => ?_)
        · refine Sg (fun g10 => ?_)
          refine SsI (ui_add (ui_mul u_i4 (ui_add u_v_39 (rfl : Ui (1) (1)) g10.1) g10.2.1) u_v_63 g10.2.2) (fun v_87 v_87' u_v_87 => ?_)
          refine Sg (fun g11 => ?_)
          exact (ih dp e 1 _ _ _ _ _ _ _ _ _ _ _ _ _ _ u_I u_L u_i1 u_i2 u_i3 u_v_87 (ui_add u_i5 (rfl : Ui (Int32.ofInt (-1)) (-1)) g11))
        · refine Sg (fun g12 => ?_)
          refine SsI (ui_add (ui_mul u_i4 (ui_add u_v_39 (rfl : Ui (1) (1)) g12.1) g12.2.1) u_v_39 g12.2.2) (fun v_87 v_87' u_v_87 => ?_)
          refine Sg (fun g13 => ?_)
          exact (ih dp e 1 _ _ _ _ _ _ _ _ _ _ _ _ _ _ u_I u_L u_i1 u_i2 u_i3 u_v_87 (ui_add u_i5 (rfl : Ui (Int32.ofInt (-1)) (-1)) g13))
    exact Sn
set_option maxHeartbeats 4000000 in
set_option maxRecDepth 100000 in
def kf_269 : Nat → Nat → EN → Nat → JI → JI → Int → Int → Int → Int → Option (Int × JI × JI)
  | 0, _, _, _, _, _, _, _, _, _ => none
  | n + 1, dp, e, lab, I, L, i1, i2, i3, i4 =>
    if lab = 0 then (kf_269 n dp e 1 I L i1 i2 0 0)
    else if lab = 1 then (if 10 ≤ i4 then (some ((i3 : Int), I, L)) else (if -2147483648 ≤ 50 + i4 ∧ 50 + i4 ≤ 2147483647 then (if 0 ≤ (50 + i4) ∧ (50 + i4) < 1570 then (if (-2147483648 ≤ 640 * i1 ∧ 640 * i1 ≤ 2147483647) ∧ (-2147483648 ≤ 10 * i2 ∧ 10 * i2 ≤ 2147483647) ∧ (-2147483648 ≤ (640 * i1) + (10 * i2) ∧ (640 * i1) + (10 * i2) ≤ 2147483647) ∧ (-2147483648 ≤ ((640 * i1) + (10 * i2)) + i4 ∧ ((640 * i1) + (10 * i2)) + i4 ≤ 2147483647) then (if 0 ≤ (((640 * i1) + (10 * i2)) + i4) ∧ (((640 * i1) + (10 * i2)) + i4) < 1920 then (if (-2147483648 ≤ (I 107 (50 + i4)) * (I 122 (((640 * i1) + (10 * i2)) + i4)) ∧ (I 107 (50 + i4)) * (I 122 (((640 * i1) + (10 * i2)) + i4)) ≤ 2147483647) ∧ (-2147483648 ≤ i3 + ((I 107 (50 + i4)) * (I 122 (((640 * i1) + (10 * i2)) + i4))) ∧ i3 + ((I 107 (50 + i4)) * (I 122 (((640 * i1) + (10 * i2)) + i4))) ≤ 2147483647) then (stI (i3 + ((I 107 (50 + i4)) * (I 122 (((640 * i1) + (10 * i2)) + i4)))) (fun v_43 => (if -2147483648 ≤ i4 + 1 ∧ i4 + 1 ≤ 2147483647 then (kf_269 n dp e 1 I L i1 i2 v_43 (i4 + 1)) else none))) else none) else none) else none) else none) else none))
    else none
set_option maxRecDepth 100000 in
theorem ke_269_0 (n : Nat) (dp : Nat) (e : EN) (I : JI) (L : JI) (i1 : Int) (i2 : Int) (i3 : Int) (i4 : Int) : kf_269 (n + 1) dp e 0 I L i1 i2 i3 i4 = (kf_269 n dp e 1 I L i1 i2 0 0) := by rw [kf_269.eq_2, if_pos (show (0 : Nat) = 0 from rfl)]
set_option maxRecDepth 100000 in
theorem ke_269_1 (n : Nat) (dp : Nat) (e : EN) (I : JI) (L : JI) (i1 : Int) (i2 : Int) (i3 : Int) (i4 : Int) : kf_269 (n + 1) dp e 1 I L i1 i2 i3 i4 = (if 10 ≤ i4 then (some ((i3 : Int), I, L)) else (if -2147483648 ≤ 50 + i4 ∧ 50 + i4 ≤ 2147483647 then (if 0 ≤ (50 + i4) ∧ (50 + i4) < 1570 then (if (-2147483648 ≤ 640 * i1 ∧ 640 * i1 ≤ 2147483647) ∧ (-2147483648 ≤ 10 * i2 ∧ 10 * i2 ≤ 2147483647) ∧ (-2147483648 ≤ (640 * i1) + (10 * i2) ∧ (640 * i1) + (10 * i2) ≤ 2147483647) ∧ (-2147483648 ≤ ((640 * i1) + (10 * i2)) + i4 ∧ ((640 * i1) + (10 * i2)) + i4 ≤ 2147483647) then (if 0 ≤ (((640 * i1) + (10 * i2)) + i4) ∧ (((640 * i1) + (10 * i2)) + i4) < 1920 then (if (-2147483648 ≤ (I 107 (50 + i4)) * (I 122 (((640 * i1) + (10 * i2)) + i4)) ∧ (I 107 (50 + i4)) * (I 122 (((640 * i1) + (10 * i2)) + i4)) ≤ 2147483647) ∧ (-2147483648 ≤ i3 + ((I 107 (50 + i4)) * (I 122 (((640 * i1) + (10 * i2)) + i4))) ∧ i3 + ((I 107 (50 + i4)) * (I 122 (((640 * i1) + (10 * i2)) + i4))) ≤ 2147483647) then (stI (i3 + ((I 107 (50 + i4)) * (I 122 (((640 * i1) + (10 * i2)) + i4)))) (fun v_43 => (if -2147483648 ≤ i4 + 1 ∧ i4 + 1 ≤ 2147483647 then (kf_269 n dp e 1 I L i1 i2 v_43 (i4 + 1)) else none))) else none) else none) else none) else none) else none)) := by rw [kf_269.eq_2, if_neg (show ¬ ((1 : Nat) = 0) by decide), if_pos (show (1 : Nat) = 1 from rfl)]
set_option maxHeartbeats 8000000 in
set_option maxRecDepth 100000 in
theorem ks_269 : ∀ (n : Nat) (dp : Nat) (e : EN) (lab : Nat) (I : Nat → Nat → Int32) (I' : JI) (L : Nat → Nat → Int64) (L' : JI) (i1 : Int32) (i1' : Int) (i2 : Int32) (i2' : Int) (i3 : Int32) (i3' : Int) (i4 : Int32) (i4' : Int), Rli I I' → Rll L L' → Ui i1 i1' → Ui i2 i2' → Ui i3 i3' → Ui i4 i4' → Sim R3 (g_269 n dp e lab I L i1 i2 i3 i4) (kf_269 n dp e lab I' L' i1' i2' i3' i4') := by
  intro n
  induction n with
  | zero => intros; rw [kf_269.eq_1]; exact Sn
  | succ n ih =>
    intro dp e lab I I' L L' i1 i1' i2 i2' i3 i3' i4 i4' u_I u_L u_i1 u_i2 u_i3 u_i4
    rw [g_269.eq_2, kf_269.eq_2]
    refine Sc Iff.rfl (fun _ => ?_) (fun _ => ?_)
    · exact (ih dp e 1 _ _ _ _ _ _ _ _ _ _ _ _ u_I u_L u_i1 u_i2 (rfl : Ui (0) (0)) (rfl : Ui (0) (0)))
    refine Sc Iff.rfl (fun _ => ?_) (fun _ => ?_)
    · refine Sc (le_up (rfl : Ui (10) (10)) u_i4) (fun c1 => ?_) (fun c1 => ?_)
      · exact Sr ⟨u_i3, u_I, u_L⟩
      · refine Sg (fun g2 => ?_)
        refine Sc (ix_up (ui_add (rfl : Ui (50) (50)) u_i4 g2)) (fun c3 => ?_) (fun _ => Sn)
        refine Sg (fun g4 => ?_)
        refine Sc (ix_up (ui_add (ui_add (ui_mul (rfl : Ui (640) (640)) u_i1 g4.1) (ui_mul (rfl : Ui (10) (10)) u_i2 g4.2.1) g4.2.2.1) u_i4 g4.2.2.2)) (fun c5 => ?_) (fun _ => Sn)
        refine Sg (fun g6 => ?_)
        refine SsI (ui_add u_i3 (ui_mul (ui_rd (a := 107) u_I (ui_add (rfl : Ui (50) (50)) u_i4 g2) c3.1) (ui_rd (a := 122) u_I (ui_add (ui_add (ui_mul (rfl : Ui (640) (640)) u_i1 g4.1) (ui_mul (rfl : Ui (10) (10)) u_i2 g4.2.1) g4.2.2.1) u_i4 g4.2.2.2) c5.1) g6.1) g6.2) (fun v_43 v_43' u_v_43 => ?_)
        refine Sg (fun g7 => ?_)
        exact (ih dp e 1 _ _ _ _ _ _ _ _ _ _ _ _ u_I u_L u_i1 u_i2 u_v_43 (ui_add u_i4 (rfl : Ui (Int32.ofInt (1)) (1)) g7))
    exact Sn
set_option maxHeartbeats 4000000 in
set_option maxRecDepth 100000 in
def kf_268 : Nat → Nat → EN → Nat → JI → JI → Int → Int → Option (Int × JI × JI)
  | 0, _, _, _, _, _, _, _ => none
  | n + 1, dp, e, lab, I, L, i1, i2 =>
    if lab = 0 then (if 0 ≤ i1 ∧ i1 < 8 then (if 1 ≤ dp then ((kf_269 n (dp - 1) e 0 I L (I 126 i1) i2 0 0).bind (fun ⟨x0_12, I0_12, L0_12⟩ => (if (I0_12 105 48) ≤ 1 then (if (-2147483648 ≤ (I 105 48) * x0_12 ∧ (I 105 48) * x0_12 ≤ 2147483647) ∧ (-2147483648 ≤ ((I 105 48) * x0_12) - 0 ∧ ((I 105 48) * x0_12) - 0 ≤ 2147483647) then (some (((((I 105 48) * x0_12) - 0) : Int), I0_12, L0_12)) else none) else (if 0 ≤ i1 ∧ i1 < 8 then (if i2 = (I0_12 132 i1) then (if (-2147483648 ≤ (I 105 48) * x0_12 ∧ (I 105 48) * x0_12 ≤ 2147483647) ∧ (-2147483648 ≤ ((I 105 48) * x0_12) - 0 ∧ ((I 105 48) * x0_12) - 0 ≤ 2147483647) then (some (((((I 105 48) * x0_12) - 0) : Int), I0_12, L0_12)) else none) else (if (-2147483648 ≤ (I 105 48) * x0_12 ∧ (I 105 48) * x0_12 ≤ 2147483647) ∧ (-2147483648 ≤ ((I 105 48) * x0_12) - 1 ∧ ((I 105 48) * x0_12) - 1 ≤ 2147483647) then (some (((((I 105 48) * x0_12) - 1) : Int), I0_12, L0_12)) else none)) else none)))) else none) else none)
    else none
set_option maxRecDepth 100000 in
theorem ke_268_0 (n : Nat) (dp : Nat) (e : EN) (I : JI) (L : JI) (i1 : Int) (i2 : Int) : kf_268 (n + 1) dp e 0 I L i1 i2 = (if 0 ≤ i1 ∧ i1 < 8 then (if 1 ≤ dp then ((kf_269 n (dp - 1) e 0 I L (I 126 i1) i2 0 0).bind (fun ⟨x0_12, I0_12, L0_12⟩ => (if (I0_12 105 48) ≤ 1 then (if (-2147483648 ≤ (I 105 48) * x0_12 ∧ (I 105 48) * x0_12 ≤ 2147483647) ∧ (-2147483648 ≤ ((I 105 48) * x0_12) - 0 ∧ ((I 105 48) * x0_12) - 0 ≤ 2147483647) then (some (((((I 105 48) * x0_12) - 0) : Int), I0_12, L0_12)) else none) else (if 0 ≤ i1 ∧ i1 < 8 then (if i2 = (I0_12 132 i1) then (if (-2147483648 ≤ (I 105 48) * x0_12 ∧ (I 105 48) * x0_12 ≤ 2147483647) ∧ (-2147483648 ≤ ((I 105 48) * x0_12) - 0 ∧ ((I 105 48) * x0_12) - 0 ≤ 2147483647) then (some (((((I 105 48) * x0_12) - 0) : Int), I0_12, L0_12)) else none) else (if (-2147483648 ≤ (I 105 48) * x0_12 ∧ (I 105 48) * x0_12 ≤ 2147483647) ∧ (-2147483648 ≤ ((I 105 48) * x0_12) - 1 ∧ ((I 105 48) * x0_12) - 1 ≤ 2147483647) then (some (((((I 105 48) * x0_12) - 1) : Int), I0_12, L0_12)) else none)) else none)))) else none) else none) := by rw [kf_268.eq_2, if_pos (show (0 : Nat) = 0 from rfl)]
set_option maxHeartbeats 8000000 in
set_option maxRecDepth 100000 in
theorem ks_268 : ∀ (n : Nat) (dp : Nat) (e : EN) (lab : Nat) (I : Nat → Nat → Int32) (I' : JI) (L : Nat → Nat → Int64) (L' : JI) (i1 : Int32) (i1' : Int) (i2 : Int32) (i2' : Int), Rli I I' → Rll L L' → Ui i1 i1' → Ui i2 i2' → Sim R3 (g_268 n dp e lab I L i1 i2) (kf_268 n dp e lab I' L' i1' i2') := by
  intro n
  induction n with
  | zero => intros; rw [kf_268.eq_1]; exact Sn
  | succ n ih =>
    intro dp e lab I I' L L' i1 i1' i2 i2' u_I u_L u_i1 u_i2
    rw [g_268.eq_2, kf_268.eq_2]
    refine Sc Iff.rfl (fun _ => ?_) (fun _ => ?_)
    · refine Sc (ix_up u_i1) (fun c1 => ?_) (fun _ => Sn)
      refine Sc Iff.rfl (fun c2 => ?_) (fun _ => Sn)
      refine Sb3 (ks_269 n (dp - 1) e 0 _ _ _ _ _ _ _ _ _ _ _ _ u_I u_L (ui_rd (a := 126) u_I u_i1 c1.1) u_i2 (rfl : Ui 0 0) (rfl : Ui 0 0)) (fun x0_12 x0_12' I0_12 I0_12' L0_12 L0_12' u_x0_12 u_I0_12 u_L0_12 => ?_)
      refine Sc (le_up (u_I0_12 105 48) (rfl : Ui (1) (1))) (fun c3 => ?_) (fun c3 => ?_)
      · refine Sg (fun g4 => ?_)
        exact Sr ⟨(ui_sub (ui_mul (u_I 105 48) u_x0_12 g4.1) (rfl : Ui (0) (0)) g4.2), u_I0_12, u_L0_12⟩
      · refine Sc (ix_up u_i1) (fun c5 => ?_) (fun _ => Sn)
        refine Sc (eq_up u_i2 (ui_rd (a := 132) u_I0_12 u_i1 c5.1)) (fun c6 => ?_) (fun c6 => ?_)
        · refine Sg (fun g7 => ?_)
          exact Sr ⟨(ui_sub (ui_mul (u_I 105 48) u_x0_12 g7.1) (rfl : Ui (0) (0)) g7.2), u_I0_12, u_L0_12⟩
        · refine Sg (fun g8 => ?_)
          exact Sr ⟨(ui_sub (ui_mul (u_I 105 48) u_x0_12 g8.1) (rfl : Ui (1) (1)) g8.2), u_I0_12, u_L0_12⟩
    exact Sn
set_option maxHeartbeats 4000000 in
set_option maxRecDepth 100000 in
def kf_267 : Nat → Nat → EN → Nat → JI → JI → Int → Int → Int → Int → Int → Int → Int → Option (JI × JI)
  | 0, _, _, _, _, _, _, _, _, _, _, _, _ => none
  | n + 1, dp, e, lab, I, L, i1, i2, i3, i6, i7, i8, j4 =>
    if lab = 0 then (if 1 ≤ dp then ((kf_265 n (dp - 1) e 0 I L i2 0 0).bind (fun ⟨I0_2, L0_2⟩ => (kf_267 n dp e 1 I0_2 L0_2 i1 i2 0 0 0 0 0))) else none)
    else if lab = 1 then (if 0 ≤ i1 ∧ i1 < 8 then (if 0 ≤ (I 126 i1) ∧ (I 126 i1) < 3 then (if (I 120 (I 126 i1)) ≤ i6 then (if (-2147483648 ≤ 59049 * i1 ∧ 59049 * i1 ≤ 2147483647) ∧ (-2147483648 ≤ (59049 * i1) + i2 ∧ (59049 * i1) + i2 ≤ 2147483647) then (if 0 ≤ ((59049 * i1) + i2) ∧ ((59049 * i1) + i2) < 531441 then (stI (w2 I 129 ((59049 * i1) + i2) i3) (fun I_126 => (if j4 ≤ 1000000000 then (if 0 ≤ ((59049 * i1) + i2) ∧ ((59049 * i1) + i2) < 531441 then (if -2147483648 ≤ j4 ∧ j4 ≤ 2147483647 then (stI (w2 I_126 130 ((59049 * i1) + i2) j4) (fun I_156 => (some (I_156, L)))) else none) else none) else (if 0 ≤ ((59049 * i1) + i2) ∧ ((59049 * i1) + i2) < 531441 then (stI (w2 I_126 130 ((59049 * i1) + i2) 1000000000) (fun I_156 => (some (I_156, L)))) else none)))) else none) else none) else (if 0 ≤ i1 ∧ i1 < 8 then (if 1 ≤ dp then ((kf_266 n (dp - 1) e 0 I L (I 126 i1) i6 0 0 0).bind (fun ⟨x0_45, I0_45, L0_45⟩ => (if (-2147483648 ≤ i1 + 1 ∧ i1 + 1 ≤ 2147483647) ∧ (-2147483648 ≤ 59049 * (i1 + 1) ∧ 59049 * (i1 + 1) ≤ 2147483647) ∧ (-2147483648 ≤ (59049 * (i1 + 1)) + x0_45 ∧ (59049 * (i1 + 1)) + x0_45 ≤ 2147483647) then (stI ((59049 * (i1 + 1)) + x0_45) (fun v_49 => (if 1 ≤ dp then ((kf_268 n (dp - 1) e 0 I0_45 L0_45 i1 i6).bind (fun ⟨x1_55, I1_55, L1_55⟩ => (if 0 ≤ v_49 ∧ v_49 < 531441 then (if -2147483648 ≤ x1_55 + (I1_55 129 v_49) ∧ x1_55 + (I1_55 129 v_49) ≤ 2147483647 then (stI (x1_55 + (I1_55 129 v_49)) (fun v_66 => (if i6 = 0 then (kf_267 n dp e 2 I1_55 L1_55 i1 i2 i3 i6 v_49 v_66 j4) else (if v_66 ≤ i3 then (kf_267 n dp e 3 I1_55 L1_55 i1 i2 i3 i6 v_49 v_66 j4) else (kf_267 n dp e 2 I1_55 L1_55 i1 i2 i3 i6 v_49 v_66 j4))))) else none) else none))) else none))) else none))) else none) else none)) else none) else none)
    else if lab = 2 then (kf_267 n dp e 3 I L i1 i2 i8 i6 i7 i8 0)
    else if lab = 3 then (if i8 = i3 then (if 0 ≤ i7 ∧ i7 < 531441 then (if -9223372036854775808 ≤ j4 + (I 130 i7) ∧ j4 + (I 130 i7) ≤ 9223372036854775807 then (stI (j4 + (I 130 i7)) (fun v_106 => (if -2147483648 ≤ i6 + 1 ∧ i6 + 1 ≤ 2147483647 then (kf_267 n dp e 1 I L i1 i2 i3 (i6 + 1) 0 0 v_106) else none))) else none) else none) else (if (-2147483648 ≤ i6 + 1 ∧ i6 + 1 ≤ 2147483647) ∧ (-9223372036854775808 ≤ j4 + 0 ∧ j4 + 0 ≤ 9223372036854775807) then (kf_267 n dp e 1 I L i1 i2 i3 (i6 + 1) 0 0 (j4 + 0)) else none))
    else none
set_option maxRecDepth 100000 in
theorem ke_267_0 (n : Nat) (dp : Nat) (e : EN) (I : JI) (L : JI) (i1 : Int) (i2 : Int) (i3 : Int) (i6 : Int) (i7 : Int) (i8 : Int) (j4 : Int) : kf_267 (n + 1) dp e 0 I L i1 i2 i3 i6 i7 i8 j4 = (if 1 ≤ dp then ((kf_265 n (dp - 1) e 0 I L i2 0 0).bind (fun ⟨I0_2, L0_2⟩ => (kf_267 n dp e 1 I0_2 L0_2 i1 i2 0 0 0 0 0))) else none) := by rw [kf_267.eq_2, if_pos (show (0 : Nat) = 0 from rfl)]
set_option maxRecDepth 100000 in
theorem ke_267_1 (n : Nat) (dp : Nat) (e : EN) (I : JI) (L : JI) (i1 : Int) (i2 : Int) (i3 : Int) (i6 : Int) (i7 : Int) (i8 : Int) (j4 : Int) : kf_267 (n + 1) dp e 1 I L i1 i2 i3 i6 i7 i8 j4 = (if 0 ≤ i1 ∧ i1 < 8 then (if 0 ≤ (I 126 i1) ∧ (I 126 i1) < 3 then (if (I 120 (I 126 i1)) ≤ i6 then (if (-2147483648 ≤ 59049 * i1 ∧ 59049 * i1 ≤ 2147483647) ∧ (-2147483648 ≤ (59049 * i1) + i2 ∧ (59049 * i1) + i2 ≤ 2147483647) then (if 0 ≤ ((59049 * i1) + i2) ∧ ((59049 * i1) + i2) < 531441 then (stI (w2 I 129 ((59049 * i1) + i2) i3) (fun I_126 => (if j4 ≤ 1000000000 then (if 0 ≤ ((59049 * i1) + i2) ∧ ((59049 * i1) + i2) < 531441 then (if -2147483648 ≤ j4 ∧ j4 ≤ 2147483647 then (stI (w2 I_126 130 ((59049 * i1) + i2) j4) (fun I_156 => (some (I_156, L)))) else none) else none) else (if 0 ≤ ((59049 * i1) + i2) ∧ ((59049 * i1) + i2) < 531441 then (stI (w2 I_126 130 ((59049 * i1) + i2) 1000000000) (fun I_156 => (some (I_156, L)))) else none)))) else none) else none) else (if 0 ≤ i1 ∧ i1 < 8 then (if 1 ≤ dp then ((kf_266 n (dp - 1) e 0 I L (I 126 i1) i6 0 0 0).bind (fun ⟨x0_45, I0_45, L0_45⟩ => (if (-2147483648 ≤ i1 + 1 ∧ i1 + 1 ≤ 2147483647) ∧ (-2147483648 ≤ 59049 * (i1 + 1) ∧ 59049 * (i1 + 1) ≤ 2147483647) ∧ (-2147483648 ≤ (59049 * (i1 + 1)) + x0_45 ∧ (59049 * (i1 + 1)) + x0_45 ≤ 2147483647) then (stI ((59049 * (i1 + 1)) + x0_45) (fun v_49 => (if 1 ≤ dp then ((kf_268 n (dp - 1) e 0 I0_45 L0_45 i1 i6).bind (fun ⟨x1_55, I1_55, L1_55⟩ => (if 0 ≤ v_49 ∧ v_49 < 531441 then (if -2147483648 ≤ x1_55 + (I1_55 129 v_49) ∧ x1_55 + (I1_55 129 v_49) ≤ 2147483647 then (stI (x1_55 + (I1_55 129 v_49)) (fun v_66 => (if i6 = 0 then (kf_267 n dp e 2 I1_55 L1_55 i1 i2 i3 i6 v_49 v_66 j4) else (if v_66 ≤ i3 then (kf_267 n dp e 3 I1_55 L1_55 i1 i2 i3 i6 v_49 v_66 j4) else (kf_267 n dp e 2 I1_55 L1_55 i1 i2 i3 i6 v_49 v_66 j4))))) else none) else none))) else none))) else none))) else none) else none)) else none) else none) := by rw [kf_267.eq_2, if_neg (show ¬ ((1 : Nat) = 0) by decide), if_pos (show (1 : Nat) = 1 from rfl)]
set_option maxRecDepth 100000 in
theorem ke_267_2 (n : Nat) (dp : Nat) (e : EN) (I : JI) (L : JI) (i1 : Int) (i2 : Int) (i3 : Int) (i6 : Int) (i7 : Int) (i8 : Int) (j4 : Int) : kf_267 (n + 1) dp e 2 I L i1 i2 i3 i6 i7 i8 j4 = (kf_267 n dp e 3 I L i1 i2 i8 i6 i7 i8 0) := by rw [kf_267.eq_2, if_neg (show ¬ ((2 : Nat) = 0) by decide), if_neg (show ¬ ((2 : Nat) = 1) by decide), if_pos (show (2 : Nat) = 2 from rfl)]
set_option maxRecDepth 100000 in
theorem ke_267_3 (n : Nat) (dp : Nat) (e : EN) (I : JI) (L : JI) (i1 : Int) (i2 : Int) (i3 : Int) (i6 : Int) (i7 : Int) (i8 : Int) (j4 : Int) : kf_267 (n + 1) dp e 3 I L i1 i2 i3 i6 i7 i8 j4 = (if i8 = i3 then (if 0 ≤ i7 ∧ i7 < 531441 then (if -9223372036854775808 ≤ j4 + (I 130 i7) ∧ j4 + (I 130 i7) ≤ 9223372036854775807 then (stI (j4 + (I 130 i7)) (fun v_106 => (if -2147483648 ≤ i6 + 1 ∧ i6 + 1 ≤ 2147483647 then (kf_267 n dp e 1 I L i1 i2 i3 (i6 + 1) 0 0 v_106) else none))) else none) else none) else (if (-2147483648 ≤ i6 + 1 ∧ i6 + 1 ≤ 2147483647) ∧ (-9223372036854775808 ≤ j4 + 0 ∧ j4 + 0 ≤ 9223372036854775807) then (kf_267 n dp e 1 I L i1 i2 i3 (i6 + 1) 0 0 (j4 + 0)) else none)) := by rw [kf_267.eq_2, if_neg (show ¬ ((3 : Nat) = 0) by decide), if_neg (show ¬ ((3 : Nat) = 1) by decide), if_neg (show ¬ ((3 : Nat) = 2) by decide), if_pos (show (3 : Nat) = 3 from rfl)]
set_option maxHeartbeats 8000000 in
set_option maxRecDepth 100000 in
theorem ks_267 : ∀ (n : Nat) (dp : Nat) (e : EN) (lab : Nat) (I : Nat → Nat → Int32) (I' : JI) (L : Nat → Nat → Int64) (L' : JI) (i1 : Int32) (i1' : Int) (i2 : Int32) (i2' : Int) (i3 : Int32) (i3' : Int) (i6 : Int32) (i6' : Int) (i7 : Int32) (i7' : Int) (i8 : Int32) (i8' : Int) (j4 : Int64) (j4' : Int), Rli I I' → Rll L L' → Ui i1 i1' → Ui i2 i2' → Ui i3 i3' → Ui i6 i6' → Ui i7 i7' → Ui i8 i8' → Ul j4 j4' → Sim R2 (g_267 n dp e lab I L i1 i2 i3 i6 i7 i8 j4) (kf_267 n dp e lab I' L' i1' i2' i3' i6' i7' i8' j4') := by
  intro n
  induction n with
  | zero => intros; rw [kf_267.eq_1]; exact Sn
  | succ n ih =>
    intro dp e lab I I' L L' i1 i1' i2 i2' i3 i3' i6 i6' i7 i7' i8 i8' j4 j4' u_I u_L u_i1 u_i2 u_i3 u_i6 u_i7 u_i8 u_j4
    rw [g_267.eq_2, kf_267.eq_2]
    refine Sc Iff.rfl (fun _ => ?_) (fun _ => ?_)
    · refine Sc Iff.rfl (fun c1 => ?_) (fun _ => Sn)
      refine Sb2 (ks_265 n (dp - 1) e 0 _ _ _ _ _ _ _ _ _ _ u_I u_L u_i2 (rfl : Ui 0 0) (rfl : Ui 0 0)) (fun I0_2 I0_2' L0_2 L0_2' u_I0_2 u_L0_2 => ?_)
      exact (ih dp e 1 _ _ _ _ _ _ _ _ _ _ _ _ _ _ _ _ _ _ u_I0_2 u_L0_2 u_i1 u_i2 (rfl : Ui (0) (0)) (rfl : Ui (0) (0)) (rfl : Ui 0 0) (rfl : Ui 0 0) (rfl : Ul (0) (0)))
    refine Sc Iff.rfl (fun _ => ?_) (fun _ => ?_)
    · refine Sc (ix_up u_i1) (fun c1 => ?_) (fun _ => Sn)
      refine Sc (ix_up (ui_rd (a := 126) u_I u_i1 c1.1)) (fun c2 => ?_) (fun _ => Sn)
      refine Sc (le_up (ui_rd (a := 120) u_I (ui_rd (a := 126) u_I u_i1 c1.1) c2.1) u_i6) (fun c3 => ?_) (fun c3 => ?_)
      · refine Sg (fun g4 => ?_)
        refine Sc (ix_up (ui_add (ui_mul (rfl : Ui (59049) (59049)) u_i1 g4.1) u_i2 g4.2)) (fun c5 => ?_) (fun _ => Sn)
        refine SsJ (ri_up u_I (kc_up (ui_add (ui_mul (rfl : Ui (59049) (59049)) u_i1 g4.1) u_i2 g4.2) c5.1) u_i3) (fun I_126 I_126' u_I_126 => ?_)
        refine Sc (lcle_up u_j4 (rfl : Ul (1000000000) (1000000000))) (fun c6 => ?_) (fun c6 => ?_)
        · refine Sc (ix_up (ui_add (ui_mul (rfl : Ui (59049) (59049)) u_i1 g4.1) u_i2 g4.2)) (fun c7 => ?_) (fun _ => Sn)
          refine Sg (fun g8 => ?_)
          refine SsJ (ri_up u_I_126 (kc_up (ui_add (ui_mul (rfl : Ui (59049) (59049)) u_i1 g4.1) u_i2 g4.2) c7.1) (ui_l2i u_j4 g8)) (fun I_156 I_156' u_I_156 => ?_)
          exact Sr ⟨u_I_156, u_L⟩
        · refine Sc (ix_up (ui_add (ui_mul (rfl : Ui (59049) (59049)) u_i1 g4.1) u_i2 g4.2)) (fun c9 => ?_) (fun _ => Sn)
          refine SsJ (ri_up u_I_126 (kc_up (ui_add (ui_mul (rfl : Ui (59049) (59049)) u_i1 g4.1) u_i2 g4.2) c9.1) (rfl : Ui (1000000000) (1000000000))) (fun I_156 I_156' u_I_156 => ?_)
          exact Sr ⟨u_I_156, u_L⟩
      · refine Sc (ix_up u_i1) (fun c10 => ?_) (fun _ => Sn)
        refine Sc Iff.rfl (fun c11 => ?_) (fun _ => Sn)
        refine Sb3 (ks_266 n (dp - 1) e 0 _ _ _ _ _ _ _ _ _ _ _ _ _ _ u_I u_L (ui_rd (a := 126) u_I u_i1 c10.1) u_i6 (rfl : Ui 0 0) (rfl : Ui 0 0) (rfl : Ui 0 0)) (fun x0_45 x0_45' I0_45 I0_45' L0_45 L0_45' u_x0_45 u_I0_45 u_L0_45 => ?_)
        refine Sg (fun g12 => ?_)
        refine SsI (ui_add (ui_mul (rfl : Ui (59049) (59049)) (ui_add u_i1 (rfl : Ui (1) (1)) g12.1) g12.2.1) u_x0_45 g12.2.2) (fun v_49 v_49' u_v_49 => ?_)
        refine Sc Iff.rfl (fun c13 => ?_) (fun _ => Sn)
        refine Sb3 (ks_268 n (dp - 1) e 0 _ _ _ _ _ _ _ _ u_I0_45 u_L0_45 u_i1 u_i6) (fun x1_55 x1_55' I1_55 I1_55' L1_55 L1_55' u_x1_55 u_I1_55 u_L1_55 => ?_)
        refine Sc (ix_up u_v_49) (fun c14 => ?_) (fun _ => Sn)
        refine Sg (fun g15 => ?_)
        refine SsI (ui_add u_x1_55 (ui_rd (a := 129) u_I1_55 u_v_49 c14.1) g15) (fun v_66 v_66' u_v_66 => ?_)
        refine Sc (eq_up u_i6 (rfl : Ui 0 0)) (fun c16 => ?_) (fun c16 => ?_)
        · exact (ih dp e 2 _ _ _ _ _ _ _ _ _ _ _ _ _ _ _ _ _ _ u_I1_55 u_L1_55 u_i1 u_i2 u_i3 u_i6 u_v_49 u_v_66 u_j4)
        · refine Sc (le_up u_v_66 u_i3) (fun c17 => ?_) (fun c17 => ?_)
          · exact (ih dp e 3 _ _ _ _ _ _ _ _ _ _ _ _ _ _ _ _ _ _ u_I1_55 u_L1_55 u_i1 u_i2 u_i3 u_i6 u_v_49 u_v_66 u_j4)
          · exact (ih dp e 2 _ _ _ _ _ _ _ _ _ _ _ _ _ _ _ _ _ _ u_I1_55 u_L1_55 u_i1 u_i2 u_i3 u_i6 u_v_49 u_v_66 u_j4)
    refine Sc Iff.rfl (fun _ => ?_) (fun _ => ?_)
    · exact (ih dp e 3 _ _ _ _ _ _ _ _ _ _ _ _ _ _ _ _ _ _ u_I u_L u_i1 u_i2 u_i8 u_i6 u_i7 u_i8 (rfl : Ul (0) (0)))
    refine Sc Iff.rfl (fun _ => ?_) (fun _ => ?_)
    · refine Sc (eq_up u_i8 u_i3) (fun c1 => ?_) (fun c1 => ?_)
      · refine Sc (ix_up u_i7) (fun c2 => ?_) (fun _ => Sn)
        refine Sg (fun g3 => ?_)
        refine SsL (ul_add u_j4 (ul_i2l (ui_rd (a := 130) u_I u_i7 c2.1)) g3) (fun v_106 v_106' u_v_106 => ?_)
        refine Sg (fun g4 => ?_)
        exact (ih dp e 1 _ _ _ _ _ _ _ _ _ _ _ _ _ _ _ _ _ _ u_I u_L u_i1 u_i2 u_i3 (ui_add u_i6 (rfl : Ui (Int32.ofInt (1)) (1)) g4) (rfl : Ui 0 0) (rfl : Ui 0 0) u_v_106)
      · refine Sg (fun g5 => ?_)
        exact (ih dp e 1 _ _ _ _ _ _ _ _ _ _ _ _ _ _ _ _ _ _ u_I u_L u_i1 u_i2 u_i3 (ui_add u_i6 (rfl : Ui (Int32.ofInt (1)) (1)) g5.1) (rfl : Ui 0 0) (rfl : Ui 0 0) (ul_add u_j4 (rfl : Ul (0) (0)) g5.2))
    exact Sn
set_option maxHeartbeats 4000000 in
set_option maxRecDepth 100000 in
def kf_263 : Nat → Nat → EN → Nat → JI → JI → Int → Int → Int → Option (Int × JI × JI)
  | 0, _, _, _, _, _, _, _, _ => none
  | n + 1, dp, e, lab, I, L, i1, i2, i3 =>
    if lab = 0 then (if 1 ≤ dp then ((kf_264 n (dp - 1) e 0 I L 0).bind (fun ⟨I0_1, L0_1⟩ => (kf_263 n dp e 1 I0_1 L0_1 0 0 0))) else none)
    else if lab = 1 then (if (I 105 40) < i1 then (kf_263 n dp e 3 I L 0 0 0) else (kf_263 n dp e 2 I L i1 0 0))
    else if lab = 2 then (if (I 105 44) ≤ i2 then (if -2147483648 ≤ i1 + 1 ∧ i1 + 1 ≤ 2147483647 then (kf_263 n dp e 1 I L (i1 + 1) 0 0) else none) else (if i1 = 0 then (if i2 = 0 then (if (-2147483648 ≤ 59049 * i1 ∧ 59049 * i1 ≤ 2147483647) ∧ (-2147483648 ≤ (59049 * i1) + i2 ∧ (59049 * i1) + i2 ≤ 2147483647) then (if 0 ≤ ((59049 * i1) + i2) ∧ ((59049 * i1) + i2) < 531441 then (stI (w2 I 131 ((59049 * i1) + i2) 1) (fun I_48 => (if -2147483648 ≤ i2 + 1 ∧ i2 + 1 ≤ 2147483647 then (kf_263 n dp e 2 I_48 L i1 (i2 + 1) 0) else none))) else none) else none) else (if (-2147483648 ≤ 59049 * i1 ∧ 59049 * i1 ≤ 2147483647) ∧ (-2147483648 ≤ (59049 * i1) + i2 ∧ (59049 * i1) + i2 ≤ 2147483647) then (if 0 ≤ ((59049 * i1) + i2) ∧ ((59049 * i1) + i2) < 531441 then (stI (w2 I 131 ((59049 * i1) + i2) 0) (fun I_48 => (if -2147483648 ≤ i2 + 1 ∧ i2 + 1 ≤ 2147483647 then (kf_263 n dp e 2 I_48 L i1 (i2 + 1) 0) else none))) else none) else none)) else (if (-2147483648 ≤ 59049 * i1 ∧ 59049 * i1 ≤ 2147483647) ∧ (-2147483648 ≤ (59049 * i1) + i2 ∧ (59049 * i1) + i2 ≤ 2147483647) then (if 0 ≤ ((59049 * i1) + i2) ∧ ((59049 * i1) + i2) < 531441 then (stI (w2 I 131 ((59049 * i1) + i2) 0) (fun I_48 => (if -2147483648 ≤ i2 + 1 ∧ i2 + 1 ≤ 2147483647 then (kf_263 n dp e 2 I_48 L i1 (i2 + 1) 0) else none))) else none) else none)))
    else if lab = 3 then (if (I 105 40) ≤ i1 then (kf_263 n dp e 7 I L 0 0 0) else (kf_263 n dp e 4 I L i1 0 0))
    else if lab = 4 then (if (I 105 44) ≤ i2 then (if -2147483648 ≤ i1 + 1 ∧ i1 + 1 ≤ 2147483647 then (kf_263 n dp e 3 I L (i1 + 1) 0 0) else none) else (if (-2147483648 ≤ 59049 * i1 ∧ 59049 * i1 ≤ 2147483647) ∧ (-2147483648 ≤ (59049 * i1) + i2 ∧ (59049 * i1) + i2 ≤ 2147483647) then (if 0 ≤ ((59049 * i1) + i2) ∧ ((59049 * i1) + i2) < 531441 then (if (I 131 ((59049 * i1) + i2)) = 0 then (kf_263 n dp e 6 I L i1 i2 0) else (if 1 ≤ dp then ((kf_265 n (dp - 1) e 0 I L i2 0 0).bind (fun ⟨I0_98, L0_98⟩ => (kf_263 n dp e 5 I0_98 L0_98 i1 i2 0))) else none)) else none) else none))
    else if lab = 5 then (if 0 ≤ i1 ∧ i1 < 8 then (if 0 ≤ (I 126 i1) ∧ (I 126 i1) < 3 then (if (I 120 (I 126 i1)) ≤ i3 then (kf_263 n dp e 6 I L i1 i2 0) else (if 0 ≤ i1 ∧ i1 < 8 then (if 1 ≤ dp then ((kf_266 n (dp - 1) e 0 I L (I 126 i1) i3 0 0 0).bind (fun ⟨x0_137, I0_137, L0_137⟩ => (if (-2147483648 ≤ i1 + 1 ∧ i1 + 1 ≤ 2147483647) ∧ (-2147483648 ≤ 59049 * (i1 + 1) ∧ 59049 * (i1 + 1) ≤ 2147483647) ∧ (-2147483648 ≤ (59049 * (i1 + 1)) + x0_137 ∧ (59049 * (i1 + 1)) + x0_137 ≤ 2147483647) then (if 0 ≤ ((59049 * (i1 + 1)) + x0_137) ∧ ((59049 * (i1 + 1)) + x0_137) < 531441 then (stI (w2 I0_137 131 ((59049 * (i1 + 1)) + x0_137) 1) (fun I_142 => (if -2147483648 ≤ i3 + 1 ∧ i3 + 1 ≤ 2147483647 then (kf_263 n dp e 5 I_142 L0_137 i1 i2 (i3 + 1)) else none))) else none) else none))) else none) else none)) else none) else none)
    else if lab = 6 then (if -2147483648 ≤ i2 + 1 ∧ i2 + 1 ≤ 2147483647 then (kf_263 n dp e 4 I L i1 (i2 + 1) 0) else none)
    else if lab = 7 then (if (I 105 44) ≤ i1 then (if -2147483648 ≤ (I 105 40) - 1 ∧ (I 105 40) - 1 ≤ 2147483647 then (stI ((I 105 40) - 1) (fun v_282 => (kf_263 n dp e 9 I L v_282 0 0))) else none) else (if 1 ≤ dp then ((kf_265 n (dp - 1) e 0 I L i1 0 0).bind (fun ⟨I0_173, L0_173⟩ => (kf_263 n dp e 8 I0_173 L0_173 i1 0 0))) else none))
    else if lab = 8 then (if (I 105 43) ≤ i3 then (if (-2147483648 ≤ 59049 * (I 105 40) ∧ 59049 * (I 105 40) ≤ 2147483647) ∧ (-2147483648 ≤ (59049 * (I 105 40)) + i1 ∧ (59049 * (I 105 40)) + i1 ≤ 2147483647) then (if 0 ≤ ((59049 * (I 105 40)) + i1) ∧ ((59049 * (I 105 40)) + i1) < 531441 then (if -2147483648 ≤ (I 105 48) * i2 ∧ (I 105 48) * i2 ≤ 2147483647 then (stI (w2 I 129 ((59049 * (I 105 40)) + i1) ((I 105 48) * i2)) (fun I_253 => (if (-2147483648 ≤ 59049 * (I_253 105 40) ∧ 59049 * (I_253 105 40) ≤ 2147483647) ∧ (-2147483648 ≤ (59049 * (I_253 105 40)) + i1 ∧ (59049 * (I_253 105 40)) + i1 ≤ 2147483647) then (if 0 ≤ ((59049 * (I_253 105 40)) + i1) ∧ ((59049 * (I_253 105 40)) + i1) < 531441 then (stI (w2 I_253 130 ((59049 * (I_253 105 40)) + i1) 1) (fun I_269 => (if -2147483648 ≤ i1 + 1 ∧ i1 + 1 ≤ 2147483647 then (kf_263 n dp e 7 I_269 L (i1 + 1) 0 0) else none))) else none) else none))) else none) else none) else none) else (if 0 ≤ i3 ∧ i3 < 5 then (if 0 ≤ i3 ∧ i3 < 5 then (if -2147483648 ≤ 40 + (I 128 i3) ∧ 40 + (I 128 i3) ≤ 2147483647 then (if 0 ≤ (40 + (I 128 i3)) ∧ (40 + (I 128 i3)) < 1570 then (if 0 ≤ i3 ∧ i3 < 5 then (if -2147483648 ≤ 50 + (I 128 i3) ∧ 50 + (I 128 i3) ≤ 2147483647 then (if 0 ≤ (50 + (I 128 i3)) ∧ (50 + (I 128 i3)) < 1570 then (if (-2147483648 ≤ (I 107 (40 + (I 128 i3))) - (I 107 (50 + (I 128 i3))) ∧ (I 107 (40 + (I 128 i3))) - (I 107 (50 + (I 128 i3))) ≤ 2147483647) ∧ (-2147483648 ≤ (I 133 i3) * ((I 107 (40 + (I 128 i3))) - (I 107 (50 + (I 128 i3)))) ∧ (I 133 i3) * ((I 107 (40 + (I 128 i3))) - (I 107 (50 + (I 128 i3)))) ≤ 2147483647) ∧ (-2147483648 ≤ i2 + ((I 133 i3) * ((I 107 (40 + (I 128 i3))) - (I 107 (50 + (I 128 i3))))) ∧ i2 + ((I 133 i3) * ((I 107 (40 + (I 128 i3))) - (I 107 (50 + (I 128 i3))))) ≤ 2147483647) then (stI (i2 + ((I 133 i3) * ((I 107 (40 + (I 128 i3))) - (I 107 (50 + (I 128 i3)))))) (fun v_226 => (if -2147483648 ≤ i3 + 1 ∧ i3 + 1 ≤ 2147483647 then (kf_263 n dp e 8 I L i1 v_226 (i3 + 1)) else none))) else none) else none) else none) else none) else none) else none) else none) else none))
    else if lab = 9 then (if i1 < 0 then (some (((I 129 0) : Int), I, L)) else (kf_263 n dp e 10 I L i1 0 0))
    else if lab = 10 then (if (I 105 44) ≤ i2 then (if -2147483648 ≤ i1 + (-1) ∧ i1 + (-1) ≤ 2147483647 then (kf_263 n dp e 9 I L (i1 + (-1)) 0 0) else none) else (if (-2147483648 ≤ 59049 * i1 ∧ 59049 * i1 ≤ 2147483647) ∧ (-2147483648 ≤ (59049 * i1) + i2 ∧ (59049 * i1) + i2 ≤ 2147483647) then (if 0 ≤ ((59049 * i1) + i2) ∧ ((59049 * i1) + i2) < 531441 then (if (I 131 ((59049 * i1) + i2)) = 0 then (kf_263 n dp e 11 I L i1 i2 0) else (if 1 ≤ dp then ((kf_267 n (dp - 1) e 0 I L i1 i2 0 0 0 0 0).bind (fun ⟨I0_315, L0_315⟩ => (kf_263 n dp e 11 I0_315 L0_315 i1 i2 0))) else none)) else none) else none))
    else if lab = 11 then (if -2147483648 ≤ i2 + 1 ∧ i2 + 1 ≤ 2147483647 then (kf_263 n dp e 10 I L i1 (i2 + 1) 0) else none)
    else none
set_option maxRecDepth 100000 in
theorem ke_263_0 (n : Nat) (dp : Nat) (e : EN) (I : JI) (L : JI) (i1 : Int) (i2 : Int) (i3 : Int) : kf_263 (n + 1) dp e 0 I L i1 i2 i3 = (if 1 ≤ dp then ((kf_264 n (dp - 1) e 0 I L 0).bind (fun ⟨I0_1, L0_1⟩ => (kf_263 n dp e 1 I0_1 L0_1 0 0 0))) else none) := by rw [kf_263.eq_2, if_pos (show (0 : Nat) = 0 from rfl)]
set_option maxRecDepth 100000 in
theorem ke_263_1 (n : Nat) (dp : Nat) (e : EN) (I : JI) (L : JI) (i1 : Int) (i2 : Int) (i3 : Int) : kf_263 (n + 1) dp e 1 I L i1 i2 i3 = (if (I 105 40) < i1 then (kf_263 n dp e 3 I L 0 0 0) else (kf_263 n dp e 2 I L i1 0 0)) := by rw [kf_263.eq_2, if_neg (show ¬ ((1 : Nat) = 0) by decide), if_pos (show (1 : Nat) = 1 from rfl)]
set_option maxRecDepth 100000 in
theorem ke_263_2 (n : Nat) (dp : Nat) (e : EN) (I : JI) (L : JI) (i1 : Int) (i2 : Int) (i3 : Int) : kf_263 (n + 1) dp e 2 I L i1 i2 i3 = (if (I 105 44) ≤ i2 then (if -2147483648 ≤ i1 + 1 ∧ i1 + 1 ≤ 2147483647 then (kf_263 n dp e 1 I L (i1 + 1) 0 0) else none) else (if i1 = 0 then (if i2 = 0 then (if (-2147483648 ≤ 59049 * i1 ∧ 59049 * i1 ≤ 2147483647) ∧ (-2147483648 ≤ (59049 * i1) + i2 ∧ (59049 * i1) + i2 ≤ 2147483647) then (if 0 ≤ ((59049 * i1) + i2) ∧ ((59049 * i1) + i2) < 531441 then (stI (w2 I 131 ((59049 * i1) + i2) 1) (fun I_48 => (if -2147483648 ≤ i2 + 1 ∧ i2 + 1 ≤ 2147483647 then (kf_263 n dp e 2 I_48 L i1 (i2 + 1) 0) else none))) else none) else none) else (if (-2147483648 ≤ 59049 * i1 ∧ 59049 * i1 ≤ 2147483647) ∧ (-2147483648 ≤ (59049 * i1) + i2 ∧ (59049 * i1) + i2 ≤ 2147483647) then (if 0 ≤ ((59049 * i1) + i2) ∧ ((59049 * i1) + i2) < 531441 then (stI (w2 I 131 ((59049 * i1) + i2) 0) (fun I_48 => (if -2147483648 ≤ i2 + 1 ∧ i2 + 1 ≤ 2147483647 then (kf_263 n dp e 2 I_48 L i1 (i2 + 1) 0) else none))) else none) else none)) else (if (-2147483648 ≤ 59049 * i1 ∧ 59049 * i1 ≤ 2147483647) ∧ (-2147483648 ≤ (59049 * i1) + i2 ∧ (59049 * i1) + i2 ≤ 2147483647) then (if 0 ≤ ((59049 * i1) + i2) ∧ ((59049 * i1) + i2) < 531441 then (stI (w2 I 131 ((59049 * i1) + i2) 0) (fun I_48 => (if -2147483648 ≤ i2 + 1 ∧ i2 + 1 ≤ 2147483647 then (kf_263 n dp e 2 I_48 L i1 (i2 + 1) 0) else none))) else none) else none))) := by rw [kf_263.eq_2, if_neg (show ¬ ((2 : Nat) = 0) by decide), if_neg (show ¬ ((2 : Nat) = 1) by decide), if_pos (show (2 : Nat) = 2 from rfl)]
set_option maxRecDepth 100000 in
theorem ke_263_3 (n : Nat) (dp : Nat) (e : EN) (I : JI) (L : JI) (i1 : Int) (i2 : Int) (i3 : Int) : kf_263 (n + 1) dp e 3 I L i1 i2 i3 = (if (I 105 40) ≤ i1 then (kf_263 n dp e 7 I L 0 0 0) else (kf_263 n dp e 4 I L i1 0 0)) := by rw [kf_263.eq_2, if_neg (show ¬ ((3 : Nat) = 0) by decide), if_neg (show ¬ ((3 : Nat) = 1) by decide), if_neg (show ¬ ((3 : Nat) = 2) by decide), if_pos (show (3 : Nat) = 3 from rfl)]
set_option maxRecDepth 100000 in
theorem ke_263_4 (n : Nat) (dp : Nat) (e : EN) (I : JI) (L : JI) (i1 : Int) (i2 : Int) (i3 : Int) : kf_263 (n + 1) dp e 4 I L i1 i2 i3 = (if (I 105 44) ≤ i2 then (if -2147483648 ≤ i1 + 1 ∧ i1 + 1 ≤ 2147483647 then (kf_263 n dp e 3 I L (i1 + 1) 0 0) else none) else (if (-2147483648 ≤ 59049 * i1 ∧ 59049 * i1 ≤ 2147483647) ∧ (-2147483648 ≤ (59049 * i1) + i2 ∧ (59049 * i1) + i2 ≤ 2147483647) then (if 0 ≤ ((59049 * i1) + i2) ∧ ((59049 * i1) + i2) < 531441 then (if (I 131 ((59049 * i1) + i2)) = 0 then (kf_263 n dp e 6 I L i1 i2 0) else (if 1 ≤ dp then ((kf_265 n (dp - 1) e 0 I L i2 0 0).bind (fun ⟨I0_98, L0_98⟩ => (kf_263 n dp e 5 I0_98 L0_98 i1 i2 0))) else none)) else none) else none)) := by rw [kf_263.eq_2, if_neg (show ¬ ((4 : Nat) = 0) by decide), if_neg (show ¬ ((4 : Nat) = 1) by decide), if_neg (show ¬ ((4 : Nat) = 2) by decide), if_neg (show ¬ ((4 : Nat) = 3) by decide), if_pos (show (4 : Nat) = 4 from rfl)]
set_option maxRecDepth 100000 in
theorem ke_263_5 (n : Nat) (dp : Nat) (e : EN) (I : JI) (L : JI) (i1 : Int) (i2 : Int) (i3 : Int) : kf_263 (n + 1) dp e 5 I L i1 i2 i3 = (if 0 ≤ i1 ∧ i1 < 8 then (if 0 ≤ (I 126 i1) ∧ (I 126 i1) < 3 then (if (I 120 (I 126 i1)) ≤ i3 then (kf_263 n dp e 6 I L i1 i2 0) else (if 0 ≤ i1 ∧ i1 < 8 then (if 1 ≤ dp then ((kf_266 n (dp - 1) e 0 I L (I 126 i1) i3 0 0 0).bind (fun ⟨x0_137, I0_137, L0_137⟩ => (if (-2147483648 ≤ i1 + 1 ∧ i1 + 1 ≤ 2147483647) ∧ (-2147483648 ≤ 59049 * (i1 + 1) ∧ 59049 * (i1 + 1) ≤ 2147483647) ∧ (-2147483648 ≤ (59049 * (i1 + 1)) + x0_137 ∧ (59049 * (i1 + 1)) + x0_137 ≤ 2147483647) then (if 0 ≤ ((59049 * (i1 + 1)) + x0_137) ∧ ((59049 * (i1 + 1)) + x0_137) < 531441 then (stI (w2 I0_137 131 ((59049 * (i1 + 1)) + x0_137) 1) (fun I_142 => (if -2147483648 ≤ i3 + 1 ∧ i3 + 1 ≤ 2147483647 then (kf_263 n dp e 5 I_142 L0_137 i1 i2 (i3 + 1)) else none))) else none) else none))) else none) else none)) else none) else none) := by rw [kf_263.eq_2, if_neg (show ¬ ((5 : Nat) = 0) by decide), if_neg (show ¬ ((5 : Nat) = 1) by decide), if_neg (show ¬ ((5 : Nat) = 2) by decide), if_neg (show ¬ ((5 : Nat) = 3) by decide), if_neg (show ¬ ((5 : Nat) = 4) by decide), if_pos (show (5 : Nat) = 5 from rfl)]
set_option maxRecDepth 100000 in
theorem ke_263_6 (n : Nat) (dp : Nat) (e : EN) (I : JI) (L : JI) (i1 : Int) (i2 : Int) (i3 : Int) : kf_263 (n + 1) dp e 6 I L i1 i2 i3 = (if -2147483648 ≤ i2 + 1 ∧ i2 + 1 ≤ 2147483647 then (kf_263 n dp e 4 I L i1 (i2 + 1) 0) else none) := by rw [kf_263.eq_2, if_neg (show ¬ ((6 : Nat) = 0) by decide), if_neg (show ¬ ((6 : Nat) = 1) by decide), if_neg (show ¬ ((6 : Nat) = 2) by decide), if_neg (show ¬ ((6 : Nat) = 3) by decide), if_neg (show ¬ ((6 : Nat) = 4) by decide), if_neg (show ¬ ((6 : Nat) = 5) by decide), if_pos (show (6 : Nat) = 6 from rfl)]
set_option maxRecDepth 100000 in
theorem ke_263_7 (n : Nat) (dp : Nat) (e : EN) (I : JI) (L : JI) (i1 : Int) (i2 : Int) (i3 : Int) : kf_263 (n + 1) dp e 7 I L i1 i2 i3 = (if (I 105 44) ≤ i1 then (if -2147483648 ≤ (I 105 40) - 1 ∧ (I 105 40) - 1 ≤ 2147483647 then (stI ((I 105 40) - 1) (fun v_282 => (kf_263 n dp e 9 I L v_282 0 0))) else none) else (if 1 ≤ dp then ((kf_265 n (dp - 1) e 0 I L i1 0 0).bind (fun ⟨I0_173, L0_173⟩ => (kf_263 n dp e 8 I0_173 L0_173 i1 0 0))) else none)) := by rw [kf_263.eq_2, if_neg (show ¬ ((7 : Nat) = 0) by decide), if_neg (show ¬ ((7 : Nat) = 1) by decide), if_neg (show ¬ ((7 : Nat) = 2) by decide), if_neg (show ¬ ((7 : Nat) = 3) by decide), if_neg (show ¬ ((7 : Nat) = 4) by decide), if_neg (show ¬ ((7 : Nat) = 5) by decide), if_neg (show ¬ ((7 : Nat) = 6) by decide), if_pos (show (7 : Nat) = 7 from rfl)]
set_option maxRecDepth 100000 in
theorem ke_263_8 (n : Nat) (dp : Nat) (e : EN) (I : JI) (L : JI) (i1 : Int) (i2 : Int) (i3 : Int) : kf_263 (n + 1) dp e 8 I L i1 i2 i3 = (if (I 105 43) ≤ i3 then (if (-2147483648 ≤ 59049 * (I 105 40) ∧ 59049 * (I 105 40) ≤ 2147483647) ∧ (-2147483648 ≤ (59049 * (I 105 40)) + i1 ∧ (59049 * (I 105 40)) + i1 ≤ 2147483647) then (if 0 ≤ ((59049 * (I 105 40)) + i1) ∧ ((59049 * (I 105 40)) + i1) < 531441 then (if -2147483648 ≤ (I 105 48) * i2 ∧ (I 105 48) * i2 ≤ 2147483647 then (stI (w2 I 129 ((59049 * (I 105 40)) + i1) ((I 105 48) * i2)) (fun I_253 => (if (-2147483648 ≤ 59049 * (I_253 105 40) ∧ 59049 * (I_253 105 40) ≤ 2147483647) ∧ (-2147483648 ≤ (59049 * (I_253 105 40)) + i1 ∧ (59049 * (I_253 105 40)) + i1 ≤ 2147483647) then (if 0 ≤ ((59049 * (I_253 105 40)) + i1) ∧ ((59049 * (I_253 105 40)) + i1) < 531441 then (stI (w2 I_253 130 ((59049 * (I_253 105 40)) + i1) 1) (fun I_269 => (if -2147483648 ≤ i1 + 1 ∧ i1 + 1 ≤ 2147483647 then (kf_263 n dp e 7 I_269 L (i1 + 1) 0 0) else none))) else none) else none))) else none) else none) else none) else (if 0 ≤ i3 ∧ i3 < 5 then (if 0 ≤ i3 ∧ i3 < 5 then (if -2147483648 ≤ 40 + (I 128 i3) ∧ 40 + (I 128 i3) ≤ 2147483647 then (if 0 ≤ (40 + (I 128 i3)) ∧ (40 + (I 128 i3)) < 1570 then (if 0 ≤ i3 ∧ i3 < 5 then (if -2147483648 ≤ 50 + (I 128 i3) ∧ 50 + (I 128 i3) ≤ 2147483647 then (if 0 ≤ (50 + (I 128 i3)) ∧ (50 + (I 128 i3)) < 1570 then (if (-2147483648 ≤ (I 107 (40 + (I 128 i3))) - (I 107 (50 + (I 128 i3))) ∧ (I 107 (40 + (I 128 i3))) - (I 107 (50 + (I 128 i3))) ≤ 2147483647) ∧ (-2147483648 ≤ (I 133 i3) * ((I 107 (40 + (I 128 i3))) - (I 107 (50 + (I 128 i3)))) ∧ (I 133 i3) * ((I 107 (40 + (I 128 i3))) - (I 107 (50 + (I 128 i3)))) ≤ 2147483647) ∧ (-2147483648 ≤ i2 + ((I 133 i3) * ((I 107 (40 + (I 128 i3))) - (I 107 (50 + (I 128 i3))))) ∧ i2 + ((I 133 i3) * ((I 107 (40 + (I 128 i3))) - (I 107 (50 + (I 128 i3))))) ≤ 2147483647) then (stI (i2 + ((I 133 i3) * ((I 107 (40 + (I 128 i3))) - (I 107 (50 + (I 128 i3)))))) (fun v_226 => (if -2147483648 ≤ i3 + 1 ∧ i3 + 1 ≤ 2147483647 then (kf_263 n dp e 8 I L i1 v_226 (i3 + 1)) else none))) else none) else none) else none) else none) else none) else none) else none) else none)) := by rw [kf_263.eq_2, if_neg (show ¬ ((8 : Nat) = 0) by decide), if_neg (show ¬ ((8 : Nat) = 1) by decide), if_neg (show ¬ ((8 : Nat) = 2) by decide), if_neg (show ¬ ((8 : Nat) = 3) by decide), if_neg (show ¬ ((8 : Nat) = 4) by decide), if_neg (show ¬ ((8 : Nat) = 5) by decide), if_neg (show ¬ ((8 : Nat) = 6) by decide), if_neg (show ¬ ((8 : Nat) = 7) by decide), if_pos (show (8 : Nat) = 8 from rfl)]
set_option maxRecDepth 100000 in
theorem ke_263_9 (n : Nat) (dp : Nat) (e : EN) (I : JI) (L : JI) (i1 : Int) (i2 : Int) (i3 : Int) : kf_263 (n + 1) dp e 9 I L i1 i2 i3 = (if i1 < 0 then (some (((I 129 0) : Int), I, L)) else (kf_263 n dp e 10 I L i1 0 0)) := by rw [kf_263.eq_2, if_neg (show ¬ ((9 : Nat) = 0) by decide), if_neg (show ¬ ((9 : Nat) = 1) by decide), if_neg (show ¬ ((9 : Nat) = 2) by decide), if_neg (show ¬ ((9 : Nat) = 3) by decide), if_neg (show ¬ ((9 : Nat) = 4) by decide), if_neg (show ¬ ((9 : Nat) = 5) by decide), if_neg (show ¬ ((9 : Nat) = 6) by decide), if_neg (show ¬ ((9 : Nat) = 7) by decide), if_neg (show ¬ ((9 : Nat) = 8) by decide), if_pos (show (9 : Nat) = 9 from rfl)]
set_option maxRecDepth 100000 in
theorem ke_263_10 (n : Nat) (dp : Nat) (e : EN) (I : JI) (L : JI) (i1 : Int) (i2 : Int) (i3 : Int) : kf_263 (n + 1) dp e 10 I L i1 i2 i3 = (if (I 105 44) ≤ i2 then (if -2147483648 ≤ i1 + (-1) ∧ i1 + (-1) ≤ 2147483647 then (kf_263 n dp e 9 I L (i1 + (-1)) 0 0) else none) else (if (-2147483648 ≤ 59049 * i1 ∧ 59049 * i1 ≤ 2147483647) ∧ (-2147483648 ≤ (59049 * i1) + i2 ∧ (59049 * i1) + i2 ≤ 2147483647) then (if 0 ≤ ((59049 * i1) + i2) ∧ ((59049 * i1) + i2) < 531441 then (if (I 131 ((59049 * i1) + i2)) = 0 then (kf_263 n dp e 11 I L i1 i2 0) else (if 1 ≤ dp then ((kf_267 n (dp - 1) e 0 I L i1 i2 0 0 0 0 0).bind (fun ⟨I0_315, L0_315⟩ => (kf_263 n dp e 11 I0_315 L0_315 i1 i2 0))) else none)) else none) else none)) := by rw [kf_263.eq_2, if_neg (show ¬ ((10 : Nat) = 0) by decide), if_neg (show ¬ ((10 : Nat) = 1) by decide), if_neg (show ¬ ((10 : Nat) = 2) by decide), if_neg (show ¬ ((10 : Nat) = 3) by decide), if_neg (show ¬ ((10 : Nat) = 4) by decide), if_neg (show ¬ ((10 : Nat) = 5) by decide), if_neg (show ¬ ((10 : Nat) = 6) by decide), if_neg (show ¬ ((10 : Nat) = 7) by decide), if_neg (show ¬ ((10 : Nat) = 8) by decide), if_neg (show ¬ ((10 : Nat) = 9) by decide), if_pos (show (10 : Nat) = 10 from rfl)]
set_option maxRecDepth 100000 in
theorem ke_263_11 (n : Nat) (dp : Nat) (e : EN) (I : JI) (L : JI) (i1 : Int) (i2 : Int) (i3 : Int) : kf_263 (n + 1) dp e 11 I L i1 i2 i3 = (if -2147483648 ≤ i2 + 1 ∧ i2 + 1 ≤ 2147483647 then (kf_263 n dp e 10 I L i1 (i2 + 1) 0) else none) := by rw [kf_263.eq_2, if_neg (show ¬ ((11 : Nat) = 0) by decide), if_neg (show ¬ ((11 : Nat) = 1) by decide), if_neg (show ¬ ((11 : Nat) = 2) by decide), if_neg (show ¬ ((11 : Nat) = 3) by decide), if_neg (show ¬ ((11 : Nat) = 4) by decide), if_neg (show ¬ ((11 : Nat) = 5) by decide), if_neg (show ¬ ((11 : Nat) = 6) by decide), if_neg (show ¬ ((11 : Nat) = 7) by decide), if_neg (show ¬ ((11 : Nat) = 8) by decide), if_neg (show ¬ ((11 : Nat) = 9) by decide), if_neg (show ¬ ((11 : Nat) = 10) by decide), if_pos (show (11 : Nat) = 11 from rfl)]
set_option maxHeartbeats 8000000 in
set_option maxRecDepth 100000 in
theorem ks_263 : ∀ (n : Nat) (dp : Nat) (e : EN) (lab : Nat) (I : Nat → Nat → Int32) (I' : JI) (L : Nat → Nat → Int64) (L' : JI) (i1 : Int32) (i1' : Int) (i2 : Int32) (i2' : Int) (i3 : Int32) (i3' : Int), Rli I I' → Rll L L' → Ui i1 i1' → Ui i2 i2' → Ui i3 i3' → Sim R3 (g_263 n dp e lab I L i1 i2 i3) (kf_263 n dp e lab I' L' i1' i2' i3') := by
  intro n
  induction n with
  | zero => intros; rw [kf_263.eq_1]; exact Sn
  | succ n ih =>
    intro dp e lab I I' L L' i1 i1' i2 i2' i3 i3' u_I u_L u_i1 u_i2 u_i3
    rw [g_263.eq_2, kf_263.eq_2]
    refine Sc Iff.rfl (fun _ => ?_) (fun _ => ?_)
    · refine Sc Iff.rfl (fun c1 => ?_) (fun _ => Sn)
      refine Sb2 (ks_264 n (dp - 1) e 0 _ _ _ _ _ _ u_I u_L (rfl : Ui 0 0)) (fun I0_1 I0_1' L0_1 L0_1' u_I0_1 u_L0_1 => ?_)
      exact (ih dp e 1 _ _ _ _ _ _ _ _ _ _ u_I0_1 u_L0_1 (rfl : Ui (0) (0)) (rfl : Ui 0 0) (rfl : Ui 0 0))
    refine Sc Iff.rfl (fun _ => ?_) (fun _ => ?_)
    · refine Sc (lt_up (u_I 105 40) u_i1) (fun c1 => ?_) (fun c1 => ?_)
      · exact (ih dp e 3 _ _ _ _ _ _ _ _ _ _ u_I u_L (rfl : Ui (0) (0)) (rfl : Ui 0 0) (rfl : Ui 0 0))
      · exact (ih dp e 2 _ _ _ _ _ _ _ _ _ _ u_I u_L u_i1 (rfl : Ui (0) (0)) (rfl : Ui 0 0))
    refine Sc Iff.rfl (fun _ => ?_) (fun _ => ?_)
    · refine Sc (le_up (u_I 105 44) u_i2) (fun c1 => ?_) (fun c1 => ?_)
      · refine Sg (fun g2 => ?_)
        exact (ih dp e 1 _ _ _ _ _ _ _ _ _ _ u_I u_L (ui_add u_i1 (rfl : Ui (Int32.ofInt (1)) (1)) g2) (rfl : Ui 0 0) (rfl : Ui 0 0))
      · refine Sc (eq_up u_i1 (rfl : Ui 0 0)) (fun c3 => ?_) (fun c3 => ?_)
        · refine Sc (eq_up u_i2 (rfl : Ui 0 0)) (fun c4 => ?_) (fun c4 => ?_)
          · refine Sg (fun g5 => ?_)
            refine Sc (ix_up (ui_add (ui_mul (rfl : Ui (59049) (59049)) u_i1 g5.1) u_i2 g5.2)) (fun c6 => ?_) (fun _ => Sn)
            refine SsJ (ri_up u_I (kc_up (ui_add (ui_mul (rfl : Ui (59049) (59049)) u_i1 g5.1) u_i2 g5.2) c6.1) (rfl : Ui (1) (1))) (fun I_48 I_48' u_I_48 => ?_)
            refine Sg (fun g7 => ?_)
            exact (ih dp e 2 _ _ _ _ _ _ _ _ _ _ u_I_48 u_L u_i1 (ui_add u_i2 (rfl : Ui (Int32.ofInt (1)) (1)) g7) (rfl : Ui 0 0))
          · refine Sg (fun g8 => ?_)
            refine Sc (ix_up (ui_add (ui_mul (rfl : Ui (59049) (59049)) u_i1 g8.1) u_i2 g8.2)) (fun c9 => ?_) (fun _ => Sn)
            refine SsJ (ri_up u_I (kc_up (ui_add (ui_mul (rfl : Ui (59049) (59049)) u_i1 g8.1) u_i2 g8.2) c9.1) (rfl : Ui (0) (0))) (fun I_48 I_48' u_I_48 => ?_)
            refine Sg (fun g10 => ?_)
            exact (ih dp e 2 _ _ _ _ _ _ _ _ _ _ u_I_48 u_L u_i1 (ui_add u_i2 (rfl : Ui (Int32.ofInt (1)) (1)) g10) (rfl : Ui 0 0))
        · refine Sg (fun g11 => ?_)
          refine Sc (ix_up (ui_add (ui_mul (rfl : Ui (59049) (59049)) u_i1 g11.1) u_i2 g11.2)) (fun c12 => ?_) (fun _ => Sn)
          refine SsJ (ri_up u_I (kc_up (ui_add (ui_mul (rfl : Ui (59049) (59049)) u_i1 g11.1) u_i2 g11.2) c12.1) (rfl : Ui (0) (0))) (fun I_48 I_48' u_I_48 => ?_)
          refine Sg (fun g13 => ?_)
          exact (ih dp e 2 _ _ _ _ _ _ _ _ _ _ u_I_48 u_L u_i1 (ui_add u_i2 (rfl : Ui (Int32.ofInt (1)) (1)) g13) (rfl : Ui 0 0))
    refine Sc Iff.rfl (fun _ => ?_) (fun _ => ?_)
    · refine Sc (le_up (u_I 105 40) u_i1) (fun c1 => ?_) (fun c1 => ?_)
      · exact (ih dp e 7 _ _ _ _ _ _ _ _ _ _ u_I u_L (rfl : Ui (0) (0)) (rfl : Ui 0 0) (rfl : Ui 0 0))
      · exact (ih dp e 4 _ _ _ _ _ _ _ _ _ _ u_I u_L u_i1 (rfl : Ui (0) (0)) (rfl : Ui 0 0))
    refine Sc Iff.rfl (fun _ => ?_) (fun _ => ?_)
    · refine Sc (le_up (u_I 105 44) u_i2) (fun c1 => ?_) (fun c1 => ?_)
      · refine Sg (fun g2 => ?_)
        exact (ih dp e 3 _ _ _ _ _ _ _ _ _ _ u_I u_L (ui_add u_i1 (rfl : Ui (Int32.ofInt (1)) (1)) g2) (rfl : Ui 0 0) (rfl : Ui 0 0))
      · refine Sg (fun g3 => ?_)
        refine Sc (ix_up (ui_add (ui_mul (rfl : Ui (59049) (59049)) u_i1 g3.1) u_i2 g3.2)) (fun c4 => ?_) (fun _ => Sn)
        refine Sc (eq_up (ui_rd (a := 131) u_I (ui_add (ui_mul (rfl : Ui (59049) (59049)) u_i1 g3.1) u_i2 g3.2) c4.1) (rfl : Ui 0 0)) (fun c5 => ?_) (fun c5 => ?_)
        · exact (ih dp e 6 _ _ _ _ _ _ _ _ _ _ u_I u_L u_i1 u_i2 (rfl : Ui 0 0))
        · refine Sc Iff.rfl (fun c6 => ?_) (fun _ => Sn)
          refine Sb2 (ks_265 n (dp - 1) e 0 _ _ _ _ _ _ _ _ _ _ u_I u_L u_i2 (rfl : Ui 0 0) (rfl : Ui 0 0)) (fun I0_98 I0_98' L0_98 L0_98' u_I0_98 u_L0_98 => ?_)
          exact (ih dp e 5 _ _ _ _ _ _ _ _ _ _ u_I0_98 u_L0_98 u_i1 u_i2 (rfl : Ui (0) (0)))
    refine Sc Iff.rfl (fun _ => ?_) (fun _ => ?_)
    · refine Sc (ix_up u_i1) (fun c1 => ?_) (fun _ => Sn)
      refine Sc (ix_up (ui_rd (a := 126) u_I u_i1 c1.1)) (fun c2 => ?_) (fun _ => Sn)
      refine Sc (le_up (ui_rd (a := 120) u_I (ui_rd (a := 126) u_I u_i1 c1.1) c2.1) u_i3) (fun c3 => ?_) (fun c3 => ?_)
      · exact (ih dp e 6 _ _ _ _ _ _ _ _ _ _ u_I u_L u_i1 u_i2 (rfl : Ui 0 0))
      · refine Sc (ix_up u_i1) (fun c4 => ?_) (fun _ => Sn)
        refine Sc Iff.rfl (fun c5 => ?_) (fun _ => Sn)
        refine Sb3 (ks_266 n (dp - 1) e 0 _ _ _ _ _ _ _ _ _ _ _ _ _ _ u_I u_L (ui_rd (a := 126) u_I u_i1 c4.1) u_i3 (rfl : Ui 0 0) (rfl : Ui 0 0) (rfl : Ui 0 0)) (fun x0_137 x0_137' I0_137 I0_137' L0_137 L0_137' u_x0_137 u_I0_137 u_L0_137 => ?_)
        refine Sg (fun g6 => ?_)
        refine Sc (ix_up (ui_add (ui_mul (rfl : Ui (59049) (59049)) (ui_add u_i1 (rfl : Ui (1) (1)) g6.1) g6.2.1) u_x0_137 g6.2.2)) (fun c7 => ?_) (fun _ => Sn)
        refine SsJ (ri_up u_I0_137 (kc_up (ui_add (ui_mul (rfl : Ui (59049) (59049)) (ui_add u_i1 (rfl : Ui (1) (1)) g6.1) g6.2.1) u_x0_137 g6.2.2) c7.1) (rfl : Ui (1) (1))) (fun I_142 I_142' u_I_142 => ?_)
        refine Sg (fun g8 => ?_)
        exact (ih dp e 5 _ _ _ _ _ _ _ _ _ _ u_I_142 u_L0_137 u_i1 u_i2 (ui_add u_i3 (rfl : Ui (Int32.ofInt (1)) (1)) g8))
    refine Sc Iff.rfl (fun _ => ?_) (fun _ => ?_)
    · refine Sg (fun g1 => ?_)
      exact (ih dp e 4 _ _ _ _ _ _ _ _ _ _ u_I u_L u_i1 (ui_add u_i2 (rfl : Ui (Int32.ofInt (1)) (1)) g1) (rfl : Ui 0 0))
    refine Sc Iff.rfl (fun _ => ?_) (fun _ => ?_)
    · refine Sc (le_up (u_I 105 44) u_i1) (fun c1 => ?_) (fun c1 => ?_)
      · refine Sg (fun g2 => ?_)
        refine SsI (ui_sub (u_I 105 40) (rfl : Ui (1) (1)) g2) (fun v_282 v_282' u_v_282 => ?_)
        exact (ih dp e 9 _ _ _ _ _ _ _ _ _ _ u_I u_L u_v_282 (rfl : Ui 0 0) (rfl : Ui 0 0))
      · refine Sc Iff.rfl (fun c3 => ?_) (fun _ => Sn)
        refine Sb2 (ks_265 n (dp - 1) e 0 _ _ _ _ _ _ _ _ _ _ u_I u_L u_i1 (rfl : Ui 0 0) (rfl : Ui 0 0)) (fun I0_173 I0_173' L0_173 L0_173' u_I0_173 u_L0_173 => ?_)
        exact (ih dp e 8 _ _ _ _ _ _ _ _ _ _ u_I0_173 u_L0_173 u_i1 (rfl : Ui (0) (0)) (rfl : Ui (0) (0)))
    refine Sc Iff.rfl (fun _ => ?_) (fun _ => ?_)
    · refine Sc (le_up (u_I 105 43) u_i3) (fun c1 => ?_) (fun c1 => ?_)
      · refine Sg (fun g2 => ?_)
        refine Sc (ix_up (ui_add (ui_mul (rfl : Ui (59049) (59049)) (u_I 105 40) g2.1) u_i1 g2.2)) (fun c3 => ?_) (fun _ => Sn)
        refine Sg (fun g4 => ?_)
        refine SsJ (ri_up u_I (kc_up (ui_add (ui_mul (rfl : Ui (59049) (59049)) (u_I 105 40) g2.1) u_i1 g2.2) c3.1) (ui_mul (u_I 105 48) u_i2 g4)) (fun I_253 I_253' u_I_253 => ?_)
        refine Sg (fun g5 => ?_)
        refine Sc (ix_up (ui_add (ui_mul (rfl : Ui (59049) (59049)) (u_I_253 105 40) g5.1) u_i1 g5.2)) (fun c6 => ?_) (fun _ => Sn)
        refine SsJ (ri_up u_I_253 (kc_up (ui_add (ui_mul (rfl : Ui (59049) (59049)) (u_I_253 105 40) g5.1) u_i1 g5.2) c6.1) (rfl : Ui (1) (1))) (fun I_269 I_269' u_I_269 => ?_)
        refine Sg (fun g7 => ?_)
        exact (ih dp e 7 _ _ _ _ _ _ _ _ _ _ u_I_269 u_L (ui_add u_i1 (rfl : Ui (Int32.ofInt (1)) (1)) g7) (rfl : Ui 0 0) (rfl : Ui 0 0))
      · refine Sc (ix_up u_i3) (fun c8 => ?_) (fun _ => Sn)
        refine Sc (ix_up u_i3) (fun c9 => ?_) (fun _ => Sn)
        refine Sg (fun g10 => ?_)
        refine Sc (ix_up (ui_add (rfl : Ui (40) (40)) (ui_rd (a := 128) u_I u_i3 c9.1) g10)) (fun c11 => ?_) (fun _ => Sn)
        refine Sc (ix_up u_i3) (fun c12 => ?_) (fun _ => Sn)
        refine Sg (fun g13 => ?_)
        refine Sc (ix_up (ui_add (rfl : Ui (50) (50)) (ui_rd (a := 128) u_I u_i3 c12.1) g13)) (fun c14 => ?_) (fun _ => Sn)
        refine Sg (fun g15 => ?_)
        refine SsI (ui_add u_i2 (ui_mul (ui_rd (a := 133) u_I u_i3 c12.1) (ui_sub (ui_rd (a := 107) u_I (ui_add (rfl : Ui (40) (40)) (ui_rd (a := 128) u_I u_i3 c12.1) g10) c11.1) (ui_rd (a := 107) u_I (ui_add (rfl : Ui (50) (50)) (ui_rd (a := 128) u_I u_i3 c12.1) g13) c14.1) g15.1) g15.2.1) g15.2.2) (fun v_226 v_226' u_v_226 => ?_)
        refine Sg (fun g16 => ?_)
        exact (ih dp e 8 _ _ _ _ _ _ _ _ _ _ u_I u_L u_i1 u_v_226 (ui_add u_i3 (rfl : Ui (Int32.ofInt (1)) (1)) g16))
    refine Sc Iff.rfl (fun _ => ?_) (fun _ => ?_)
    · refine Sc (lt_up u_i1 (rfl : Ui 0 0)) (fun c1 => ?_) (fun c1 => ?_)
      · exact Sr ⟨(u_I 129 0), u_I, u_L⟩
      · exact (ih dp e 10 _ _ _ _ _ _ _ _ _ _ u_I u_L u_i1 (rfl : Ui (0) (0)) (rfl : Ui 0 0))
    refine Sc Iff.rfl (fun _ => ?_) (fun _ => ?_)
    · refine Sc (le_up (u_I 105 44) u_i2) (fun c1 => ?_) (fun c1 => ?_)
      · refine Sg (fun g2 => ?_)
        exact (ih dp e 9 _ _ _ _ _ _ _ _ _ _ u_I u_L (ui_add u_i1 (rfl : Ui (Int32.ofInt (-1)) (-1)) g2) (rfl : Ui 0 0) (rfl : Ui 0 0))
      · refine Sg (fun g3 => ?_)
        refine Sc (ix_up (ui_add (ui_mul (rfl : Ui (59049) (59049)) u_i1 g3.1) u_i2 g3.2)) (fun c4 => ?_) (fun _ => Sn)
        refine Sc (eq_up (ui_rd (a := 131) u_I (ui_add (ui_mul (rfl : Ui (59049) (59049)) u_i1 g3.1) u_i2 g3.2) c4.1) (rfl : Ui 0 0)) (fun c5 => ?_) (fun c5 => ?_)
        · exact (ih dp e 11 _ _ _ _ _ _ _ _ _ _ u_I u_L u_i1 u_i2 (rfl : Ui 0 0))
        · refine Sc Iff.rfl (fun c6 => ?_) (fun _ => Sn)
          refine Sb2 (ks_267 n (dp - 1) e 0 _ _ _ _ _ _ _ _ _ _ _ _ _ _ _ _ _ _ u_I u_L u_i1 u_i2 (rfl : Ui 0 0) (rfl : Ui 0 0) (rfl : Ui 0 0) (rfl : Ui 0 0) (rfl : Ul 0 0)) (fun I0_315 I0_315' L0_315 L0_315' u_I0_315 u_L0_315 => ?_)
          exact (ih dp e 11 _ _ _ _ _ _ _ _ _ _ u_I0_315 u_L0_315 u_i1 u_i2 (rfl : Ui 0 0))
    refine Sc Iff.rfl (fun _ => ?_) (fun _ => ?_)
    · refine Sg (fun g1 => ?_)
      exact (ih dp e 10 _ _ _ _ _ _ _ _ _ _ u_I u_L u_i1 (ui_add u_i2 (rfl : Ui (Int32.ofInt (1)) (1)) g1) (rfl : Ui 0 0))
    exact Sn
set_option maxHeartbeats 4000000 in
set_option maxRecDepth 100000 in
def kf_261 : Nat → Nat → EN → Nat → JI → JI → Int → Int → Int → Int → Option (Int × JI × JI)
  | 0, _, _, _, _, _, _, _, _, _ => none
  | n + 1, dp, e, lab, I, L, i1, i2, i3, i4 =>
    if lab = 0 then (if (I 105 51) = 0 then (stI (w2 I 105 51 1) (fun I_14 => (if 1 ≤ dp then ((kf_262 n (dp - 1) e 0 I_14 L (I_14 107 0) (I_14 107 1) (I_14 107 2) 0 0 0).bind (fun ⟨x0_37, I0_37, L0_37⟩ => (if (x0_37 = 0) ∨ (x0_37 = 1) then (stI (w2 I0_37 105 52 x0_37) (fun I_40 => (if (I_40 105 52) = 0 then (some ((0 : Int), I_40, L0_37)) else (if 1 ≤ dp then ((kf_263 n (dp - 1) e 0 I_40 L0_37 0 0 0).bind (fun ⟨x1_54, I1_54, L1_54⟩ => (stI (w2 I1_54 105 53 x1_54) (fun I_57 => (stI (w2 I_57 105 54 (I_57 130 0)) (fun I_67 => (kf_261 n dp e 1 I_67 L1_54 0 0 0 0))))))) else none)))) else none))) else none))) else (if ((I 105 52) = 0) ∨ ((I 105 52) = 1) then (some (((I 105 52) : Int), I, L)) else none))
    else if lab = 1 then (if 10 ≤ i2 then (kf_261 n dp e 2 I L i1 0 0 0) else (if 0 ≤ i2 ∧ i2 < 10 then (stI (w2 I 135 i2 0) (fun I_86 => (if -2147483648 ≤ i2 + 1 ∧ i2 + 1 ≤ 2147483647 then (kf_261 n dp e 1 I_86 L i1 (i2 + 1) 0 0) else none))) else none))
    else if lab = 2 then (if (I 105 40) ≤ i2 then (some ((1 : Int), I, L)) else (if 1 ≤ dp then ((kf_265 n (dp - 1) e 0 I L i1 0 0).bind (fun ⟨I0_105, L0_105⟩ => (kf_261 n dp e 3 I0_105 L0_105 i1 i2 0 0))) else none))
    else if lab = 3 then (if 1 ≤ dp then ((kf_268 n (dp - 1) e 0 I L i2 i3).bind (fun ⟨x0_113, I0_113, L0_113⟩ => (if 0 ≤ i2 ∧ i2 < 8 then (if 1 ≤ dp then ((kf_266 n (dp - 1) e 0 I0_113 L0_113 (I0_113 126 i2) i3 0 0 0).bind (fun ⟨x1_135, I1_135, L1_135⟩ => (if (-2147483648 ≤ i2 + 1 ∧ i2 + 1 ≤ 2147483647) ∧ (-2147483648 ≤ 59049 * (i2 + 1) ∧ 59049 * (i2 + 1) ≤ 2147483647) ∧ (-2147483648 ≤ (59049 * (i2 + 1)) + x1_135 ∧ (59049 * (i2 + 1)) + x1_135 ≤ 2147483647) then (if 0 ≤ ((59049 * (i2 + 1)) + x1_135) ∧ ((59049 * (i2 + 1)) + x1_135) < 531441 then (if (-2147483648 ≤ 59049 * i2 ∧ 59049 * i2 ≤ 2147483647) ∧ (-2147483648 ≤ (59049 * i2) + i1 ∧ (59049 * i2) + i1 ≤ 2147483647) then (if 0 ≤ ((59049 * i2) + i1) ∧ ((59049 * i2) + i1) < 531441 then (if -2147483648 ≤ x0_113 + (I1_135 129 ((59049 * (i2 + 1)) + x1_135)) ∧ x0_113 + (I1_135 129 ((59049 * (i2 + 1)) + x1_135)) ≤ 2147483647 then (if (x0_113 + (I1_135 129 ((59049 * (i2 + 1)) + x1_135))) = (I1_135 129 ((59049 * i2) + i1)) then (if 0 ≤ i2 ∧ i2 < 8 then (stI (w2 I1_135 134 i2 i3) (fun I_168 => (if 0 ≤ i2 ∧ i2 < 8 then (if 1 ≤ dp then ((kf_266 n (dp - 1) e 0 I_168 L1_135 (I_168 126 i2) i3 0 0 0).bind (fun ⟨x2_177, I2_177, L2_177⟩ => (kf_261 n dp e 4 I2_177 L2_177 x2_177 i2 i3 0))) else none) else none))) else none) else (if -2147483648 ≤ i3 + 1 ∧ i3 + 1 ≤ 2147483647 then (kf_261 n dp e 3 I1_135 L1_135 i1 i2 (i3 + 1) 0) else none)) else none) else none) else none) else none) else none))) else none) else none))) else none)
    else if lab = 4 then (if 10 ≤ i4 then (if -2147483648 ≤ i2 + 1 ∧ i2 + 1 ≤ 2147483647 then (kf_261 n dp e 2 I L i1 (i2 + 1) 0 0) else none) else (if 0 ≤ i4 ∧ i4 < 10 then (if 0 ≤ i2 ∧ i2 < 8 then (if (-2147483648 ≤ 640 * (I 126 i2) ∧ 640 * (I 126 i2) ≤ 2147483647) ∧ (-2147483648 ≤ 10 * i3 ∧ 10 * i3 ≤ 2147483647) ∧ (-2147483648 ≤ (640 * (I 126 i2)) + (10 * i3) ∧ (640 * (I 126 i2)) + (10 * i3) ≤ 2147483647) ∧ (-2147483648 ≤ ((640 * (I 126 i2)) + (10 * i3)) + i4 ∧ ((640 * (I 126 i2)) + (10 * i3)) + i4 ≤ 2147483647) then (if 0 ≤ (((640 * (I 126 i2)) + (10 * i3)) + i4) ∧ (((640 * (I 126 i2)) + (10 * i3)) + i4) < 1920 then (if 0 ≤ i4 ∧ i4 < 10 then (if -2147483648 ≤ (I 135 i4) + (I 122 (((640 * (I 126 i2)) + (10 * i3)) + i4)) ∧ (I 135 i4) + (I 122 (((640 * (I 126 i2)) + (10 * i3)) + i4)) ≤ 2147483647 then (stI (w2 I 135 i4 ((I 135 i4) + (I 122 (((640 * (I 126 i2)) + (10 * i3)) + i4)))) (fun I_223 => (if -2147483648 ≤ i4 + 1 ∧ i4 + 1 ≤ 2147483647 then (kf_261 n dp e 4 I_223 L i1 i2 i3 (i4 + 1)) else none))) else none) else none) else none) else none) else none) else none))
    else none
set_option maxRecDepth 100000 in
theorem ke_261_0 (n : Nat) (dp : Nat) (e : EN) (I : JI) (L : JI) (i1 : Int) (i2 : Int) (i3 : Int) (i4 : Int) : kf_261 (n + 1) dp e 0 I L i1 i2 i3 i4 = (if (I 105 51) = 0 then (stI (w2 I 105 51 1) (fun I_14 => (if 1 ≤ dp then ((kf_262 n (dp - 1) e 0 I_14 L (I_14 107 0) (I_14 107 1) (I_14 107 2) 0 0 0).bind (fun ⟨x0_37, I0_37, L0_37⟩ => (if (x0_37 = 0) ∨ (x0_37 = 1) then (stI (w2 I0_37 105 52 x0_37) (fun I_40 => (if (I_40 105 52) = 0 then (some ((0 : Int), I_40, L0_37)) else (if 1 ≤ dp then ((kf_263 n (dp - 1) e 0 I_40 L0_37 0 0 0).bind (fun ⟨x1_54, I1_54, L1_54⟩ => (stI (w2 I1_54 105 53 x1_54) (fun I_57 => (stI (w2 I_57 105 54 (I_57 130 0)) (fun I_67 => (kf_261 n dp e 1 I_67 L1_54 0 0 0 0))))))) else none)))) else none))) else none))) else (if ((I 105 52) = 0) ∨ ((I 105 52) = 1) then (some (((I 105 52) : Int), I, L)) else none)) := by rw [kf_261.eq_2, if_pos (show (0 : Nat) = 0 from rfl)]
set_option maxRecDepth 100000 in
theorem ke_261_1 (n : Nat) (dp : Nat) (e : EN) (I : JI) (L : JI) (i1 : Int) (i2 : Int) (i3 : Int) (i4 : Int) : kf_261 (n + 1) dp e 1 I L i1 i2 i3 i4 = (if 10 ≤ i2 then (kf_261 n dp e 2 I L i1 0 0 0) else (if 0 ≤ i2 ∧ i2 < 10 then (stI (w2 I 135 i2 0) (fun I_86 => (if -2147483648 ≤ i2 + 1 ∧ i2 + 1 ≤ 2147483647 then (kf_261 n dp e 1 I_86 L i1 (i2 + 1) 0 0) else none))) else none)) := by rw [kf_261.eq_2, if_neg (show ¬ ((1 : Nat) = 0) by decide), if_pos (show (1 : Nat) = 1 from rfl)]
set_option maxRecDepth 100000 in
theorem ke_261_2 (n : Nat) (dp : Nat) (e : EN) (I : JI) (L : JI) (i1 : Int) (i2 : Int) (i3 : Int) (i4 : Int) : kf_261 (n + 1) dp e 2 I L i1 i2 i3 i4 = (if (I 105 40) ≤ i2 then (some ((1 : Int), I, L)) else (if 1 ≤ dp then ((kf_265 n (dp - 1) e 0 I L i1 0 0).bind (fun ⟨I0_105, L0_105⟩ => (kf_261 n dp e 3 I0_105 L0_105 i1 i2 0 0))) else none)) := by rw [kf_261.eq_2, if_neg (show ¬ ((2 : Nat) = 0) by decide), if_neg (show ¬ ((2 : Nat) = 1) by decide), if_pos (show (2 : Nat) = 2 from rfl)]
set_option maxRecDepth 100000 in
theorem ke_261_3 (n : Nat) (dp : Nat) (e : EN) (I : JI) (L : JI) (i1 : Int) (i2 : Int) (i3 : Int) (i4 : Int) : kf_261 (n + 1) dp e 3 I L i1 i2 i3 i4 = (if 1 ≤ dp then ((kf_268 n (dp - 1) e 0 I L i2 i3).bind (fun ⟨x0_113, I0_113, L0_113⟩ => (if 0 ≤ i2 ∧ i2 < 8 then (if 1 ≤ dp then ((kf_266 n (dp - 1) e 0 I0_113 L0_113 (I0_113 126 i2) i3 0 0 0).bind (fun ⟨x1_135, I1_135, L1_135⟩ => (if (-2147483648 ≤ i2 + 1 ∧ i2 + 1 ≤ 2147483647) ∧ (-2147483648 ≤ 59049 * (i2 + 1) ∧ 59049 * (i2 + 1) ≤ 2147483647) ∧ (-2147483648 ≤ (59049 * (i2 + 1)) + x1_135 ∧ (59049 * (i2 + 1)) + x1_135 ≤ 2147483647) then (if 0 ≤ ((59049 * (i2 + 1)) + x1_135) ∧ ((59049 * (i2 + 1)) + x1_135) < 531441 then (if (-2147483648 ≤ 59049 * i2 ∧ 59049 * i2 ≤ 2147483647) ∧ (-2147483648 ≤ (59049 * i2) + i1 ∧ (59049 * i2) + i1 ≤ 2147483647) then (if 0 ≤ ((59049 * i2) + i1) ∧ ((59049 * i2) + i1) < 531441 then (if -2147483648 ≤ x0_113 + (I1_135 129 ((59049 * (i2 + 1)) + x1_135)) ∧ x0_113 + (I1_135 129 ((59049 * (i2 + 1)) + x1_135)) ≤ 2147483647 then (if (x0_113 + (I1_135 129 ((59049 * (i2 + 1)) + x1_135))) = (I1_135 129 ((59049 * i2) + i1)) then (if 0 ≤ i2 ∧ i2 < 8 then (stI (w2 I1_135 134 i2 i3) (fun I_168 => (if 0 ≤ i2 ∧ i2 < 8 then (if 1 ≤ dp then ((kf_266 n (dp - 1) e 0 I_168 L1_135 (I_168 126 i2) i3 0 0 0).bind (fun ⟨x2_177, I2_177, L2_177⟩ => (kf_261 n dp e 4 I2_177 L2_177 x2_177 i2 i3 0))) else none) else none))) else none) else (if -2147483648 ≤ i3 + 1 ∧ i3 + 1 ≤ 2147483647 then (kf_261 n dp e 3 I1_135 L1_135 i1 i2 (i3 + 1) 0) else none)) else none) else none) else none) else none) else none))) else none) else none))) else none) := by rw [kf_261.eq_2, if_neg (show ¬ ((3 : Nat) = 0) by decide), if_neg (show ¬ ((3 : Nat) = 1) by decide), if_neg (show ¬ ((3 : Nat) = 2) by decide), if_pos (show (3 : Nat) = 3 from rfl)]
set_option maxRecDepth 100000 in
theorem ke_261_4 (n : Nat) (dp : Nat) (e : EN) (I : JI) (L : JI) (i1 : Int) (i2 : Int) (i3 : Int) (i4 : Int) : kf_261 (n + 1) dp e 4 I L i1 i2 i3 i4 = (if 10 ≤ i4 then (if -2147483648 ≤ i2 + 1 ∧ i2 + 1 ≤ 2147483647 then (kf_261 n dp e 2 I L i1 (i2 + 1) 0 0) else none) else (if 0 ≤ i4 ∧ i4 < 10 then (if 0 ≤ i2 ∧ i2 < 8 then (if (-2147483648 ≤ 640 * (I 126 i2) ∧ 640 * (I 126 i2) ≤ 2147483647) ∧ (-2147483648 ≤ 10 * i3 ∧ 10 * i3 ≤ 2147483647) ∧ (-2147483648 ≤ (640 * (I 126 i2)) + (10 * i3) ∧ (640 * (I 126 i2)) + (10 * i3) ≤ 2147483647) ∧ (-2147483648 ≤ ((640 * (I 126 i2)) + (10 * i3)) + i4 ∧ ((640 * (I 126 i2)) + (10 * i3)) + i4 ≤ 2147483647) then (if 0 ≤ (((640 * (I 126 i2)) + (10 * i3)) + i4) ∧ (((640 * (I 126 i2)) + (10 * i3)) + i4) < 1920 then (if 0 ≤ i4 ∧ i4 < 10 then (if -2147483648 ≤ (I 135 i4) + (I 122 (((640 * (I 126 i2)) + (10 * i3)) + i4)) ∧ (I 135 i4) + (I 122 (((640 * (I 126 i2)) + (10 * i3)) + i4)) ≤ 2147483647 then (stI (w2 I 135 i4 ((I 135 i4) + (I 122 (((640 * (I 126 i2)) + (10 * i3)) + i4)))) (fun I_223 => (if -2147483648 ≤ i4 + 1 ∧ i4 + 1 ≤ 2147483647 then (kf_261 n dp e 4 I_223 L i1 i2 i3 (i4 + 1)) else none))) else none) else none) else none) else none) else none) else none)) := by rw [kf_261.eq_2, if_neg (show ¬ ((4 : Nat) = 0) by decide), if_neg (show ¬ ((4 : Nat) = 1) by decide), if_neg (show ¬ ((4 : Nat) = 2) by decide), if_neg (show ¬ ((4 : Nat) = 3) by decide), if_pos (show (4 : Nat) = 4 from rfl)]
set_option maxHeartbeats 8000000 in
set_option maxRecDepth 100000 in
theorem ks_261 : ∀ (n : Nat) (dp : Nat) (e : EN) (lab : Nat) (I : Nat → Nat → Int32) (I' : JI) (L : Nat → Nat → Int64) (L' : JI) (i1 : Int32) (i1' : Int) (i2 : Int32) (i2' : Int) (i3 : Int32) (i3' : Int) (i4 : Int32) (i4' : Int), Rli I I' → Rll L L' → Ui i1 i1' → Ui i2 i2' → Ui i3 i3' → Ui i4 i4' → Sim R3 (g_261 n dp e lab I L i1 i2 i3 i4) (kf_261 n dp e lab I' L' i1' i2' i3' i4') := by
  intro n
  induction n with
  | zero => intros; rw [kf_261.eq_1]; exact Sn
  | succ n ih =>
    intro dp e lab I I' L L' i1 i1' i2 i2' i3 i3' i4 i4' u_I u_L u_i1 u_i2 u_i3 u_i4
    rw [g_261.eq_2, kf_261.eq_2]
    refine Sc Iff.rfl (fun _ => ?_) (fun _ => ?_)
    · refine Sc (eq_up (u_I 105 51) (rfl : Ui 0 0)) (fun c1 => ?_) (fun c1 => ?_)
      · refine SsJ (ri_up u_I (rfl : ((51 : Nat) : Int) = 51) (rfl : Ui (1) (1))) (fun I_14 I_14' u_I_14 => ?_)
        refine Sc Iff.rfl (fun c2 => ?_) (fun _ => Sn)
        refine Sb3 (ks_262 n (dp - 1) e 0 _ _ _ _ _ _ _ _ _ _ _ _ _ _ _ _ u_I_14 u_L (u_I_14 107 0) (u_I_14 107 1) (u_I_14 107 2) (rfl : Ui 0 0) (rfl : Ui 0 0) (rfl : Ui 0 0)) (fun x0_37 x0_37' I0_37 I0_37' L0_37 L0_37' u_x0_37 u_I0_37 u_L0_37 => ?_)
        refine Sc (or_congr (eq_up u_x0_37 (rfl : Ui 0 0)) (eq_up u_x0_37 (rfl : Ui 1 1))) (fun c3 => ?_) (fun _ => Sn)
        refine SsJ (ri_up u_I0_37 (rfl : ((52 : Nat) : Int) = 52) u_x0_37) (fun I_40 I_40' u_I_40 => ?_)
        refine Sc (eq_up (u_I_40 105 52) (rfl : Ui 0 0)) (fun c4 => ?_) (fun c4 => ?_)
        · exact Sr ⟨(rfl : Ui (0) (0)), u_I_40, u_L0_37⟩
        · refine Sc Iff.rfl (fun c5 => ?_) (fun _ => Sn)
          refine Sb3 (ks_263 n (dp - 1) e 0 _ _ _ _ _ _ _ _ _ _ u_I_40 u_L0_37 (rfl : Ui 0 0) (rfl : Ui 0 0) (rfl : Ui 0 0)) (fun x1_54 x1_54' I1_54 I1_54' L1_54 L1_54' u_x1_54 u_I1_54 u_L1_54 => ?_)
          refine SsJ (ri_up u_I1_54 (rfl : ((53 : Nat) : Int) = 53) u_x1_54) (fun I_57 I_57' u_I_57 => ?_)
          refine SsJ (ri_up u_I_57 (rfl : ((54 : Nat) : Int) = 54) (u_I_57 130 0)) (fun I_67 I_67' u_I_67 => ?_)
          exact (ih dp e 1 _ _ _ _ _ _ _ _ _ _ _ _ u_I_67 u_L1_54 (rfl : Ui (0) (0)) (rfl : Ui (0) (0)) (rfl : Ui 0 0) (rfl : Ui 0 0))
      · refine Sc (or_congr (eq_up (u_I 105 52) (rfl : Ui 0 0)) (eq_up (u_I 105 52) (rfl : Ui 1 1))) (fun c6 => ?_) (fun _ => Sn)
        exact Sr ⟨(u_I 105 52), u_I, u_L⟩
    refine Sc Iff.rfl (fun _ => ?_) (fun _ => ?_)
    · refine Sc (le_up (rfl : Ui (10) (10)) u_i2) (fun c1 => ?_) (fun c1 => ?_)
      · exact (ih dp e 2 _ _ _ _ _ _ _ _ _ _ _ _ u_I u_L u_i1 (rfl : Ui (0) (0)) (rfl : Ui 0 0) (rfl : Ui 0 0))
      · refine Sc (ix_up u_i2) (fun c2 => ?_) (fun _ => Sn)
        refine SsJ (ri_up u_I (kc_up u_i2 c2.1) (rfl : Ui (0) (0))) (fun I_86 I_86' u_I_86 => ?_)
        refine Sg (fun g3 => ?_)
        exact (ih dp e 1 _ _ _ _ _ _ _ _ _ _ _ _ u_I_86 u_L u_i1 (ui_add u_i2 (rfl : Ui (Int32.ofInt (1)) (1)) g3) (rfl : Ui 0 0) (rfl : Ui 0 0))
    refine Sc Iff.rfl (fun _ => ?_) (fun _ => ?_)
    · refine Sc (le_up (u_I 105 40) u_i2) (fun c1 => ?_) (fun c1 => ?_)
      · exact Sr ⟨(rfl : Ui (1) (1)), u_I, u_L⟩
      · refine Sc Iff.rfl (fun c2 => ?_) (fun _ => Sn)
        refine Sb2 (ks_265 n (dp - 1) e 0 _ _ _ _ _ _ _ _ _ _ u_I u_L u_i1 (rfl : Ui 0 0) (rfl : Ui 0 0)) (fun I0_105 I0_105' L0_105 L0_105' u_I0_105 u_L0_105 => ?_)
        exact (ih dp e 3 _ _ _ _ _ _ _ _ _ _ _ _ u_I0_105 u_L0_105 u_i1 u_i2 (rfl : Ui (0) (0)) (rfl : Ui 0 0))
    refine Sc Iff.rfl (fun _ => ?_) (fun _ => ?_)
    · refine Sc Iff.rfl (fun c1 => ?_) (fun _ => Sn)
      refine Sb3 (ks_268 n (dp - 1) e 0 _ _ _ _ _ _ _ _ u_I u_L u_i2 u_i3) (fun x0_113 x0_113' I0_113 I0_113' L0_113 L0_113' u_x0_113 u_I0_113 u_L0_113 => ?_)
      refine Sc (ix_up u_i2) (fun c2 => ?_) (fun _ => Sn)
      refine Sc Iff.rfl (fun c3 => ?_) (fun _ => Sn)
      refine Sb3 (ks_266 n (dp - 1) e 0 _ _ _ _ _ _ _ _ _ _ _ _ _ _ u_I0_113 u_L0_113 (ui_rd (a := 126) u_I0_113 u_i2 c2.1) u_i3 (rfl : Ui 0 0) (rfl : Ui 0 0) (rfl : Ui 0 0)) (fun x1_135 x1_135' I1_135 I1_135' L1_135 L1_135' u_x1_135 u_I1_135 u_L1_135 => ?_)
      refine Sg (fun g4 => ?_)
      refine Sc (ix_up (ui_add (ui_mul (rfl : Ui (59049) (59049)) (ui_add u_i2 (rfl : Ui (1) (1)) g4.1) g4.2.1) u_x1_135 g4.2.2)) (fun c5 => ?_) (fun _ => Sn)
      refine Sg (fun g6 => ?_)
      refine Sc (ix_up (ui_add (ui_mul (rfl : Ui (59049) (59049)) u_i2 g6.1) u_i1 g6.2)) (fun c7 => ?_) (fun _ => Sn)
      refine Sg (fun g8 => ?_)
      refine Sc (eq_up (ui_add u_x0_113 (ui_rd (a := 129) u_I1_135 (ui_add (ui_mul (rfl : Ui (59049) (59049)) (ui_add u_i2 (rfl : Ui (1) (1)) g4.1) g4.2.1) u_x1_135 g4.2.2) c5.1) g8) (ui_rd (a := 129) u_I1_135 (ui_add (ui_mul (rfl : Ui (59049) (59049)) u_i2 g6.1) u_i1 g6.2) c7.1)) (fun c9 => ?_) (fun c9 => ?_)
      · refine Sc (ix_up u_i2) (fun c10 => ?_) (fun _ => Sn)
        refine SsJ (ri_up u_I1_135 (kc_up u_i2 c10.1) u_i3) (fun I_168 I_168' u_I_168 => ?_)
        refine Sc (ix_up u_i2) (fun c11 => ?_) (fun _ => Sn)
        refine Sc Iff.rfl (fun c12 => ?_) (fun _ => Sn)
        refine Sb3 (ks_266 n (dp - 1) e 0 _ _ _ _ _ _ _ _ _ _ _ _ _ _ u_I_168 u_L1_135 (ui_rd (a := 126) u_I_168 u_i2 c11.1) u_i3 (rfl : Ui 0 0) (rfl : Ui 0 0) (rfl : Ui 0 0)) (fun x2_177 x2_177' I2_177 I2_177' L2_177 L2_177' u_x2_177 u_I2_177 u_L2_177 => ?_)
        exact (ih dp e 4 _ _ _ _ _ _ _ _ _ _ _ _ u_I2_177 u_L2_177 u_x2_177 u_i2 u_i3 (rfl : Ui (0) (0)))
      · refine Sg (fun g13 => ?_)
        exact (ih dp e 3 _ _ _ _ _ _ _ _ _ _ _ _ u_I1_135 u_L1_135 u_i1 u_i2 (ui_add u_i3 (rfl : Ui (Int32.ofInt (1)) (1)) g13) (rfl : Ui 0 0))
    refine Sc Iff.rfl (fun _ => ?_) (fun _ => ?_)
    · refine Sc (le_up (rfl : Ui (10) (10)) u_i4) (fun c1 => ?_) (fun c1 => ?_)
      · refine Sg (fun g2 => ?_)
        exact (ih dp e 2 _ _ _ _ _ _ _ _ _ _ _ _ u_I u_L u_i1 (ui_add u_i2 (rfl : Ui (Int32.ofInt (1)) (1)) g2) (rfl : Ui 0 0) (rfl : Ui 0 0))
      · refine Sc (ix_up u_i4) (fun c3 => ?_) (fun _ => Sn)
        refine Sc (ix_up u_i2) (fun c4 => ?_) (fun _ => Sn)
        refine Sg (fun g5 => ?_)
        refine Sc (ix_up (ui_add (ui_add (ui_mul (rfl : Ui (640) (640)) (ui_rd (a := 126) u_I u_i2 c4.1) g5.1) (ui_mul (rfl : Ui (10) (10)) u_i3 g5.2.1) g5.2.2.1) u_i4 g5.2.2.2)) (fun c6 => ?_) (fun _ => Sn)
        refine Sc (ix_up u_i4) (fun c7 => ?_) (fun _ => Sn)
        refine Sg (fun g8 => ?_)
        refine SsJ (ri_up u_I (kc_up u_i4 c7.1) (ui_add (ui_rd (a := 135) u_I u_i4 c7.1) (ui_rd (a := 122) u_I (ui_add (ui_add (ui_mul (rfl : Ui (640) (640)) (ui_rd (a := 126) u_I u_i2 c4.1) g5.1) (ui_mul (rfl : Ui (10) (10)) u_i3 g5.2.1) g5.2.2.1) u_i4 g5.2.2.2) c6.1) g8)) (fun I_223 I_223' u_I_223 => ?_)
        refine Sg (fun g9 => ?_)
        exact (ih dp e 4 _ _ _ _ _ _ _ _ _ _ _ _ u_I_223 u_L u_i1 u_i2 u_i3 (ui_add u_i4 (rfl : Ui (Int32.ofInt (1)) (1)) g9))
    exact Sn
set_option maxHeartbeats 4000000 in
set_option maxRecDepth 100000 in
def kf_260 : Nat → Nat → EN → Nat → JI → JI → Int → Option (Int × JI × JI)
  | 0, _, _, _, _, _, _ => none
  | n + 1, dp, e, lab, I, L, i1 =>
    if lab = 0 then (stI (w2 I 105 0 0) (fun I_2 => (if 1 ≤ dp then ((kf_193 n (dp - 1) e 0 I_2 L i1 0 1).bind (fun ⟨x0_9, I0_9, L0_9⟩ => (if x0_9 = 0 then (some (((-1) : Int), I0_9, L0_9)) else (if 1 ≤ dp then ((kf_261 n (dp - 1) e 0 I0_9 L0_9 0 0 0 0).bind (fun ⟨x1_16, I1_16, L1_16⟩ => (if x1_16 = 0 then (some (((-1) : Int), I1_16, L1_16)) else (if i1 = 0 then (some (((I1_16 105 53) : Int), I1_16, L1_16)) else (some (((I1_16 105 54) : Int), I1_16, L1_16)))))) else none)))) else none)))
    else none
set_option maxRecDepth 100000 in
theorem ke_260_0 (n : Nat) (dp : Nat) (e : EN) (I : JI) (L : JI) (i1 : Int) : kf_260 (n + 1) dp e 0 I L i1 = (stI (w2 I 105 0 0) (fun I_2 => (if 1 ≤ dp then ((kf_193 n (dp - 1) e 0 I_2 L i1 0 1).bind (fun ⟨x0_9, I0_9, L0_9⟩ => (if x0_9 = 0 then (some (((-1) : Int), I0_9, L0_9)) else (if 1 ≤ dp then ((kf_261 n (dp - 1) e 0 I0_9 L0_9 0 0 0 0).bind (fun ⟨x1_16, I1_16, L1_16⟩ => (if x1_16 = 0 then (some (((-1) : Int), I1_16, L1_16)) else (if i1 = 0 then (some (((I1_16 105 53) : Int), I1_16, L1_16)) else (some (((I1_16 105 54) : Int), I1_16, L1_16)))))) else none)))) else none))) := by rw [kf_260.eq_2, if_pos (show (0 : Nat) = 0 from rfl)]
set_option maxHeartbeats 8000000 in
set_option maxRecDepth 100000 in
theorem ks_260 : ∀ (n : Nat) (dp : Nat) (e : EN) (lab : Nat) (I : Nat → Nat → Int32) (I' : JI) (L : Nat → Nat → Int64) (L' : JI) (i1 : Int32) (i1' : Int), Rli I I' → Rll L L' → Ui i1 i1' → Sim R3 (g_260 n dp e lab I L i1) (kf_260 n dp e lab I' L' i1') := by
  intro n
  induction n with
  | zero => intros; rw [kf_260.eq_1]; exact Sn
  | succ n ih =>
    intro dp e lab I I' L L' i1 i1' u_I u_L u_i1
    rw [g_260.eq_2, kf_260.eq_2]
    refine Sc Iff.rfl (fun _ => ?_) (fun _ => ?_)
    · refine SsJ (ri_up u_I (rfl : ((0 : Nat) : Int) = 0) (rfl : Ui (0) (0))) (fun I_2 I_2' u_I_2 => ?_)
      refine Sc Iff.rfl (fun c1 => ?_) (fun _ => Sn)
      refine Sb3 (ks_193 n (dp - 1) e 0 _ _ _ _ _ _ _ _ _ _ u_I_2 u_L (ul_i2l u_i1) (rfl : Ul (0) (0)) (rfl : Ul (1) (1))) (fun x0_9 x0_9' I0_9 I0_9' L0_9 L0_9' u_x0_9 u_I0_9 u_L0_9 => ?_)
      refine Sc (eq_up u_x0_9 (rfl : Ui 0 0)) (fun c2 => ?_) (fun c2 => ?_)
      · exact Sr ⟨(rfl : Ui (-1) (-1)), u_I0_9, u_L0_9⟩
      · refine Sc Iff.rfl (fun c3 => ?_) (fun _ => Sn)
        refine Sb3 (ks_261 n (dp - 1) e 0 _ _ _ _ _ _ _ _ _ _ _ _ u_I0_9 u_L0_9 (rfl : Ui 0 0) (rfl : Ui 0 0) (rfl : Ui 0 0) (rfl : Ui 0 0)) (fun x1_16 x1_16' I1_16 I1_16' L1_16 L1_16' u_x1_16 u_I1_16 u_L1_16 => ?_)
        refine Sc (eq_up u_x1_16 (rfl : Ui 0 0)) (fun c4 => ?_) (fun c4 => ?_)
        · exact Sr ⟨(rfl : Ui (-1) (-1)), u_I1_16, u_L1_16⟩
        · refine Sc (eq_up u_i1 (rfl : Ui 0 0)) (fun c5 => ?_) (fun c5 => ?_)
          · exact Sr ⟨(u_I1_16 105 53), u_I1_16, u_L1_16⟩
          · exact Sr ⟨(u_I1_16 105 54), u_I1_16, u_L1_16⟩
    exact Sn
set_option maxHeartbeats 4000000 in
set_option maxRecDepth 100000 in
def kf_270 : Nat → Nat → EN → Nat → JI → JI → Int → Option (Int × JI × JI)
  | 0, _, _, _, _, _, _ => none
  | n + 1, dp, e, lab, I, L, i1 =>
    if lab = 0 then (stI (w2 I 105 0 0) (fun I_2 => (if 1 ≤ dp then ((kf_261 n (dp - 1) e 0 I_2 L 0 0 0 0).bind (fun ⟨x0_6, I0_6, L0_6⟩ => (if x0_6 = 0 then (some (((-1) : Int), I0_6, L0_6)) else (if 1 ≤ dp then ((kf_198 n (dp - 1) e 0 I0_6 L0_6).bind (fun ⟨x1_16, I1_16, L1_16⟩ => (if 1 ≤ dp then (if -9223372036854775808 ≤ x1_16 - 1 ∧ x1_16 - 1 ≤ 9223372036854775807 then ((kf_193 n (dp - 1) e 0 I1_16 L1_16 i1 0 (x1_16 - 1)).bind (fun ⟨x2_22, I2_22, L2_22⟩ => (if x2_22 = 0 then (some (((-1) : Int), I2_22, L2_22)) else (if 0 ≤ i1 ∧ i1 < 8 then (some (((I2_22 134 i1) : Int), I2_22, L2_22)) else none)))) else none) else none))) else none)))) else none)))
    else none
set_option maxRecDepth 100000 in
theorem ke_270_0 (n : Nat) (dp : Nat) (e : EN) (I : JI) (L : JI) (i1 : Int) : kf_270 (n + 1) dp e 0 I L i1 = (stI (w2 I 105 0 0) (fun I_2 => (if 1 ≤ dp then ((kf_261 n (dp - 1) e 0 I_2 L 0 0 0 0).bind (fun ⟨x0_6, I0_6, L0_6⟩ => (if x0_6 = 0 then (some (((-1) : Int), I0_6, L0_6)) else (if 1 ≤ dp then ((kf_198 n (dp - 1) e 0 I0_6 L0_6).bind (fun ⟨x1_16, I1_16, L1_16⟩ => (if 1 ≤ dp then (if -9223372036854775808 ≤ x1_16 - 1 ∧ x1_16 - 1 ≤ 9223372036854775807 then ((kf_193 n (dp - 1) e 0 I1_16 L1_16 i1 0 (x1_16 - 1)).bind (fun ⟨x2_22, I2_22, L2_22⟩ => (if x2_22 = 0 then (some (((-1) : Int), I2_22, L2_22)) else (if 0 ≤ i1 ∧ i1 < 8 then (some (((I2_22 134 i1) : Int), I2_22, L2_22)) else none)))) else none) else none))) else none)))) else none))) := by rw [kf_270.eq_2, if_pos (show (0 : Nat) = 0 from rfl)]
set_option maxHeartbeats 8000000 in
set_option maxRecDepth 100000 in
theorem ks_270 : ∀ (n : Nat) (dp : Nat) (e : EN) (lab : Nat) (I : Nat → Nat → Int32) (I' : JI) (L : Nat → Nat → Int64) (L' : JI) (i1 : Int32) (i1' : Int), Rli I I' → Rll L L' → Ui i1 i1' → Sim R3 (g_270 n dp e lab I L i1) (kf_270 n dp e lab I' L' i1') := by
  intro n
  induction n with
  | zero => intros; rw [kf_270.eq_1]; exact Sn
  | succ n ih =>
    intro dp e lab I I' L L' i1 i1' u_I u_L u_i1
    rw [g_270.eq_2, kf_270.eq_2]
    refine Sc Iff.rfl (fun _ => ?_) (fun _ => ?_)
    · refine SsJ (ri_up u_I (rfl : ((0 : Nat) : Int) = 0) (rfl : Ui (0) (0))) (fun I_2 I_2' u_I_2 => ?_)
      refine Sc Iff.rfl (fun c1 => ?_) (fun _ => Sn)
      refine Sb3 (ks_261 n (dp - 1) e 0 _ _ _ _ _ _ _ _ _ _ _ _ u_I_2 u_L (rfl : Ui 0 0) (rfl : Ui 0 0) (rfl : Ui 0 0) (rfl : Ui 0 0)) (fun x0_6 x0_6' I0_6 I0_6' L0_6 L0_6' u_x0_6 u_I0_6 u_L0_6 => ?_)
      refine Sc (eq_up u_x0_6 (rfl : Ui 0 0)) (fun c2 => ?_) (fun c2 => ?_)
      · exact Sr ⟨(rfl : Ui (-1) (-1)), u_I0_6, u_L0_6⟩
      · refine Sc Iff.rfl (fun c3 => ?_) (fun _ => Sn)
        refine Sb3 (ks_198 n (dp - 1) e 0 _ _ _ _ u_I0_6 u_L0_6) (fun x1_16 x1_16' I1_16 I1_16' L1_16 L1_16' u_x1_16 u_I1_16 u_L1_16 => ?_)
        refine Sc Iff.rfl (fun c4 => ?_) (fun _ => Sn)
        refine Sg (fun g5 => ?_)
        refine Sb3 (ks_193 n (dp - 1) e 0 _ _ _ _ _ _ _ _ _ _ u_I1_16 u_L1_16 (ul_i2l u_i1) (rfl : Ul (0) (0)) (ul_sub (ul_i2l u_x1_16) (rfl : Ul (1) (1)) g5)) (fun x2_22 x2_22' I2_22 I2_22' L2_22 L2_22' u_x2_22 u_I2_22 u_L2_22 => ?_)
        refine Sc (eq_up u_x2_22 (rfl : Ui 0 0)) (fun c6 => ?_) (fun c6 => ?_)
        · exact Sr ⟨(rfl : Ui (-1) (-1)), u_I2_22, u_L2_22⟩
        · refine Sc (ix_up u_i1) (fun c7 => ?_) (fun _ => Sn)
          exact Sr ⟨(ui_rd (a := 134) u_I2_22 u_i1 c7.1), u_I2_22, u_L2_22⟩
    exact Sn
set_option maxHeartbeats 4000000 in
set_option maxRecDepth 100000 in
def kf_272 : Nat → Nat → EN → Nat → JI → JI → Int → Int → Option (Int × JI × JI)
  | 0, _, _, _, _, _, _, _ => none
  | n + 1, dp, e, lab, I, L, i0, i1 =>
    if lab = 0 then (if i0 ≤ i1 then (some ((0 : Int), I, L)) else (if -2147483648 ≤ i0 - i1 ∧ i0 - i1 ≤ 2147483647 then (some (((i0 - i1) : Int), I, L)) else none))
    else none
set_option maxRecDepth 100000 in
theorem ke_272_0 (n : Nat) (dp : Nat) (e : EN) (I : JI) (L : JI) (i0 : Int) (i1 : Int) : kf_272 (n + 1) dp e 0 I L i0 i1 = (if i0 ≤ i1 then (some ((0 : Int), I, L)) else (if -2147483648 ≤ i0 - i1 ∧ i0 - i1 ≤ 2147483647 then (some (((i0 - i1) : Int), I, L)) else none)) := by rw [kf_272.eq_2, if_pos (show (0 : Nat) = 0 from rfl)]
set_option maxHeartbeats 8000000 in
set_option maxRecDepth 100000 in
theorem ks_272 : ∀ (n : Nat) (dp : Nat) (e : EN) (lab : Nat) (I : Nat → Nat → Int32) (I' : JI) (L : Nat → Nat → Int64) (L' : JI) (i0 : Int32) (i0' : Int) (i1 : Int32) (i1' : Int), Rli I I' → Rll L L' → Ui i0 i0' → Ui i1 i1' → Sim R3 (g_272 n dp e lab I L i0 i1) (kf_272 n dp e lab I' L' i0' i1') := by
  intro n
  induction n with
  | zero => intros; rw [kf_272.eq_1]; exact Sn
  | succ n ih =>
    intro dp e lab I I' L L' i0 i0' i1 i1' u_I u_L u_i0 u_i1
    rw [g_272.eq_2, kf_272.eq_2]
    refine Sc Iff.rfl (fun _ => ?_) (fun _ => ?_)
    · refine Sc (le_up u_i0 u_i1) (fun c1 => ?_) (fun c1 => ?_)
      · exact Sr ⟨(rfl : Ui (0) (0)), u_I, u_L⟩
      · refine Sg (fun g2 => ?_)
        exact Sr ⟨(ui_sub u_i0 u_i1 g2), u_I, u_L⟩
    exact Sn
set_option maxHeartbeats 4000000 in
set_option maxRecDepth 100000 in
def kf_271 : Nat → Nat → EN → Nat → JI → JI → Int → Int → Option (Int × JI × JI)
  | 0, _, _, _, _, _, _, _ => none
  | n + 1, dp, e, lab, I, L, i1, i2 =>
    if lab = 0 then (stI (w2 I 105 0 0) (fun I_2 => (if 1 ≤ dp then ((kf_202 n (dp - 1) e 0 I_2 L i1).bind (fun ⟨x0_6, I0_6, L0_6⟩ => (if x0_6 = 0 then (some (((-1) : Int), I0_6, L0_6)) else (if 1 ≤ dp then ((kf_193 n (dp - 1) e 0 I0_6 L0_6 i2 0 1).bind (fun ⟨x1_16, I1_16, L1_16⟩ => (if x1_16 = 0 then (some (((-1) : Int), I1_16, L1_16)) else (if 1 ≤ dp then ((kf_261 n (dp - 1) e 0 I1_16 L1_16 0 0 0 0).bind (fun ⟨x2_23, I2_23, L2_23⟩ => (if x2_23 = 0 then (some (((-1) : Int), I2_23, L2_23)) else (if i2 = 0 then (if 0 ≤ i1 ∧ i1 < 10 then (some (((I2_23 135 i1) : Int), I2_23, L2_23)) else none) else (if -2147483648 ≤ 60 + i1 ∧ 60 + i1 ≤ 2147483647 then (if 0 ≤ (60 + i1) ∧ (60 + i1) < 1570 then (if 0 ≤ i1 ∧ i1 < 10 then (if 1 ≤ dp then ((kf_272 n (dp - 1) e 0 I2_23 L2_23 (I2_23 107 (60 + i1)) (I2_23 135 i1)).bind (fun ⟨x3_59, I3_59, L3_59⟩ => (some ((x3_59 : Int), I3_59, L3_59)))) else none) else none) else none) else none))))) else none)))) else none)))) else none)))
    else none
set_option maxRecDepth 100000 in
theorem ke_271_0 (n : Nat) (dp : Nat) (e : EN) (I : JI) (L : JI) (i1 : Int) (i2 : Int) : kf_271 (n + 1) dp e 0 I L i1 i2 = (stI (w2 I 105 0 0) (fun I_2 => (if 1 ≤ dp then ((kf_202 n (dp - 1) e 0 I_2 L i1).bind (fun ⟨x0_6, I0_6, L0_6⟩ => (if x0_6 = 0 then (some (((-1) : Int), I0_6, L0_6)) else (if 1 ≤ dp then ((kf_193 n (dp - 1) e 0 I0_6 L0_6 i2 0 1).bind (fun ⟨x1_16, I1_16, L1_16⟩ => (if x1_16 = 0 then (some (((-1) : Int), I1_16, L1_16)) else (if 1 ≤ dp then ((kf_261 n (dp - 1) e 0 I1_16 L1_16 0 0 0 0).bind (fun ⟨x2_23, I2_23, L2_23⟩ => (if x2_23 = 0 then (some (((-1) : Int), I2_23, L2_23)) else (if i2 = 0 then (if 0 ≤ i1 ∧ i1 < 10 then (some (((I2_23 135 i1) : Int), I2_23, L2_23)) else none) else (if -2147483648 ≤ 60 + i1 ∧ 60 + i1 ≤ 2147483647 then (if 0 ≤ (60 + i1) ∧ (60 + i1) < 1570 then (if 0 ≤ i1 ∧ i1 < 10 then (if 1 ≤ dp then ((kf_272 n (dp - 1) e 0 I2_23 L2_23 (I2_23 107 (60 + i1)) (I2_23 135 i1)).bind (fun ⟨x3_59, I3_59, L3_59⟩ => (some ((x3_59 : Int), I3_59, L3_59)))) else none) else none) else none) else none))))) else none)))) else none)))) else none))) := by rw [kf_271.eq_2, if_pos (show (0 : Nat) = 0 from rfl)]
set_option maxHeartbeats 8000000 in
set_option maxRecDepth 100000 in
theorem ks_271 : ∀ (n : Nat) (dp : Nat) (e : EN) (lab : Nat) (I : Nat → Nat → Int32) (I' : JI) (L : Nat → Nat → Int64) (L' : JI) (i1 : Int32) (i1' : Int) (i2 : Int32) (i2' : Int), Rli I I' → Rll L L' → Ui i1 i1' → Ui i2 i2' → Sim R3 (g_271 n dp e lab I L i1 i2) (kf_271 n dp e lab I' L' i1' i2') := by
  intro n
  induction n with
  | zero => intros; rw [kf_271.eq_1]; exact Sn
  | succ n ih =>
    intro dp e lab I I' L L' i1 i1' i2 i2' u_I u_L u_i1 u_i2
    rw [g_271.eq_2, kf_271.eq_2]
    refine Sc Iff.rfl (fun _ => ?_) (fun _ => ?_)
    · refine SsJ (ri_up u_I (rfl : ((0 : Nat) : Int) = 0) (rfl : Ui (0) (0))) (fun I_2 I_2' u_I_2 => ?_)
      refine Sc Iff.rfl (fun c1 => ?_) (fun _ => Sn)
      refine Sb3 (ks_202 n (dp - 1) e 0 _ _ _ _ _ _ u_I_2 u_L u_i1) (fun x0_6 x0_6' I0_6 I0_6' L0_6 L0_6' u_x0_6 u_I0_6 u_L0_6 => ?_)
      refine Sc (eq_up u_x0_6 (rfl : Ui 0 0)) (fun c2 => ?_) (fun c2 => ?_)
      · exact Sr ⟨(rfl : Ui (-1) (-1)), u_I0_6, u_L0_6⟩
      · refine Sc Iff.rfl (fun c3 => ?_) (fun _ => Sn)
        refine Sb3 (ks_193 n (dp - 1) e 0 _ _ _ _ _ _ _ _ _ _ u_I0_6 u_L0_6 (ul_i2l u_i2) (rfl : Ul (0) (0)) (rfl : Ul (1) (1))) (fun x1_16 x1_16' I1_16 I1_16' L1_16 L1_16' u_x1_16 u_I1_16 u_L1_16 => ?_)
        refine Sc (eq_up u_x1_16 (rfl : Ui 0 0)) (fun c4 => ?_) (fun c4 => ?_)
        · exact Sr ⟨(rfl : Ui (-1) (-1)), u_I1_16, u_L1_16⟩
        · refine Sc Iff.rfl (fun c5 => ?_) (fun _ => Sn)
          refine Sb3 (ks_261 n (dp - 1) e 0 _ _ _ _ _ _ _ _ _ _ _ _ u_I1_16 u_L1_16 (rfl : Ui 0 0) (rfl : Ui 0 0) (rfl : Ui 0 0) (rfl : Ui 0 0)) (fun x2_23 x2_23' I2_23 I2_23' L2_23 L2_23' u_x2_23 u_I2_23 u_L2_23 => ?_)
          refine Sc (eq_up u_x2_23 (rfl : Ui 0 0)) (fun c6 => ?_) (fun c6 => ?_)
          · exact Sr ⟨(rfl : Ui (-1) (-1)), u_I2_23, u_L2_23⟩
          · refine Sc (eq_up u_i2 (rfl : Ui 0 0)) (fun c7 => ?_) (fun c7 => ?_)
            · refine Sc (ix_up u_i1) (fun c8 => ?_) (fun _ => Sn)
              exact Sr ⟨(ui_rd (a := 135) u_I2_23 u_i1 c8.1), u_I2_23, u_L2_23⟩
            · refine Sg (fun g9 => ?_)
              refine Sc (ix_up (ui_add (rfl : Ui (60) (60)) u_i1 g9)) (fun c10 => ?_) (fun _ => Sn)
              refine Sc (ix_up u_i1) (fun c11 => ?_) (fun _ => Sn)
              refine Sc Iff.rfl (fun c12 => ?_) (fun _ => Sn)
              refine Sb3 (ks_272 n (dp - 1) e 0 _ _ _ _ _ _ _ _ u_I2_23 u_L2_23 (ui_rd (a := 107) u_I2_23 (ui_add (rfl : Ui (60) (60)) u_i1 g9) c10.1) (ui_rd (a := 135) u_I2_23 u_i1 c11.1)) (fun x3_59 x3_59' I3_59 I3_59' L3_59 L3_59' u_x3_59 u_I3_59 u_L3_59 => ?_)
              exact Sr ⟨u_x3_59, u_I3_59, u_L3_59⟩
    exact Sn
