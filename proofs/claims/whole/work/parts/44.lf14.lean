/-! lifted functions 14, printed by lift.py -/
set_option maxHeartbeats 4000000 in
set_option maxRecDepth 100000 in
def kf_128 : Nat → Nat → Nat → Nat → (Nat → Nat × Nat) → JI → JI → (Nat → Nat → Option Nat) → Int → Int → Option ((Int × PSi) × Nat × Nat)
  | 0, _, _, _, _, _, _, _, _, _ => none
  | n + 1, dp, lab, z, kd, I, L, R, i1, i2 =>
    if lab = 0 then (if i1 = 0 then (if i1 = 1 then (if i1 = 2 then (if 1 ≤ dp then (if (-2147483648 ≤ (I 2 0) + i2 ∧ (I 2 0) + i2 ≤ 2147483647) ∧ (-2147483648 ≤ (I 2 1) + i2 ∧ (I 2 1) + i2 ≤ 2147483647) ∧ (-2147483648 ≤ (I 2 2) + i2 ∧ (I 2 2) + i2 ≤ 2147483647) then ((kf_92 n (dp - 1) 0 z kd I L R ((I 2 0) + i2) ((I 2 1) + i2) ((I 2 2) + i2) 0).bind (fun ⟨⟨x_60, z_60, kd_60, I_60, L_60, R_60⟩, ck_60, cm_60⟩ => (adk ck_60 cm_60 (some (((x_60 : Int), z_60, kd_60, I_60, L_60, R_60), 0, 0))))) else none) else none) else (if 1 ≤ dp then (if (-2147483648 ≤ (I 2 0) + i2 ∧ (I 2 0) + i2 ≤ 2147483647) ∧ (-2147483648 ≤ (I 2 1) + i2 ∧ (I 2 1) + i2 ≤ 2147483647) ∧ (-2147483648 ≤ (I 2 2) + 0 ∧ (I 2 2) + 0 ≤ 2147483647) then ((kf_92 n (dp - 1) 0 z kd I L R ((I 2 0) + i2) ((I 2 1) + i2) ((I 2 2) + 0) 0).bind (fun ⟨⟨x_60, z_60, kd_60, I_60, L_60, R_60⟩, ck_60, cm_60⟩ => (adk ck_60 cm_60 (some (((x_60 : Int), z_60, kd_60, I_60, L_60, R_60), 0, 0))))) else none) else none)) else (if i1 = 2 then (if 1 ≤ dp then (if (-2147483648 ≤ (I 2 0) + i2 ∧ (I 2 0) + i2 ≤ 2147483647) ∧ (-2147483648 ≤ (I 2 1) + 0 ∧ (I 2 1) + 0 ≤ 2147483647) ∧ (-2147483648 ≤ (I 2 2) + i2 ∧ (I 2 2) + i2 ≤ 2147483647) then ((kf_92 n (dp - 1) 0 z kd I L R ((I 2 0) + i2) ((I 2 1) + 0) ((I 2 2) + i2) 0).bind (fun ⟨⟨x_60, z_60, kd_60, I_60, L_60, R_60⟩, ck_60, cm_60⟩ => (adk ck_60 cm_60 (some (((x_60 : Int), z_60, kd_60, I_60, L_60, R_60), 0, 0))))) else none) else none) else (if 1 ≤ dp then (if (-2147483648 ≤ (I 2 0) + i2 ∧ (I 2 0) + i2 ≤ 2147483647) ∧ (-2147483648 ≤ (I 2 1) + 0 ∧ (I 2 1) + 0 ≤ 2147483647) ∧ (-2147483648 ≤ (I 2 2) + 0 ∧ (I 2 2) + 0 ≤ 2147483647) then ((kf_92 n (dp - 1) 0 z kd I L R ((I 2 0) + i2) ((I 2 1) + 0) ((I 2 2) + 0) 0).bind (fun ⟨⟨x_60, z_60, kd_60, I_60, L_60, R_60⟩, ck_60, cm_60⟩ => (adk ck_60 cm_60 (some (((x_60 : Int), z_60, kd_60, I_60, L_60, R_60), 0, 0))))) else none) else none))) else (if i1 = 1 then (if i1 = 2 then (if 1 ≤ dp then (if (-2147483648 ≤ (I 2 0) + 0 ∧ (I 2 0) + 0 ≤ 2147483647) ∧ (-2147483648 ≤ (I 2 1) + i2 ∧ (I 2 1) + i2 ≤ 2147483647) ∧ (-2147483648 ≤ (I 2 2) + i2 ∧ (I 2 2) + i2 ≤ 2147483647) then ((kf_92 n (dp - 1) 0 z kd I L R ((I 2 0) + 0) ((I 2 1) + i2) ((I 2 2) + i2) 0).bind (fun ⟨⟨x_60, z_60, kd_60, I_60, L_60, R_60⟩, ck_60, cm_60⟩ => (adk ck_60 cm_60 (some (((x_60 : Int), z_60, kd_60, I_60, L_60, R_60), 0, 0))))) else none) else none) else (if 1 ≤ dp then (if (-2147483648 ≤ (I 2 0) + 0 ∧ (I 2 0) + 0 ≤ 2147483647) ∧ (-2147483648 ≤ (I 2 1) + i2 ∧ (I 2 1) + i2 ≤ 2147483647) ∧ (-2147483648 ≤ (I 2 2) + 0 ∧ (I 2 2) + 0 ≤ 2147483647) then ((kf_92 n (dp - 1) 0 z kd I L R ((I 2 0) + 0) ((I 2 1) + i2) ((I 2 2) + 0) 0).bind (fun ⟨⟨x_60, z_60, kd_60, I_60, L_60, R_60⟩, ck_60, cm_60⟩ => (adk ck_60 cm_60 (some (((x_60 : Int), z_60, kd_60, I_60, L_60, R_60), 0, 0))))) else none) else none)) else (if i1 = 2 then (if 1 ≤ dp then (if (-2147483648 ≤ (I 2 0) + 0 ∧ (I 2 0) + 0 ≤ 2147483647) ∧ (-2147483648 ≤ (I 2 1) + 0 ∧ (I 2 1) + 0 ≤ 2147483647) ∧ (-2147483648 ≤ (I 2 2) + i2 ∧ (I 2 2) + i2 ≤ 2147483647) then ((kf_92 n (dp - 1) 0 z kd I L R ((I 2 0) + 0) ((I 2 1) + 0) ((I 2 2) + i2) 0).bind (fun ⟨⟨x_60, z_60, kd_60, I_60, L_60, R_60⟩, ck_60, cm_60⟩ => (adk ck_60 cm_60 (some (((x_60 : Int), z_60, kd_60, I_60, L_60, R_60), 0, 0))))) else none) else none) else (if 1 ≤ dp then (if (-2147483648 ≤ (I 2 0) + 0 ∧ (I 2 0) + 0 ≤ 2147483647) ∧ (-2147483648 ≤ (I 2 1) + 0 ∧ (I 2 1) + 0 ≤ 2147483647) ∧ (-2147483648 ≤ (I 2 2) + 0 ∧ (I 2 2) + 0 ≤ 2147483647) then ((kf_92 n (dp - 1) 0 z kd I L R ((I 2 0) + 0) ((I 2 1) + 0) ((I 2 2) + 0) 0).bind (fun ⟨⟨x_60, z_60, kd_60, I_60, L_60, R_60⟩, ck_60, cm_60⟩ => (adk ck_60 cm_60 (some (((x_60 : Int), z_60, kd_60, I_60, L_60, R_60), 0, 0))))) else none) else none))))
    else none
set_option maxRecDepth 100000 in
theorem ke_128_0 (n : Nat) (dp : Nat) (z : Nat) (kd : (Nat → Nat × Nat)) (I : JI) (L : JI) (R : (Nat → Nat → Option Nat)) (i1 : Int) (i2 : Int) : kf_128 (n + 1) dp 0 z kd I L R i1 i2 = (if i1 = 0 then (if i1 = 1 then (if i1 = 2 then (if 1 ≤ dp then (if (-2147483648 ≤ (I 2 0) + i2 ∧ (I 2 0) + i2 ≤ 2147483647) ∧ (-2147483648 ≤ (I 2 1) + i2 ∧ (I 2 1) + i2 ≤ 2147483647) ∧ (-2147483648 ≤ (I 2 2) + i2 ∧ (I 2 2) + i2 ≤ 2147483647) then ((kf_92 n (dp - 1) 0 z kd I L R ((I 2 0) + i2) ((I 2 1) + i2) ((I 2 2) + i2) 0).bind (fun ⟨⟨x_60, z_60, kd_60, I_60, L_60, R_60⟩, ck_60, cm_60⟩ => (adk ck_60 cm_60 (some (((x_60 : Int), z_60, kd_60, I_60, L_60, R_60), 0, 0))))) else none) else none) else (if 1 ≤ dp then (if (-2147483648 ≤ (I 2 0) + i2 ∧ (I 2 0) + i2 ≤ 2147483647) ∧ (-2147483648 ≤ (I 2 1) + i2 ∧ (I 2 1) + i2 ≤ 2147483647) ∧ (-2147483648 ≤ (I 2 2) + 0 ∧ (I 2 2) + 0 ≤ 2147483647) then ((kf_92 n (dp - 1) 0 z kd I L R ((I 2 0) + i2) ((I 2 1) + i2) ((I 2 2) + 0) 0).bind (fun ⟨⟨x_60, z_60, kd_60, I_60, L_60, R_60⟩, ck_60, cm_60⟩ => (adk ck_60 cm_60 (some (((x_60 : Int), z_60, kd_60, I_60, L_60, R_60), 0, 0))))) else none) else none)) else (if i1 = 2 then (if 1 ≤ dp then (if (-2147483648 ≤ (I 2 0) + i2 ∧ (I 2 0) + i2 ≤ 2147483647) ∧ (-2147483648 ≤ (I 2 1) + 0 ∧ (I 2 1) + 0 ≤ 2147483647) ∧ (-2147483648 ≤ (I 2 2) + i2 ∧ (I 2 2) + i2 ≤ 2147483647) then ((kf_92 n (dp - 1) 0 z kd I L R ((I 2 0) + i2) ((I 2 1) + 0) ((I 2 2) + i2) 0).bind (fun ⟨⟨x_60, z_60, kd_60, I_60, L_60, R_60⟩, ck_60, cm_60⟩ => (adk ck_60 cm_60 (some (((x_60 : Int), z_60, kd_60, I_60, L_60, R_60), 0, 0))))) else none) else none) else (if 1 ≤ dp then (if (-2147483648 ≤ (I 2 0) + i2 ∧ (I 2 0) + i2 ≤ 2147483647) ∧ (-2147483648 ≤ (I 2 1) + 0 ∧ (I 2 1) + 0 ≤ 2147483647) ∧ (-2147483648 ≤ (I 2 2) + 0 ∧ (I 2 2) + 0 ≤ 2147483647) then ((kf_92 n (dp - 1) 0 z kd I L R ((I 2 0) + i2) ((I 2 1) + 0) ((I 2 2) + 0) 0).bind (fun ⟨⟨x_60, z_60, kd_60, I_60, L_60, R_60⟩, ck_60, cm_60⟩ => (adk ck_60 cm_60 (some (((x_60 : Int), z_60, kd_60, I_60, L_60, R_60), 0, 0))))) else none) else none))) else (if i1 = 1 then (if i1 = 2 then (if 1 ≤ dp then (if (-2147483648 ≤ (I 2 0) + 0 ∧ (I 2 0) + 0 ≤ 2147483647) ∧ (-2147483648 ≤ (I 2 1) + i2 ∧ (I 2 1) + i2 ≤ 2147483647) ∧ (-2147483648 ≤ (I 2 2) + i2 ∧ (I 2 2) + i2 ≤ 2147483647) then ((kf_92 n (dp - 1) 0 z kd I L R ((I 2 0) + 0) ((I 2 1) + i2) ((I 2 2) + i2) 0).bind (fun ⟨⟨x_60, z_60, kd_60, I_60, L_60, R_60⟩, ck_60, cm_60⟩ => (adk ck_60 cm_60 (some (((x_60 : Int), z_60, kd_60, I_60, L_60, R_60), 0, 0))))) else none) else none) else (if 1 ≤ dp then (if (-2147483648 ≤ (I 2 0) + 0 ∧ (I 2 0) + 0 ≤ 2147483647) ∧ (-2147483648 ≤ (I 2 1) + i2 ∧ (I 2 1) + i2 ≤ 2147483647) ∧ (-2147483648 ≤ (I 2 2) + 0 ∧ (I 2 2) + 0 ≤ 2147483647) then ((kf_92 n (dp - 1) 0 z kd I L R ((I 2 0) + 0) ((I 2 1) + i2) ((I 2 2) + 0) 0).bind (fun ⟨⟨x_60, z_60, kd_60, I_60, L_60, R_60⟩, ck_60, cm_60⟩ => (adk ck_60 cm_60 (some (((x_60 : Int), z_60, kd_60, I_60, L_60, R_60), 0, 0))))) else none) else none)) else (if i1 = 2 then (if 1 ≤ dp then (if (-2147483648 ≤ (I 2 0) + 0 ∧ (I 2 0) + 0 ≤ 2147483647) ∧ (-2147483648 ≤ (I 2 1) + 0 ∧ (I 2 1) + 0 ≤ 2147483647) ∧ (-2147483648 ≤ (I 2 2) + i2 ∧ (I 2 2) + i2 ≤ 2147483647) then ((kf_92 n (dp - 1) 0 z kd I L R ((I 2 0) + 0) ((I 2 1) + 0) ((I 2 2) + i2) 0).bind (fun ⟨⟨x_60, z_60, kd_60, I_60, L_60, R_60⟩, ck_60, cm_60⟩ => (adk ck_60 cm_60 (some (((x_60 : Int), z_60, kd_60, I_60, L_60, R_60), 0, 0))))) else none) else none) else (if 1 ≤ dp then (if (-2147483648 ≤ (I 2 0) + 0 ∧ (I 2 0) + 0 ≤ 2147483647) ∧ (-2147483648 ≤ (I 2 1) + 0 ∧ (I 2 1) + 0 ≤ 2147483647) ∧ (-2147483648 ≤ (I 2 2) + 0 ∧ (I 2 2) + 0 ≤ 2147483647) then ((kf_92 n (dp - 1) 0 z kd I L R ((I 2 0) + 0) ((I 2 1) + 0) ((I 2 2) + 0) 0).bind (fun ⟨⟨x_60, z_60, kd_60, I_60, L_60, R_60⟩, ck_60, cm_60⟩ => (adk ck_60 cm_60 (some (((x_60 : Int), z_60, kd_60, I_60, L_60, R_60), 0, 0))))) else none) else none)))) := by rw [kf_128.eq_2, if_pos (show (0 : Nat) = 0 from rfl)]
set_option maxHeartbeats 8000000 in
set_option maxRecDepth 100000 in
theorem ks_128 : ∀ (n : Nat) (dp : Nat) (lab : Nat) (z : Nat) (kd : (Nat → Nat × Nat)) (I : Nat → Nat → Int32) (I' : JI) (L : Nat → Nat → Int64) (L' : JI) (R : (Nat → Nat → Option Nat)) (i1 : Int32) (i1' : Int) (i2 : Int32) (i2' : Int), Rli I I' → Rll L L' → Ui i1 i1' → Ui i2 i2' → Sim RPi (g_128 n dp lab z kd I L R i1 i2) (kf_128 n dp lab z kd I' L' R i1' i2') := by
  intro n
  induction n with
  | zero => intros; rw [kf_128.eq_1]; exact Sn
  | succ n ih =>
    intro dp lab z kd I I' L L' R i1 i1' i2 i2' u_I u_L u_i1 u_i2
    rw [g_128.eq_2, kf_128.eq_2]
    refine Sc Iff.rfl (fun _ => ?_) (fun _ => ?_)
    · refine Sc (eq_up u_i1 (rfl : Ui 0 0)) (fun c1 => ?_) (fun c1 => ?_)
      · refine Sc (eq_up u_i1 (rfl : Ui (1) (1))) (fun c2 => ?_) (fun c2 => ?_)
        · refine Sc (eq_up u_i1 (rfl : Ui (2) (2))) (fun c3 => ?_) (fun c3 => ?_)
          · refine Sc Iff.rfl (fun c4 => ?_) (fun _ => Sn)
            refine Sg (fun g5 => ?_)
            refine SbPi (ks_92 n (dp - 1) 0 z kd _ _ _ _ R _ _ _ _ _ _ _ _ u_I u_L (ui_add (u_I 2 0) u_i2 g5.1) (ui_add (u_I 2 1) u_i2 g5.2.1) (ui_add (u_I 2 2) u_i2 g5.2.2) (rfl : Ui 0 0)) (fun x_60 x_60' z_60 kd_60 I_60 I_60' L_60 L_60' R_60 ck_60 cm_60 u_x_60 u_I_60 u_L_60 => ?_)
            refine Sa_i rfl ?_
            exact Sr ⟨u_x_60, ⟨rfl, rfl, u_I_60, u_L_60, rfl⟩, rfl⟩
          · refine Sc Iff.rfl (fun c6 => ?_) (fun _ => Sn)
            refine Sg (fun g7 => ?_)
            refine SbPi (ks_92 n (dp - 1) 0 z kd _ _ _ _ R _ _ _ _ _ _ _ _ u_I u_L (ui_add (u_I 2 0) u_i2 g7.1) (ui_add (u_I 2 1) u_i2 g7.2.1) (ui_add (u_I 2 2) (rfl : Ui (0) (0)) g7.2.2) (rfl : Ui 0 0)) (fun x_60 x_60' z_60 kd_60 I_60 I_60' L_60 L_60' R_60 ck_60 cm_60 u_x_60 u_I_60 u_L_60 => ?_)
            refine Sa_i rfl ?_
            exact Sr ⟨u_x_60, ⟨rfl, rfl, u_I_60, u_L_60, rfl⟩, rfl⟩
        · refine Sc (eq_up u_i1 (rfl : Ui (2) (2))) (fun c8 => ?_) (fun c8 => ?_)
          · refine Sc Iff.rfl (fun c9 => ?_) (fun _ => Sn)
            refine Sg (fun g10 => ?_)
            refine SbPi (ks_92 n (dp - 1) 0 z kd _ _ _ _ R _ _ _ _ _ _ _ _ u_I u_L (ui_add (u_I 2 0) u_i2 g10.1) (ui_add (u_I 2 1) (rfl : Ui (0) (0)) g10.2.1) (ui_add (u_I 2 2) u_i2 g10.2.2) (rfl : Ui 0 0)) (fun x_60 x_60' z_60 kd_60 I_60 I_60' L_60 L_60' R_60 ck_60 cm_60 u_x_60 u_I_60 u_L_60 => ?_)
            refine Sa_i rfl ?_
            exact Sr ⟨u_x_60, ⟨rfl, rfl, u_I_60, u_L_60, rfl⟩, rfl⟩
          · refine Sc Iff.rfl (fun c11 => ?_) (fun _ => Sn)
            refine Sg (fun g12 => ?_)
            refine SbPi (ks_92 n (dp - 1) 0 z kd _ _ _ _ R _ _ _ _ _ _ _ _ u_I u_L (ui_add (u_I 2 0) u_i2 g12.1) (ui_add (u_I 2 1) (rfl : Ui (0) (0)) g12.2.1) (ui_add (u_I 2 2) (rfl : Ui (0) (0)) g12.2.2) (rfl : Ui 0 0)) (fun x_60 x_60' z_60 kd_60 I_60 I_60' L_60 L_60' R_60 ck_60 cm_60 u_x_60 u_I_60 u_L_60 => ?_)
            refine Sa_i rfl ?_
            exact Sr ⟨u_x_60, ⟨rfl, rfl, u_I_60, u_L_60, rfl⟩, rfl⟩
      · refine Sc (eq_up u_i1 (rfl : Ui (1) (1))) (fun c13 => ?_) (fun c13 => ?_)
        · refine Sc (eq_up u_i1 (rfl : Ui (2) (2))) (fun c14 => ?_) (fun c14 => ?_)
          · refine Sc Iff.rfl (fun c15 => ?_) (fun _ => Sn)
            refine Sg (fun g16 => ?_)
            refine SbPi (ks_92 n (dp - 1) 0 z kd _ _ _ _ R _ _ _ _ _ _ _ _ u_I u_L (ui_add (u_I 2 0) (rfl : Ui (0) (0)) g16.1) (ui_add (u_I 2 1) u_i2 g16.2.1) (ui_add (u_I 2 2) u_i2 g16.2.2) (rfl : Ui 0 0)) (fun x_60 x_60' z_60 kd_60 I_60 I_60' L_60 L_60' R_60 ck_60 cm_60 u_x_60 u_I_60 u_L_60 => ?_)
            refine Sa_i rfl ?_
            exact Sr ⟨u_x_60, ⟨rfl, rfl, u_I_60, u_L_60, rfl⟩, rfl⟩
          · refine Sc Iff.rfl (fun c17 => ?_) (fun _ => Sn)
            refine Sg (fun g18 => ?_)
            refine SbPi (ks_92 n (dp - 1) 0 z kd _ _ _ _ R _ _ _ _ _ _ _ _ u_I u_L (ui_add (u_I 2 0) (rfl : Ui (0) (0)) g18.1) (ui_add (u_I 2 1) u_i2 g18.2.1) (ui_add (u_I 2 2) (rfl : Ui (0) (0)) g18.2.2) (rfl : Ui 0 0)) (fun x_60 x_60' z_60 kd_60 I_60 I_60' L_60 L_60' R_60 ck_60 cm_60 u_x_60 u_I_60 u_L_60 => ?_)
            refine Sa_i rfl ?_
            exact Sr ⟨u_x_60, ⟨rfl, rfl, u_I_60, u_L_60, rfl⟩, rfl⟩
        · refine Sc (eq_up u_i1 (rfl : Ui (2) (2))) (fun c19 => ?_) (fun c19 => ?_)
          · refine Sc Iff.rfl (fun c20 => ?_) (fun _ => Sn)
            refine Sg (fun g21 => ?_)
            refine SbPi (ks_92 n (dp - 1) 0 z kd _ _ _ _ R _ _ _ _ _ _ _ _ u_I u_L (ui_add (u_I 2 0) (rfl : Ui (0) (0)) g21.1) (ui_add (u_I 2 1) (rfl : Ui (0) (0)) g21.2.1) (ui_add (u_I 2 2) u_i2 g21.2.2) (rfl : Ui 0 0)) (fun x_60 x_60' z_60 kd_60 I_60 I_60' L_60 L_60' R_60 ck_60 cm_60 u_x_60 u_I_60 u_L_60 => ?_)
            refine Sa_i rfl ?_
            exact Sr ⟨u_x_60, ⟨rfl, rfl, u_I_60, u_L_60, rfl⟩, rfl⟩
          · refine Sc Iff.rfl (fun c22 => ?_) (fun _ => Sn)
            refine Sg (fun g23 => ?_)
            refine SbPi (ks_92 n (dp - 1) 0 z kd _ _ _ _ R _ _ _ _ _ _ _ _ u_I u_L (ui_add (u_I 2 0) (rfl : Ui (0) (0)) g23.1) (ui_add (u_I 2 1) (rfl : Ui (0) (0)) g23.2.1) (ui_add (u_I 2 2) (rfl : Ui (0) (0)) g23.2.2) (rfl : Ui 0 0)) (fun x_60 x_60' z_60 kd_60 I_60 I_60' L_60 L_60' R_60 ck_60 cm_60 u_x_60 u_I_60 u_L_60 => ?_)
            refine Sa_i rfl ?_
            exact Sr ⟨u_x_60, ⟨rfl, rfl, u_I_60, u_L_60, rfl⟩, rfl⟩
    exact Sn
set_option maxHeartbeats 4000000 in
set_option maxRecDepth 100000 in
def kf_131 : Nat → Nat → Nat → Nat → (Nat → Nat × Nat) → JI → JI → (Nat → Nat → Option Nat) → Int → Int → Int → Int → Option ((Int × PSi) × Nat × Nat)
  | 0, _, _, _, _, _, _, _, _, _, _, _ => none
  | n + 1, dp, lab, z, kd, I, L, R, i1, i2, i3, i4 =>
    if lab = 0 then (if -2147483648 ≤ 20 + i1 ∧ 20 + i1 ≤ 2147483647 then (if 0 ≤ (20 + i1) ∧ (20 + i1) < 30 then (stI (I 4 (20 + i1)) (fun v_14 => (if 1 ≤ dp then ((kf_117 n (dp - 1) (z, kd, R) 0 I L).bind (fun ⟨x_16, I_16, L_16⟩ => (if 8 ≤ v_14 then (some ((((-1) : Int), z, kd, I_16, L_16, R), 0, 0)) else (if v_14 = 0 then (if 1 ≤ dp then ((kf_24 n (dp - 1) (z, kd, R) 0 I_16 L_16 0 0).bind (fun ⟨x_35, I_35, L_35⟩ => (if x_35 < 5 then (kf_131 n dp 1 z kd I_35 L_35 R i1 (20 + i1) v_14 x_16) else (some ((((-1) : Int), z, kd, I_35, L_35, R), 0, 0))))) else none) else (kf_131 n dp 1 z kd I_16 L_16 R i1 (20 + i1) v_14 x_16))))) else none))) else none) else none)
    else if lab = 1 then (if -2147483648 ≤ 0 + i1 ∧ 0 + i1 ≤ 2147483647 then (if 0 ≤ (0 + i1) ∧ (0 + i1) < 30 then (if -2147483648 ≤ 10 + i1 ∧ 10 + i1 ≤ 2147483647 then (if 0 ≤ (10 + i1) ∧ (10 + i1) < 30 then (if (I 4 (0 + i1)) = (I 4 (10 + i1)) then (some (((0 : Int), z, kd, I, L, R), 0, 0)) else (if 1 ≤ dp then ((kf_132 n (dp - 1) (z, kd, R) 0 I L i1 0 0 0 0).bind (fun ⟨x_73, I_73, L_73⟩ => (if i3 < x_73 then (if 0 ≤ i2 ∧ i2 < 30 then (if -2147483648 ≤ i3 + 1 ∧ i3 + 1 ≤ 2147483647 then (stI (w2 I_73 4 i2 (i3 + 1)) (fun I_92 => (stI (w2 I_92 24 14 1) (fun I_95 => (if 1 ≤ dp then ((kf_95 n (dp - 1) 0 z kd I_95 L_73 R).bind (fun ⟨⟨z_99, kd_99, I_99, L_99, R_99⟩, ck_99, cm_99⟩ => (adk ck_99 cm_99 (if 1 ≤ dp then ((kf_104 n (dp - 1) 0 z_99 kd_99 I_99 L_99 R_99 (I_99 2 0) (I_99 2 1) (I_99 2 2)).bind (fun ⟨⟨z_130, kd_130, I_130, L_130, R_130⟩, ck_130, cm_130⟩ => (adk ck_130 cm_130 (if 0 ≤ i2 ∧ i2 < 30 then (stI (w2 I_130 4 i2 i3) (fun I_142 => (stI (w2 I_142 24 14 1) (fun I_145 => (if (-2147483647 ≤ (I_145 44 8)) ∧ (-2147483648 ≤ (Int.tdiv (I_145 44 8) 16) - i4 ∧ (Int.tdiv (I_145 44 8) 16) - i4 ≤ 2147483647) then (some (((((Int.tdiv (I_145 44 8) 16) - i4) : Int), z_130, kd_130, I_145, L_130, R_130), 0, 0)) else none))))) else none)))) else none)))) else none))))) else none) else none) else (some (((0 : Int), z, kd, I_73, L_73, R), 0, 0))))) else none)) else none) else none) else none) else none)
    else none
set_option maxRecDepth 100000 in
theorem ke_131_0 (n : Nat) (dp : Nat) (z : Nat) (kd : (Nat → Nat × Nat)) (I : JI) (L : JI) (R : (Nat → Nat → Option Nat)) (i1 : Int) (i2 : Int) (i3 : Int) (i4 : Int) : kf_131 (n + 1) dp 0 z kd I L R i1 i2 i3 i4 = (if -2147483648 ≤ 20 + i1 ∧ 20 + i1 ≤ 2147483647 then (if 0 ≤ (20 + i1) ∧ (20 + i1) < 30 then (stI (I 4 (20 + i1)) (fun v_14 => (if 1 ≤ dp then ((kf_117 n (dp - 1) (z, kd, R) 0 I L).bind (fun ⟨x_16, I_16, L_16⟩ => (if 8 ≤ v_14 then (some ((((-1) : Int), z, kd, I_16, L_16, R), 0, 0)) else (if v_14 = 0 then (if 1 ≤ dp then ((kf_24 n (dp - 1) (z, kd, R) 0 I_16 L_16 0 0).bind (fun ⟨x_35, I_35, L_35⟩ => (if x_35 < 5 then (kf_131 n dp 1 z kd I_35 L_35 R i1 (20 + i1) v_14 x_16) else (some ((((-1) : Int), z, kd, I_35, L_35, R), 0, 0))))) else none) else (kf_131 n dp 1 z kd I_16 L_16 R i1 (20 + i1) v_14 x_16))))) else none))) else none) else none) := by rw [kf_131.eq_2, if_pos (show (0 : Nat) = 0 from rfl)]
set_option maxRecDepth 100000 in
theorem ke_131_1 (n : Nat) (dp : Nat) (z : Nat) (kd : (Nat → Nat × Nat)) (I : JI) (L : JI) (R : (Nat → Nat → Option Nat)) (i1 : Int) (i2 : Int) (i3 : Int) (i4 : Int) : kf_131 (n + 1) dp 1 z kd I L R i1 i2 i3 i4 = (if -2147483648 ≤ 0 + i1 ∧ 0 + i1 ≤ 2147483647 then (if 0 ≤ (0 + i1) ∧ (0 + i1) < 30 then (if -2147483648 ≤ 10 + i1 ∧ 10 + i1 ≤ 2147483647 then (if 0 ≤ (10 + i1) ∧ (10 + i1) < 30 then (if (I 4 (0 + i1)) = (I 4 (10 + i1)) then (some (((0 : Int), z, kd, I, L, R), 0, 0)) else (if 1 ≤ dp then ((kf_132 n (dp - 1) (z, kd, R) 0 I L i1 0 0 0 0).bind (fun ⟨x_73, I_73, L_73⟩ => (if i3 < x_73 then (if 0 ≤ i2 ∧ i2 < 30 then (if -2147483648 ≤ i3 + 1 ∧ i3 + 1 ≤ 2147483647 then (stI (w2 I_73 4 i2 (i3 + 1)) (fun I_92 => (stI (w2 I_92 24 14 1) (fun I_95 => (if 1 ≤ dp then ((kf_95 n (dp - 1) 0 z kd I_95 L_73 R).bind (fun ⟨⟨z_99, kd_99, I_99, L_99, R_99⟩, ck_99, cm_99⟩ => (adk ck_99 cm_99 (if 1 ≤ dp then ((kf_104 n (dp - 1) 0 z_99 kd_99 I_99 L_99 R_99 (I_99 2 0) (I_99 2 1) (I_99 2 2)).bind (fun ⟨⟨z_130, kd_130, I_130, L_130, R_130⟩, ck_130, cm_130⟩ => (adk ck_130 cm_130 (if 0 ≤ i2 ∧ i2 < 30 then (stI (w2 I_130 4 i2 i3) (fun I_142 => (stI (w2 I_142 24 14 1) (fun I_145 => (if (-2147483647 ≤ (I_145 44 8)) ∧ (-2147483648 ≤ (Int.tdiv (I_145 44 8) 16) - i4 ∧ (Int.tdiv (I_145 44 8) 16) - i4 ≤ 2147483647) then (some (((((Int.tdiv (I_145 44 8) 16) - i4) : Int), z_130, kd_130, I_145, L_130, R_130), 0, 0)) else none))))) else none)))) else none)))) else none))))) else none) else none) else (some (((0 : Int), z, kd, I_73, L_73, R), 0, 0))))) else none)) else none) else none) else none) else none) := by rw [kf_131.eq_2, if_neg (show ¬ ((1 : Nat) = 0) by decide), if_pos (show (1 : Nat) = 1 from rfl)]
set_option maxHeartbeats 8000000 in
set_option maxRecDepth 100000 in
theorem ks_131 : ∀ (n : Nat) (dp : Nat) (lab : Nat) (z : Nat) (kd : (Nat → Nat × Nat)) (I : Nat → Nat → Int32) (I' : JI) (L : Nat → Nat → Int64) (L' : JI) (R : (Nat → Nat → Option Nat)) (i1 : Int32) (i1' : Int) (i2 : Int32) (i2' : Int) (i3 : Int32) (i3' : Int) (i4 : Int32) (i4' : Int), Rli I I' → Rll L L' → Ui i1 i1' → Ui i2 i2' → Ui i3 i3' → Ui i4 i4' → Sim RPi (g_131 n dp lab z kd I L R i1 i2 i3 i4) (kf_131 n dp lab z kd I' L' R i1' i2' i3' i4') := by
  intro n
  induction n with
  | zero => intros; rw [kf_131.eq_1]; exact Sn
  | succ n ih =>
    intro dp lab z kd I I' L L' R i1 i1' i2 i2' i3 i3' i4 i4' u_I u_L u_i1 u_i2 u_i3 u_i4
    rw [g_131.eq_2, kf_131.eq_2]
    refine Sc Iff.rfl (fun _ => ?_) (fun _ => ?_)
    · refine Sg (fun g1 => ?_)
      refine Sc (ix_up (ui_add (rfl : Ui (20) (20)) u_i1 g1)) (fun c2 => ?_) (fun _ => Sn)
      refine SsI (ui_rd (a := 4) u_I (ui_add (rfl : Ui (20) (20)) u_i1 g1) c2.1) (fun v_14 v_14' u_v_14 => ?_)
      refine Sc Iff.rfl (fun c3 => ?_) (fun _ => Sn)
      refine Sb3 (ks_117 n (dp - 1) (z, kd, R) 0 _ _ _ _ u_I u_L) (fun x_16 x_16' I_16 I_16' L_16 L_16' u_x_16 u_I_16 u_L_16 => ?_)
      refine Sc (le_up (rfl : Ui (8) (8)) u_v_14) (fun c4 => ?_) (fun c4 => ?_)
      · exact Sr ⟨(rfl : Ui (-1) (-1)), ⟨rfl, rfl, u_I_16, u_L_16, rfl⟩, rfl⟩
      · refine Sc (eq_up u_v_14 (rfl : Ui 0 0)) (fun c5 => ?_) (fun c5 => ?_)
        · refine Sc Iff.rfl (fun c6 => ?_) (fun _ => Sn)
          refine Sb3 (ks_24 n (dp - 1) (z, kd, R) 0 _ _ _ _ _ _ _ _ u_I_16 u_L_16 (rfl : Ui 0 0) (rfl : Ui 0 0)) (fun x_35 x_35' I_35 I_35' L_35 L_35' u_x_35 u_I_35 u_L_35 => ?_)
          refine Sc (lt_up u_x_35 (rfl : Ui (5) (5))) (fun c7 => ?_) (fun c7 => ?_)
          · exact (ih dp 1 z kd _ _ _ _ R _ _ _ _ _ _ _ _ u_I_35 u_L_35 u_i1 (ui_add (rfl : Ui (20) (20)) u_i1 g1) u_v_14 u_x_16)
          · exact Sr ⟨(rfl : Ui (-1) (-1)), ⟨rfl, rfl, u_I_35, u_L_35, rfl⟩, rfl⟩
        · exact (ih dp 1 z kd _ _ _ _ R _ _ _ _ _ _ _ _ u_I_16 u_L_16 u_i1 (ui_add (rfl : Ui (20) (20)) u_i1 g1) u_v_14 u_x_16)
    refine Sc Iff.rfl (fun _ => ?_) (fun _ => ?_)
    · refine Sg (fun g1 => ?_)
      refine Sc (ix_up (ui_add (rfl : Ui (0) (0)) u_i1 g1)) (fun c2 => ?_) (fun _ => Sn)
      refine Sg (fun g3 => ?_)
      refine Sc (ix_up (ui_add (rfl : Ui (10) (10)) u_i1 g3)) (fun c4 => ?_) (fun _ => Sn)
      refine Sc (eq_up (ui_rd (a := 4) u_I (ui_add (rfl : Ui (0) (0)) u_i1 g1) c2.1) (ui_rd (a := 4) u_I (ui_add (rfl : Ui (10) (10)) u_i1 g3) c4.1)) (fun c5 => ?_) (fun c5 => ?_)
      · exact Sr ⟨(rfl : Ui (0) (0)), ⟨rfl, rfl, u_I, u_L, rfl⟩, rfl⟩
      · refine Sc Iff.rfl (fun c6 => ?_) (fun _ => Sn)
        refine Sb3 (ks_132 n (dp - 1) (z, kd, R) 0 _ _ _ _ _ _ _ _ _ _ _ _ _ _ u_I u_L u_i1 (rfl : Ui 0 0) (rfl : Ui 0 0) (rfl : Ui 0 0) (rfl : Ui 0 0)) (fun x_73 x_73' I_73 I_73' L_73 L_73' u_x_73 u_I_73 u_L_73 => ?_)
        refine Sc (lt_up u_i3 u_x_73) (fun c7 => ?_) (fun c7 => ?_)
        · refine Sc (ix_up u_i2) (fun c8 => ?_) (fun _ => Sn)
          refine Sg (fun g9 => ?_)
          refine SsJ (ri_up u_I_73 (kc_up u_i2 c8.1) (ui_add u_i3 (rfl : Ui (1) (1)) g9)) (fun I_92 I_92' u_I_92 => ?_)
          refine SsJ (ri_up u_I_92 (rfl : ((14 : Nat) : Int) = 14) (rfl : Ui (1) (1))) (fun I_95 I_95' u_I_95 => ?_)
          refine Sc Iff.rfl (fun c10 => ?_) (fun _ => Sn)
          refine SbPv (ks_95 n (dp - 1) 0 z kd _ _ _ _ R u_I_95 u_L_73) (fun z_99 kd_99 I_99 I_99' L_99 L_99' R_99 ck_99 cm_99 u_I_99 u_L_99 => ?_)
          refine Sa_i rfl ?_
          refine Sc Iff.rfl (fun c11 => ?_) (fun _ => Sn)
          refine SbPv (ks_104 n (dp - 1) 0 z_99 kd_99 _ _ _ _ R_99 _ _ _ _ _ _ u_I_99 u_L_99 (u_I_99 2 0) (u_I_99 2 1) (u_I_99 2 2)) (fun z_130 kd_130 I_130 I_130' L_130 L_130' R_130 ck_130 cm_130 u_I_130 u_L_130 => ?_)
          refine Sa_i rfl ?_
          refine Sc (ix_up u_i2) (fun c12 => ?_) (fun _ => Sn)
          refine SsJ (ri_up u_I_130 (kc_up u_i2 c12.1) u_i3) (fun I_142 I_142' u_I_142 => ?_)
          refine SsJ (ri_up u_I_142 (rfl : ((14 : Nat) : Int) = 14) (rfl : Ui (1) (1))) (fun I_145 I_145' u_I_145 => ?_)
          refine Sg (fun g13 => ?_)
          exact Sr ⟨(ui_sub (ui_div (u_I_145 44 8) (rfl : Ui (16) (16)) g13.1) u_i4 g13.2), ⟨rfl, rfl, u_I_145, u_L_130, rfl⟩, rfl⟩
        · exact Sr ⟨(rfl : Ui (0) (0)), ⟨rfl, rfl, u_I_73, u_L_73, rfl⟩, rfl⟩
    exact Sn
set_option maxHeartbeats 4000000 in
set_option maxRecDepth 100000 in
def kf_120 : Nat → Nat → Nat → Nat → (Nat → Nat × Nat) → JI → JI → (Nat → Nat → Option Nat) → Int → Int → Int → Int → Option (PSi × Nat × Nat)
  | 0, _, _, _, _, _, _, _, _, _, _, _ => none
  | n + 1, dp, lab, z, kd, I, L, R, i1, i2, i3, i4 =>
    if lab = 0 then (if (I 24 15) = 0 then (some ((z, kd, I, L, R), 0, 0)) else (if 1 ≤ dp then ((kf_117 n (dp - 1) (z, kd, R) 0 I L).bind (fun ⟨x_9, I_9, L_9⟩ => (if 1 ≤ dp then ((kf_95 n (dp - 1) 0 z kd I_9 L_9 R).bind (fun ⟨⟨z_17, kd_17, I_17, L_17, R_17⟩, ck_17, cm_17⟩ => (adk ck_17 cm_17 (if 1 ≤ dp then ((kf_105 n (dp - 1) (z_17, kd_17, R_17) 0 I_17 L_17 (I_17 2 0) (I_17 2 1) (I_17 2 2) 0 0).bind (fun ⟨x_48, I_48, L_48⟩ => (if 1 ≤ dp then (if -2147483648 ≤ x_48 - 1 ∧ x_48 - 1 ≤ 2147483647 then ((kf_106 n (dp - 1) 0 z_17 kd_17 I_48 L_48 R_17 (x_48 - 1) 0 0).bind (fun ⟨⟨z_63, kd_63, I_63, L_63, R_63⟩, ck_63, cm_63⟩ => (adk ck_63 cm_63 (if -2147483648 ≤ x_9 * 16 ∧ x_9 * 16 ≤ 2147483647 then (kf_120 n dp 1 z_63 kd_63 I_63 L_63 R_63 (x_9 * 16) x_48 (I_63 26 18) 0) else none)))) else none) else none))) else none)))) else none))) else none))
    else if lab = 1 then (if i2 ≤ i4 then (if 1 ≤ dp then ((kf_36 n (dp - 1) (z, kd, R) 0 I L (-1) 0 0 56).bind (fun ⟨I_162, L_162⟩ => (stI (w2 I_162 24 15 0) (fun I_167 => (some ((z, kd, I_167, L_162, R), 0, 0)))))) else none) else (if 1 ≤ dp then ((kf_121 n (dp - 1) (z, kd, R) 0 I L i4).bind (fun ⟨x_90, I_90, L_90⟩ => (if 1 ≤ dp then (if (-2147483648 ≤ i2 - 1 ∧ i2 - 1 ≤ 2147483647) ∧ (-2147483648 ≤ (i2 - 1) - i4 ∧ (i2 - 1) - i4 ≤ 2147483647) then ((kf_122 n (dp - 1) (z, kd, R) 0 I_90 L_90 x_90 ((i2 - 1) - i4) i3 i1 0 0 0).bind (fun ⟨x_101, I_101, L_101⟩ => (if 0 ≤ x_101 ∧ x_101 < 192 then (if 0 ≤ i4 ∧ i4 < 8 then (stI (w2 I_101 55 i4 (I_101 30 x_101)) (fun I_122 => (if 0 ≤ x_101 ∧ x_101 < 192 then (if 1 ≤ dp then ((kf_111 n (dp - 1) (z, kd, R) 0 I_122 L_101 i3 (I_122 27 x_101)).bind (fun ⟨x_134, I_134, L_134⟩ => (if 0 ≤ x_101 ∧ x_101 < 192 then (if -2147483648 ≤ i1 - (I_134 28 x_101) ∧ i1 - (I_134 28 x_101) ≤ 2147483647 then (stI (i1 - (I_134 28 x_101)) (fun v_150 => (if -2147483648 ≤ i4 + 1 ∧ i4 + 1 ≤ 2147483647 then (kf_120 n dp 1 z kd I_134 L_134 R v_150 i2 x_134 (i4 + 1)) else none))) else none) else none))) else none) else none))) else none) else none))) else none) else none))) else none))
    else none
set_option maxRecDepth 100000 in
theorem ke_120_0 (n : Nat) (dp : Nat) (z : Nat) (kd : (Nat → Nat × Nat)) (I : JI) (L : JI) (R : (Nat → Nat → Option Nat)) (i1 : Int) (i2 : Int) (i3 : Int) (i4 : Int) : kf_120 (n + 1) dp 0 z kd I L R i1 i2 i3 i4 = (if (I 24 15) = 0 then (some ((z, kd, I, L, R), 0, 0)) else (if 1 ≤ dp then ((kf_117 n (dp - 1) (z, kd, R) 0 I L).bind (fun ⟨x_9, I_9, L_9⟩ => (if 1 ≤ dp then ((kf_95 n (dp - 1) 0 z kd I_9 L_9 R).bind (fun ⟨⟨z_17, kd_17, I_17, L_17, R_17⟩, ck_17, cm_17⟩ => (adk ck_17 cm_17 (if 1 ≤ dp then ((kf_105 n (dp - 1) (z_17, kd_17, R_17) 0 I_17 L_17 (I_17 2 0) (I_17 2 1) (I_17 2 2) 0 0).bind (fun ⟨x_48, I_48, L_48⟩ => (if 1 ≤ dp then (if -2147483648 ≤ x_48 - 1 ∧ x_48 - 1 ≤ 2147483647 then ((kf_106 n (dp - 1) 0 z_17 kd_17 I_48 L_48 R_17 (x_48 - 1) 0 0).bind (fun ⟨⟨z_63, kd_63, I_63, L_63, R_63⟩, ck_63, cm_63⟩ => (adk ck_63 cm_63 (if -2147483648 ≤ x_9 * 16 ∧ x_9 * 16 ≤ 2147483647 then (kf_120 n dp 1 z_63 kd_63 I_63 L_63 R_63 (x_9 * 16) x_48 (I_63 26 18) 0) else none)))) else none) else none))) else none)))) else none))) else none)) := by rw [kf_120.eq_2, if_pos (show (0 : Nat) = 0 from rfl)]
set_option maxRecDepth 100000 in
theorem ke_120_1 (n : Nat) (dp : Nat) (z : Nat) (kd : (Nat → Nat × Nat)) (I : JI) (L : JI) (R : (Nat → Nat → Option Nat)) (i1 : Int) (i2 : Int) (i3 : Int) (i4 : Int) : kf_120 (n + 1) dp 1 z kd I L R i1 i2 i3 i4 = (if i2 ≤ i4 then (if 1 ≤ dp then ((kf_36 n (dp - 1) (z, kd, R) 0 I L (-1) 0 0 56).bind (fun ⟨I_162, L_162⟩ => (stI (w2 I_162 24 15 0) (fun I_167 => (some ((z, kd, I_167, L_162, R), 0, 0)))))) else none) else (if 1 ≤ dp then ((kf_121 n (dp - 1) (z, kd, R) 0 I L i4).bind (fun ⟨x_90, I_90, L_90⟩ => (if 1 ≤ dp then (if (-2147483648 ≤ i2 - 1 ∧ i2 - 1 ≤ 2147483647) ∧ (-2147483648 ≤ (i2 - 1) - i4 ∧ (i2 - 1) - i4 ≤ 2147483647) then ((kf_122 n (dp - 1) (z, kd, R) 0 I_90 L_90 x_90 ((i2 - 1) - i4) i3 i1 0 0 0).bind (fun ⟨x_101, I_101, L_101⟩ => (if 0 ≤ x_101 ∧ x_101 < 192 then (if 0 ≤ i4 ∧ i4 < 8 then (stI (w2 I_101 55 i4 (I_101 30 x_101)) (fun I_122 => (if 0 ≤ x_101 ∧ x_101 < 192 then (if 1 ≤ dp then ((kf_111 n (dp - 1) (z, kd, R) 0 I_122 L_101 i3 (I_122 27 x_101)).bind (fun ⟨x_134, I_134, L_134⟩ => (if 0 ≤ x_101 ∧ x_101 < 192 then (if -2147483648 ≤ i1 - (I_134 28 x_101) ∧ i1 - (I_134 28 x_101) ≤ 2147483647 then (stI (i1 - (I_134 28 x_101)) (fun v_150 => (if -2147483648 ≤ i4 + 1 ∧ i4 + 1 ≤ 2147483647 then (kf_120 n dp 1 z kd I_134 L_134 R v_150 i2 x_134 (i4 + 1)) else none))) else none) else none))) else none) else none))) else none) else none))) else none) else none))) else none)) := by rw [kf_120.eq_2, if_neg (show ¬ ((1 : Nat) = 0) by decide), if_pos (show (1 : Nat) = 1 from rfl)]
set_option maxHeartbeats 8000000 in
set_option maxRecDepth 100000 in
theorem ks_120 : ∀ (n : Nat) (dp : Nat) (lab : Nat) (z : Nat) (kd : (Nat → Nat × Nat)) (I : Nat → Nat → Int32) (I' : JI) (L : Nat → Nat → Int64) (L' : JI) (R : (Nat → Nat → Option Nat)) (i1 : Int32) (i1' : Int) (i2 : Int32) (i2' : Int) (i3 : Int32) (i3' : Int) (i4 : Int32) (i4' : Int), Rli I I' → Rll L L' → Ui i1 i1' → Ui i2 i2' → Ui i3 i3' → Ui i4 i4' → Sim RPv (g_120 n dp lab z kd I L R i1 i2 i3 i4) (kf_120 n dp lab z kd I' L' R i1' i2' i3' i4') := by
  intro n
  induction n with
  | zero => intros; rw [kf_120.eq_1]; exact Sn
  | succ n ih =>
    intro dp lab z kd I I' L L' R i1 i1' i2 i2' i3 i3' i4 i4' u_I u_L u_i1 u_i2 u_i3 u_i4
    rw [g_120.eq_2, kf_120.eq_2]
    refine Sc Iff.rfl (fun _ => ?_) (fun _ => ?_)
    · refine Sc (eq_up (u_I 24 15) (rfl : Ui 0 0)) (fun c1 => ?_) (fun c1 => ?_)
      · exact Sr ⟨⟨rfl, rfl, u_I, u_L, rfl⟩, rfl⟩
      · refine Sc Iff.rfl (fun c2 => ?_) (fun _ => Sn)
        refine Sb3 (ks_117 n (dp - 1) (z, kd, R) 0 _ _ _ _ u_I u_L) (fun x_9 x_9' I_9 I_9' L_9 L_9' u_x_9 u_I_9 u_L_9 => ?_)
        refine Sc Iff.rfl (fun c3 => ?_) (fun _ => Sn)
        refine SbPv (ks_95 n (dp - 1) 0 z kd _ _ _ _ R u_I_9 u_L_9) (fun z_17 kd_17 I_17 I_17' L_17 L_17' R_17 ck_17 cm_17 u_I_17 u_L_17 => ?_)
        refine Sa_v rfl ?_
        refine Sc Iff.rfl (fun c4 => ?_) (fun _ => Sn)
        refine Sb3 (ks_105 n (dp - 1) (z_17, kd_17, R_17) 0 _ _ _ _ _ _ _ _ _ _ _ _ _ _ u_I_17 u_L_17 (u_I_17 2 0) (u_I_17 2 1) (u_I_17 2 2) (rfl : Ui 0 0) (rfl : Ui 0 0)) (fun x_48 x_48' I_48 I_48' L_48 L_48' u_x_48 u_I_48 u_L_48 => ?_)
        refine Sc Iff.rfl (fun c5 => ?_) (fun _ => Sn)
        refine Sg (fun g6 => ?_)
        refine SbPv (ks_106 n (dp - 1) 0 z_17 kd_17 _ _ _ _ R_17 _ _ _ _ _ _ u_I_48 u_L_48 (ui_sub u_x_48 (rfl : Ui (1) (1)) g6) (rfl : Ui 0 0) (rfl : Ui 0 0)) (fun z_63 kd_63 I_63 I_63' L_63 L_63' R_63 ck_63 cm_63 u_I_63 u_L_63 => ?_)
        refine Sa_v rfl ?_
        refine Sg (fun g7 => ?_)
        exact (ih dp 1 z_63 kd_63 _ _ _ _ R_63 _ _ _ _ _ _ _ _ u_I_63 u_L_63 (ui_mul u_x_9 (rfl : Ui (16) (16)) g7) u_x_48 (u_I_63 26 18) (rfl : Ui (0) (0)))
    refine Sc Iff.rfl (fun _ => ?_) (fun _ => ?_)
    · refine Sc (le_up u_i2 u_i4) (fun c1 => ?_) (fun c1 => ?_)
      · refine Sc Iff.rfl (fun c2 => ?_) (fun _ => Sn)
        refine Sb2 (ks_36 n (dp - 1) (z, kd, R) 0 _ _ _ _ _ _ _ _ _ _ 56 u_I u_L (rfl : Ui (-1) (-1)) (rfl : Ui 0 0) (rfl : Ui 0 0)) (fun I_162 I_162' L_162 L_162' u_I_162 u_L_162 => ?_)
        refine SsJ (ri_up u_I_162 (rfl : ((15 : Nat) : Int) = 15) (rfl : Ui (0) (0))) (fun I_167 I_167' u_I_167 => ?_)
        exact Sr ⟨⟨rfl, rfl, u_I_167, u_L_162, rfl⟩, rfl⟩
      · refine Sc Iff.rfl (fun c3 => ?_) (fun _ => Sn)
        refine Sb3 (ks_121 n (dp - 1) (z, kd, R) 0 _ _ _ _ _ _ u_I u_L u_i4) (fun x_90 x_90' I_90 I_90' L_90 L_90' u_x_90 u_I_90 u_L_90 => ?_)
        refine Sc Iff.rfl (fun c4 => ?_) (fun _ => Sn)
        refine Sg (fun g5 => ?_)
        refine Sb3 (ks_122 n (dp - 1) (z, kd, R) 0 _ _ _ _ _ _ _ _ _ _ _ _ _ _ _ _ _ _ u_I_90 u_L_90 u_x_90 (ui_sub (ui_sub u_i2 (rfl : Ui (1) (1)) g5.1) u_i4 g5.2) u_i3 u_i1 (rfl : Ui 0 0) (rfl : Ui 0 0) (rfl : Ui 0 0)) (fun x_101 x_101' I_101 I_101' L_101 L_101' u_x_101 u_I_101 u_L_101 => ?_)
        refine Sc (ix_up u_x_101) (fun c6 => ?_) (fun _ => Sn)
        refine Sc (ix_up u_i4) (fun c7 => ?_) (fun _ => Sn)
        refine SsJ (ri_up u_I_101 (kc_up u_i4 c7.1) (ui_rd (a := 30) u_I_101 u_x_101 c6.1)) (fun I_122 I_122' u_I_122 => ?_)
        refine Sc (ix_up u_x_101) (fun c8 => ?_) (fun _ => Sn)
        refine Sc Iff.rfl (fun c9 => ?_) (fun _ => Sn)
        refine Sb3 (ks_111 n (dp - 1) (z, kd, R) 0 _ _ _ _ _ _ _ _ u_I_122 u_L_101 u_i3 (ui_rd (a := 27) u_I_122 u_x_101 c8.1)) (fun x_134 x_134' I_134 I_134' L_134 L_134' u_x_134 u_I_134 u_L_134 => ?_)
        refine Sc (ix_up u_x_101) (fun c10 => ?_) (fun _ => Sn)
        refine Sg (fun g11 => ?_)
        refine SsI (ui_sub u_i1 (ui_rd (a := 28) u_I_134 u_x_101 c10.1) g11) (fun v_150 v_150' u_v_150 => ?_)
        refine Sg (fun g12 => ?_)
        exact (ih dp 1 z kd _ _ _ _ R _ _ _ _ _ _ _ _ u_I_134 u_L_134 u_v_150 u_i2 u_x_134 (ui_add u_i4 (rfl : Ui (Int32.ofInt (1)) (1)) g12))
    exact Sn
set_option maxHeartbeats 4000000 in
set_option maxRecDepth 100000 in
def kf_134 : Nat → Nat → Nat → Nat → (Nat → Nat × Nat) → JI → JI → (Nat → Nat → Option Nat) → Int → Int → Int → Int → Int → Option (PSi × Nat × Nat)
  | 0, _, _, _, _, _, _, _, _, _, _, _, _ => none
  | n + 1, dp, lab, z, kd, I, L, R, i1, i2, i3, i4, i5 =>
    if lab = 0 then (if 0 ≤ i1 ∧ i1 < 3 then (if (I 56 i1) = (-1) then (if 1 ≤ dp then ((kf_16 n (dp - 1) (z, kd, R) 0 I L).bind (fun ⟨x_15, I_15, L_15⟩ => (if i1 = 0 then (if -2147483648 ≤ (I_15 2 0) - 1 ∧ (I_15 2 0) - 1 ≤ 2147483647 then (stI ((I_15 2 0) - 1) (fun v_65 => (if v_65 = 0 then (if 0 ≤ i1 ∧ i1 < 3 then (stI (w2 I_15 56 i1 0) (fun I_83 => (if 0 ≤ i1 ∧ i1 < 3 then (stI (w2 I_83 57 i1 0) (fun I_90 => (if 2 ≤ x_15 then (if 1 ≤ dp then ((kf_95 n (dp - 1) 0 z kd I_90 L_15 R).bind (fun ⟨⟨z_98, kd_98, I_98, L_98, R_98⟩, ck_98, cm_98⟩ => (adk ck_98 cm_98 (if 1 ≤ dp then ((kf_103 n (dp - 1) 0 z_98 kd_98 I_98 L_98 R_98).bind (fun ⟨⟨z_105, kd_105, I_105, L_105, R_105⟩, ck_105, cm_105⟩ => (adk ck_105 cm_105 (if -2147483648 ≤ x_15 - 1 ∧ x_15 - 1 ≤ 2147483647 then (kf_134 n dp 1 z_105 kd_105 I_105 L_105 R_105 i1 x_15 v_65 1 (x_15 - 1)) else none)))) else none)))) else none) else (some ((z, kd, I_90, L_15, R), 0, 0))))) else none))) else none) else (if 0 ≤ i1 ∧ i1 < 3 then (stI (w2 I_15 56 i1 0) (fun I_83 => (if 0 ≤ i1 ∧ i1 < 3 then (stI (w2 I_83 57 i1 0) (fun I_90 => (if 2 ≤ x_15 then (if 1 ≤ dp then ((kf_95 n (dp - 1) 0 z kd I_90 L_15 R).bind (fun ⟨⟨z_98, kd_98, I_98, L_98, R_98⟩, ck_98, cm_98⟩ => (adk ck_98 cm_98 (if 1 ≤ dp then ((kf_103 n (dp - 1) 0 z_98 kd_98 I_98 L_98 R_98).bind (fun ⟨⟨z_105, kd_105, I_105, L_105, R_105⟩, ck_105, cm_105⟩ => (adk ck_105 cm_105 (if -2147483648 ≤ x_15 - 1 ∧ x_15 - 1 ≤ 2147483647 then (kf_134 n dp 1 z_105 kd_105 I_105 L_105 R_105 i1 x_15 v_65 0 (x_15 - 1)) else none)))) else none)))) else none) else (some ((z, kd, I_90, L_15, R), 0, 0))))) else none))) else none)))) else none) else (if i1 = 1 then (if (-2147483648 ≤ (I_15 2 0) + (I_15 2 1) ∧ (I_15 2 0) + (I_15 2 1) ≤ 2147483647) ∧ (-2147483648 ≤ ((I_15 2 0) + (I_15 2 1)) - 1 ∧ ((I_15 2 0) + (I_15 2 1)) - 1 ≤ 2147483647) then (stI (((I_15 2 0) + (I_15 2 1)) - 1) (fun v_65 => (if v_65 = 0 then (if 0 ≤ i1 ∧ i1 < 3 then (stI (w2 I_15 56 i1 0) (fun I_83 => (if 0 ≤ i1 ∧ i1 < 3 then (stI (w2 I_83 57 i1 0) (fun I_90 => (if 2 ≤ x_15 then (if 1 ≤ dp then ((kf_95 n (dp - 1) 0 z kd I_90 L_15 R).bind (fun ⟨⟨z_98, kd_98, I_98, L_98, R_98⟩, ck_98, cm_98⟩ => (adk ck_98 cm_98 (if 1 ≤ dp then ((kf_103 n (dp - 1) 0 z_98 kd_98 I_98 L_98 R_98).bind (fun ⟨⟨z_105, kd_105, I_105, L_105, R_105⟩, ck_105, cm_105⟩ => (adk ck_105 cm_105 (if -2147483648 ≤ x_15 - 1 ∧ x_15 - 1 ≤ 2147483647 then (kf_134 n dp 1 z_105 kd_105 I_105 L_105 R_105 i1 x_15 v_65 1 (x_15 - 1)) else none)))) else none)))) else none) else (some ((z, kd, I_90, L_15, R), 0, 0))))) else none))) else none) else (if 0 ≤ i1 ∧ i1 < 3 then (stI (w2 I_15 56 i1 0) (fun I_83 => (if 0 ≤ i1 ∧ i1 < 3 then (stI (w2 I_83 57 i1 0) (fun I_90 => (if 2 ≤ x_15 then (if 1 ≤ dp then ((kf_95 n (dp - 1) 0 z kd I_90 L_15 R).bind (fun ⟨⟨z_98, kd_98, I_98, L_98, R_98⟩, ck_98, cm_98⟩ => (adk ck_98 cm_98 (if 1 ≤ dp then ((kf_103 n (dp - 1) 0 z_98 kd_98 I_98 L_98 R_98).bind (fun ⟨⟨z_105, kd_105, I_105, L_105, R_105⟩, ck_105, cm_105⟩ => (adk ck_105 cm_105 (if -2147483648 ≤ x_15 - 1 ∧ x_15 - 1 ≤ 2147483647 then (kf_134 n dp 1 z_105 kd_105 I_105 L_105 R_105 i1 x_15 v_65 0 (x_15 - 1)) else none)))) else none)))) else none) else (some ((z, kd, I_90, L_15, R), 0, 0))))) else none))) else none)))) else none) else (if -2147483648 ≤ x_15 - 1 ∧ x_15 - 1 ≤ 2147483647 then (if (x_15 - 1) = 0 then (if 0 ≤ i1 ∧ i1 < 3 then (stI (w2 I_15 56 i1 0) (fun I_83 => (if 0 ≤ i1 ∧ i1 < 3 then (stI (w2 I_83 57 i1 0) (fun I_90 => (if 2 ≤ x_15 then (if 1 ≤ dp then ((kf_95 n (dp - 1) 0 z kd I_90 L_15 R).bind (fun ⟨⟨z_98, kd_98, I_98, L_98, R_98⟩, ck_98, cm_98⟩ => (adk ck_98 cm_98 (if 1 ≤ dp then ((kf_103 n (dp - 1) 0 z_98 kd_98 I_98 L_98 R_98).bind (fun ⟨⟨z_105, kd_105, I_105, L_105, R_105⟩, ck_105, cm_105⟩ => (adk ck_105 cm_105 (kf_134 n dp 1 z_105 kd_105 I_105 L_105 R_105 i1 x_15 (x_15 - 1) 1 (x_15 - 1))))) else none)))) else none) else (some ((z, kd, I_90, L_15, R), 0, 0))))) else none))) else none) else (if 0 ≤ i1 ∧ i1 < 3 then (stI (w2 I_15 56 i1 0) (fun I_83 => (if 0 ≤ i1 ∧ i1 < 3 then (stI (w2 I_83 57 i1 0) (fun I_90 => (if 2 ≤ x_15 then (if 1 ≤ dp then ((kf_95 n (dp - 1) 0 z kd I_90 L_15 R).bind (fun ⟨⟨z_98, kd_98, I_98, L_98, R_98⟩, ck_98, cm_98⟩ => (adk ck_98 cm_98 (if 1 ≤ dp then ((kf_103 n (dp - 1) 0 z_98 kd_98 I_98 L_98 R_98).bind (fun ⟨⟨z_105, kd_105, I_105, L_105, R_105⟩, ck_105, cm_105⟩ => (adk ck_105 cm_105 (kf_134 n dp 1 z_105 kd_105 I_105 L_105 R_105 i1 x_15 (x_15 - 1) 0 (x_15 - 1))))) else none)))) else none) else (some ((z, kd, I_90, L_15, R), 0, 0))))) else none))) else none)) else none))))) else none) else (some ((z, kd, I, L, R), 0, 0))) else none)
    else if lab = 1 then (if i5 ≤ i4 then (if 1 ≤ dp then ((kf_121 n (dp - 1) (z, kd, R) 0 I L i4).bind (fun ⟨x_164, I_164, L_164⟩ => (if 1 ≤ dp then ((kf_135 n (dp - 1) (z, kd, R) 0 I_164 L_164 i4).bind (fun ⟨x_170, I_170, L_170⟩ => (if 1 ≤ dp then ((kf_115 n (dp - 1) (z, kd, R) 0 I_170 L_170 x_164 x_170 0 0 0 0 0 0 0).bind (fun ⟨I_173, L_173⟩ => (if 1 ≤ dp then ((kf_103 n (dp - 1) 0 z kd I_173 L_173 R).bind (fun ⟨⟨z_180, kd_180, I_180, L_180, R_180⟩, ck_180, cm_180⟩ => (adk ck_180 cm_180 (if 0 ≤ i1 ∧ i1 < 3 then (if -2147483647 ≤ (I_180 44 8) then (stI (w2 I_180 57 i1 (Int.tdiv (I_180 44 8) 16)) (fun I_198 => (if 0 ≤ i1 ∧ i1 < 3 then (if (-2147483648 ≤ i2 - 1 ∧ i2 - 1 ≤ 2147483647) ∧ (-2147483647 ≤ (I_198 44 8)) ∧ (-2147483648 ≤ (i2 - 1) - (Int.tmod (I_198 44 8) 16) ∧ (i2 - 1) - (Int.tmod (I_198 44 8) 16) ≤ 2147483647) then (stI (w2 I_198 56 i1 ((i2 - 1) - (Int.tmod (I_198 44 8) 16))) (fun I_218 => (some ((z_180, kd_180, I_218, L_180, R_180), 0, 0)))) else none) else none))) else none) else none)))) else none))) else none))) else none))) else none) else (if i5 = i3 then (kf_134 n dp 2 z kd I L R i1 i2 i3 i4 i5) else (if 1 ≤ dp then ((kf_121 n (dp - 1) (z, kd, R) 0 I L i5).bind (fun ⟨x_136, I_136, L_136⟩ => (if 1 ≤ dp then ((kf_135 n (dp - 1) (z, kd, R) 0 I_136 L_136 i5).bind (fun ⟨x_142, I_142, L_142⟩ => (if 1 ≤ dp then ((kf_107 n (dp - 1) 0 z kd I_142 L_142 R x_136 x_142 0 0 0).bind (fun ⟨⟨z_145, kd_145, I_145, L_145, R_145⟩, ck_145, cm_145⟩ => (adk ck_145 cm_145 (kf_134 n dp 2 z_145 kd_145 I_145 L_145 R_145 i1 i2 i3 i4 i5)))) else none))) else none))) else none)))
    else if lab = 2 then (if -2147483648 ≤ i5 + (-1) ∧ i5 + (-1) ≤ 2147483647 then (kf_134 n dp 1 z kd I L R i1 i2 i3 i4 (i5 + (-1))) else none)
    else none
set_option maxRecDepth 100000 in
theorem ke_134_0 (n : Nat) (dp : Nat) (z : Nat) (kd : (Nat → Nat × Nat)) (I : JI) (L : JI) (R : (Nat → Nat → Option Nat)) (i1 : Int) (i2 : Int) (i3 : Int) (i4 : Int) (i5 : Int) : kf_134 (n + 1) dp 0 z kd I L R i1 i2 i3 i4 i5 = (if 0 ≤ i1 ∧ i1 < 3 then (if (I 56 i1) = (-1) then (if 1 ≤ dp then ((kf_16 n (dp - 1) (z, kd, R) 0 I L).bind (fun ⟨x_15, I_15, L_15⟩ => (if i1 = 0 then (if -2147483648 ≤ (I_15 2 0) - 1 ∧ (I_15 2 0) - 1 ≤ 2147483647 then (stI ((I_15 2 0) - 1) (fun v_65 => (if v_65 = 0 then (if 0 ≤ i1 ∧ i1 < 3 then (stI (w2 I_15 56 i1 0) (fun I_83 => (if 0 ≤ i1 ∧ i1 < 3 then (stI (w2 I_83 57 i1 0) (fun I_90 => (if 2 ≤ x_15 then (if 1 ≤ dp then ((kf_95 n (dp - 1) 0 z kd I_90 L_15 R).bind (fun ⟨⟨z_98, kd_98, I_98, L_98, R_98⟩, ck_98, cm_98⟩ => (adk ck_98 cm_98 (if 1 ≤ dp then ((kf_103 n (dp - 1) 0 z_98 kd_98 I_98 L_98 R_98).bind (fun ⟨⟨z_105, kd_105, I_105, L_105, R_105⟩, ck_105, cm_105⟩ => (adk ck_105 cm_105 (if -2147483648 ≤ x_15 - 1 ∧ x_15 - 1 ≤ 2147483647 then (kf_134 n dp 1 z_105 kd_105 I_105 L_105 R_105 i1 x_15 v_65 1 (x_15 - 1)) else none)))) else none)))) else none) else (some ((z, kd, I_90, L_15, R), 0, 0))))) else none))) else none) else (if 0 ≤ i1 ∧ i1 < 3 then (stI (w2 I_15 56 i1 0) (fun I_83 => (if 0 ≤ i1 ∧ i1 < 3 then (stI (w2 I_83 57 i1 0) (fun I_90 => (if 2 ≤ x_15 then (if 1 ≤ dp then ((kf_95 n (dp - 1) 0 z kd I_90 L_15 R).bind (fun ⟨⟨z_98, kd_98, I_98, L_98, R_98⟩, ck_98, cm_98⟩ => (adk ck_98 cm_98 (if 1 ≤ dp then ((kf_103 n (dp - 1) 0 z_98 kd_98 I_98 L_98 R_98).bind (fun ⟨⟨z_105, kd_105, I_105, L_105, R_105⟩, ck_105, cm_105⟩ => (adk ck_105 cm_105 (if -2147483648 ≤ x_15 - 1 ∧ x_15 - 1 ≤ 2147483647 then (kf_134 n dp 1 z_105 kd_105 I_105 L_105 R_105 i1 x_15 v_65 0 (x_15 - 1)) else none)))) else none)))) else none) else (some ((z, kd, I_90, L_15, R), 0, 0))))) else none))) else none)))) else none) else (if i1 = 1 then (if (-2147483648 ≤ (I_15 2 0) + (I_15 2 1) ∧ (I_15 2 0) + (I_15 2 1) ≤ 2147483647) ∧ (-2147483648 ≤ ((I_15 2 0) + (I_15 2 1)) - 1 ∧ ((I_15 2 0) + (I_15 2 1)) - 1 ≤ 2147483647) then (stI (((I_15 2 0) + (I_15 2 1)) - 1) (fun v_65 => (if v_65 = 0 then (if 0 ≤ i1 ∧ i1 < 3 then (stI (w2 I_15 56 i1 0) (fun I_83 => (if 0 ≤ i1 ∧ i1 < 3 then (stI (w2 I_83 57 i1 0) (fun I_90 => (if 2 ≤ x_15 then (if 1 ≤ dp then ((kf_95 n (dp - 1) 0 z kd I_90 L_15 R).bind (fun ⟨⟨z_98, kd_98, I_98, L_98, R_98⟩, ck_98, cm_98⟩ => (adk ck_98 cm_98 (if 1 ≤ dp then ((kf_103 n (dp - 1) 0 z_98 kd_98 I_98 L_98 R_98).bind (fun ⟨⟨z_105, kd_105, I_105, L_105, R_105⟩, ck_105, cm_105⟩ => (adk ck_105 cm_105 (if -2147483648 ≤ x_15 - 1 ∧ x_15 - 1 ≤ 2147483647 then (kf_134 n dp 1 z_105 kd_105 I_105 L_105 R_105 i1 x_15 v_65 1 (x_15 - 1)) else none)))) else none)))) else none) else (some ((z, kd, I_90, L_15, R), 0, 0))))) else none))) else none) else (if 0 ≤ i1 ∧ i1 < 3 then (stI (w2 I_15 56 i1 0) (fun I_83 => (if 0 ≤ i1 ∧ i1 < 3 then (stI (w2 I_83 57 i1 0) (fun I_90 => (if 2 ≤ x_15 then (if 1 ≤ dp then ((kf_95 n (dp - 1) 0 z kd I_90 L_15 R).bind (fun ⟨⟨z_98, kd_98, I_98, L_98, R_98⟩, ck_98, cm_98⟩ => (adk ck_98 cm_98 (if 1 ≤ dp then ((kf_103 n (dp - 1) 0 z_98 kd_98 I_98 L_98 R_98).bind (fun ⟨⟨z_105, kd_105, I_105, L_105, R_105⟩, ck_105, cm_105⟩ => (adk ck_105 cm_105 (if -2147483648 ≤ x_15 - 1 ∧ x_15 - 1 ≤ 2147483647 then (kf_134 n dp 1 z_105 kd_105 I_105 L_105 R_105 i1 x_15 v_65 0 (x_15 - 1)) else none)))) else none)))) else none) else (some ((z, kd, I_90, L_15, R), 0, 0))))) else none))) else none)))) else none) else (if -2147483648 ≤ x_15 - 1 ∧ x_15 - 1 ≤ 2147483647 then (if (x_15 - 1) = 0 then (if 0 ≤ i1 ∧ i1 < 3 then (stI (w2 I_15 56 i1 0) (fun I_83 => (if 0 ≤ i1 ∧ i1 < 3 then (stI (w2 I_83 57 i1 0) (fun I_90 => (if 2 ≤ x_15 then (if 1 ≤ dp then ((kf_95 n (dp - 1) 0 z kd I_90 L_15 R).bind (fun ⟨⟨z_98, kd_98, I_98, L_98, R_98⟩, ck_98, cm_98⟩ => (adk ck_98 cm_98 (if 1 ≤ dp then ((kf_103 n (dp - 1) 0 z_98 kd_98 I_98 L_98 R_98).bind (fun ⟨⟨z_105, kd_105, I_105, L_105, R_105⟩, ck_105, cm_105⟩ => (adk ck_105 cm_105 (kf_134 n dp 1 z_105 kd_105 I_105 L_105 R_105 i1 x_15 (x_15 - 1) 1 (x_15 - 1))))) else none)))) else none) else (some ((z, kd, I_90, L_15, R), 0, 0))))) else none))) else none) else (if 0 ≤ i1 ∧ i1 < 3 then (stI (w2 I_15 56 i1 0) (fun I_83 => (if 0 ≤ i1 ∧ i1 < 3 then (stI (w2 I_83 57 i1 0) (fun I_90 => (if 2 ≤ x_15 then (if 1 ≤ dp then ((kf_95 n (dp - 1) 0 z kd I_90 L_15 R).bind (fun ⟨⟨z_98, kd_98, I_98, L_98, R_98⟩, ck_98, cm_98⟩ => (adk ck_98 cm_98 (if 1 ≤ dp then ((kf_103 n (dp - 1) 0 z_98 kd_98 I_98 L_98 R_98).bind (fun ⟨⟨z_105, kd_105, I_105, L_105, R_105⟩, ck_105, cm_105⟩ => (adk ck_105 cm_105 (kf_134 n dp 1 z_105 kd_105 I_105 L_105 R_105 i1 x_15 (x_15 - 1) 0 (x_15 - 1))))) else none)))) else none) else (some ((z, kd, I_90, L_15, R), 0, 0))))) else none))) else none)) else none))))) else none) else (some ((z, kd, I, L, R), 0, 0))) else none) := by rw [kf_134.eq_2, if_pos (show (0 : Nat) = 0 from rfl)]
set_option maxRecDepth 100000 in
theorem ke_134_1 (n : Nat) (dp : Nat) (z : Nat) (kd : (Nat → Nat × Nat)) (I : JI) (L : JI) (R : (Nat → Nat → Option Nat)) (i1 : Int) (i2 : Int) (i3 : Int) (i4 : Int) (i5 : Int) : kf_134 (n + 1) dp 1 z kd I L R i1 i2 i3 i4 i5 = (if i5 ≤ i4 then (if 1 ≤ dp then ((kf_121 n (dp - 1) (z, kd, R) 0 I L i4).bind (fun ⟨x_164, I_164, L_164⟩ => (if 1 ≤ dp then ((kf_135 n (dp - 1) (z, kd, R) 0 I_164 L_164 i4).bind (fun ⟨x_170, I_170, L_170⟩ => (if 1 ≤ dp then ((kf_115 n (dp - 1) (z, kd, R) 0 I_170 L_170 x_164 x_170 0 0 0 0 0 0 0).bind (fun ⟨I_173, L_173⟩ => (if 1 ≤ dp then ((kf_103 n (dp - 1) 0 z kd I_173 L_173 R).bind (fun ⟨⟨z_180, kd_180, I_180, L_180, R_180⟩, ck_180, cm_180⟩ => (adk ck_180 cm_180 (if 0 ≤ i1 ∧ i1 < 3 then (if -2147483647 ≤ (I_180 44 8) then (stI (w2 I_180 57 i1 (Int.tdiv (I_180 44 8) 16)) (fun I_198 => (if 0 ≤ i1 ∧ i1 < 3 then (if (-2147483648 ≤ i2 - 1 ∧ i2 - 1 ≤ 2147483647) ∧ (-2147483647 ≤ (I_198 44 8)) ∧ (-2147483648 ≤ (i2 - 1) - (Int.tmod (I_198 44 8) 16) ∧ (i2 - 1) - (Int.tmod (I_198 44 8) 16) ≤ 2147483647) then (stI (w2 I_198 56 i1 ((i2 - 1) - (Int.tmod (I_198 44 8) 16))) (fun I_218 => (some ((z_180, kd_180, I_218, L_180, R_180), 0, 0)))) else none) else none))) else none) else none)))) else none))) else none))) else none))) else none) else (if i5 = i3 then (kf_134 n dp 2 z kd I L R i1 i2 i3 i4 i5) else (if 1 ≤ dp then ((kf_121 n (dp - 1) (z, kd, R) 0 I L i5).bind (fun ⟨x_136, I_136, L_136⟩ => (if 1 ≤ dp then ((kf_135 n (dp - 1) (z, kd, R) 0 I_136 L_136 i5).bind (fun ⟨x_142, I_142, L_142⟩ => (if 1 ≤ dp then ((kf_107 n (dp - 1) 0 z kd I_142 L_142 R x_136 x_142 0 0 0).bind (fun ⟨⟨z_145, kd_145, I_145, L_145, R_145⟩, ck_145, cm_145⟩ => (adk ck_145 cm_145 (kf_134 n dp 2 z_145 kd_145 I_145 L_145 R_145 i1 i2 i3 i4 i5)))) else none))) else none))) else none))) := by rw [kf_134.eq_2, if_neg (show ¬ ((1 : Nat) = 0) by decide), if_pos (show (1 : Nat) = 1 from rfl)]
set_option maxRecDepth 100000 in
theorem ke_134_2 (n : Nat) (dp : Nat) (z : Nat) (kd : (Nat → Nat × Nat)) (I : JI) (L : JI) (R : (Nat → Nat → Option Nat)) (i1 : Int) (i2 : Int) (i3 : Int) (i4 : Int) (i5 : Int) : kf_134 (n + 1) dp 2 z kd I L R i1 i2 i3 i4 i5 = (if -2147483648 ≤ i5 + (-1) ∧ i5 + (-1) ≤ 2147483647 then (kf_134 n dp 1 z kd I L R i1 i2 i3 i4 (i5 + (-1))) else none) := by rw [kf_134.eq_2, if_neg (show ¬ ((2 : Nat) = 0) by decide), if_neg (show ¬ ((2 : Nat) = 1) by decide), if_pos (show (2 : Nat) = 2 from rfl)]
set_option maxHeartbeats 8000000 in
set_option maxRecDepth 100000 in
theorem ks_134 : ∀ (n : Nat) (dp : Nat) (lab : Nat) (z : Nat) (kd : (Nat → Nat × Nat)) (I : Nat → Nat → Int32) (I' : JI) (L : Nat → Nat → Int64) (L' : JI) (R : (Nat → Nat → Option Nat)) (i1 : Int32) (i1' : Int) (i2 : Int32) (i2' : Int) (i3 : Int32) (i3' : Int) (i4 : Int32) (i4' : Int) (i5 : Int32) (i5' : Int), Rli I I' → Rll L L' → Ui i1 i1' → Ui i2 i2' → Ui i3 i3' → Ui i4 i4' → Ui i5 i5' → Sim RPv (g_134 n dp lab z kd I L R i1 i2 i3 i4 i5) (kf_134 n dp lab z kd I' L' R i1' i2' i3' i4' i5') := by
  intro n
  induction n with
  | zero => intros; rw [kf_134.eq_1]; exact Sn
  | succ n ih =>
    intro dp lab z kd I I' L L' R i1 i1' i2 i2' i3 i3' i4 i4' i5 i5' u_I u_L u_i1 u_i2 u_i3 u_i4 u_i5
    rw [g_134.eq_2, kf_134.eq_2]
    refine Sc Iff.rfl (fun _ => ?_) (fun _ => ?_)
    · refine Sc (ix_up u_i1) (fun c1 => ?_) (fun _ => Sn)
      refine Sc (eq_up (ui_rd (a := 56) u_I u_i1 c1.1) (rfl : Ui (-1) (-1))) (fun c2 => ?_) (fun c2 => ?_)
      · refine Sc Iff.rfl (fun c3 => ?_) (fun _ => Sn)
        refine Sb3 (ks_16 n (dp - 1) (z, kd, R) 0 _ _ _ _ u_I u_L) (fun x_15 x_15' I_15 I_15' L_15 L_15' u_x_15 u_I_15 u_L_15 => ?_)
        refine Sc (eq_up u_i1 (rfl : Ui 0 0)) (fun c4 => ?_) (fun c4 => ?_)
        · refine Sg (fun g5 => ?_)
          refine SsI (ui_sub (u_I_15 2 0) (rfl : Ui (1) (1)) g5) (fun v_65 v_65' u_v_65 => ?_)
          refine Sc (eq_up u_v_65 (rfl : Ui 0 0)) (fun c6 => ?_) (fun c6 => ?_)
          · refine Sc (ix_up u_i1) (fun c7 => ?_) (fun _ => Sn)
            refine SsJ (ri_up u_I_15 (kc_up u_i1 c7.1) (rfl : Ui (0) (0))) (fun I_83 I_83' u_I_83 => ?_)
            refine Sc (ix_up u_i1) (fun c8 => ?_) (fun _ => Sn)
            refine SsJ (ri_up u_I_83 (kc_up u_i1 c8.1) (rfl : Ui (0) (0))) (fun I_90 I_90' u_I_90 => ?_)
            refine Sc (le_up (rfl : Ui (2) (2)) u_x_15) (fun c9 => ?_) (fun c9 => ?_)
            · refine Sc Iff.rfl (fun c10 => ?_) (fun _ => Sn)
              refine SbPv (ks_95 n (dp - 1) 0 z kd _ _ _ _ R u_I_90 u_L_15) (fun z_98 kd_98 I_98 I_98' L_98 L_98' R_98 ck_98 cm_98 u_I_98 u_L_98 => ?_)
              refine Sa_v rfl ?_
              refine Sc Iff.rfl (fun c11 => ?_) (fun _ => Sn)
              refine SbPv (ks_103 n (dp - 1) 0 z_98 kd_98 _ _ _ _ R_98 u_I_98 u_L_98) (fun z_105 kd_105 I_105 I_105' L_105 L_105' R_105 ck_105 cm_105 u_I_105 u_L_105 => ?_)
              refine Sa_v rfl ?_
              refine Sg (fun g12 => ?_)
              exact (ih dp 1 z_105 kd_105 _ _ _ _ R_105 _ _ _ _ _ _ _ _ _ _ u_I_105 u_L_105 u_i1 u_x_15 u_v_65 (rfl : Ui (1) (1)) (ui_sub u_x_15 (rfl : Ui (1) (1)) g12))
            · exact Sr ⟨⟨rfl, rfl, u_I_90, u_L_15, rfl⟩, rfl⟩
          · refine Sc (ix_up u_i1) (fun c13 => ?_) (fun _ => Sn)
            refine SsJ (ri_up u_I_15 (kc_up u_i1 c13.1) (rfl : Ui (0) (0))) (fun I_83 I_83' u_I_83 => ?_)
            refine Sc (ix_up u_i1) (fun c14 => ?_) (fun _ => Sn)
            refine SsJ (ri_up u_I_83 (kc_up u_i1 c14.1) (rfl : Ui (0) (0))) (fun I_90 I_90' u_I_90 => ?_)
            refine Sc (le_up (rfl : Ui (2) (2)) u_x_15) (fun c15 => ?_) (fun c15 => ?_)
            · refine Sc Iff.rfl (fun c16 => ?_) (fun _ => Sn)
              refine SbPv (ks_95 n (dp - 1) 0 z kd _ _ _ _ R u_I_90 u_L_15) (fun z_98 kd_98 I_98 I_98' L_98 L_98' R_98 ck_98 cm_98 u_I_98 u_L_98 => ?_)
              refine Sa_v rfl ?_
              refine Sc Iff.rfl (fun c17 => ?_) (fun _ => Sn)
              refine SbPv (ks_103 n (dp - 1) 0 z_98 kd_98 _ _ _ _ R_98 u_I_98 u_L_98) (fun z_105 kd_105 I_105 I_105' L_105 L_105' R_105 ck_105 cm_105 u_I_105 u_L_105 => ?_)
              refine Sa_v rfl ?_
              refine Sg (fun g18 => ?_)
              exact (ih dp 1 z_105 kd_105 _ _ _ _ R_105 _ _ _ _ _ _ _ _ _ _ u_I_105 u_L_105 u_i1 u_x_15 u_v_65 (rfl : Ui (0) (0)) (ui_sub u_x_15 (rfl : Ui (1) (1)) g18))
            · exact Sr ⟨⟨rfl, rfl, u_I_90, u_L_15, rfl⟩, rfl⟩
        · refine Sc (eq_up u_i1 (rfl : Ui (1) (1))) (fun c19 => ?_) (fun c19 => ?_)
          · refine Sg (fun g20 => ?_)
            refine SsI (ui_sub (ui_add (u_I_15 2 0) (u_I_15 2 1) g20.1) (rfl : Ui (1) (1)) g20.2) (fun v_65 v_65' u_v_65 => ?_)
            refine Sc (eq_up u_v_65 (rfl : Ui 0 0)) (fun c21 => ?_) (fun c21 => ?_)
            · refine Sc (ix_up u_i1) (fun c22 => ?_) (fun _ => Sn)
              refine SsJ (ri_up u_I_15 (kc_up u_i1 c22.1) (rfl : Ui (0) (0))) (fun I_83 I_83' u_I_83 => ?_)
              refine Sc (ix_up u_i1) (fun c23 => ?_) (fun _ => Sn)
              refine SsJ (ri_up u_I_83 (kc_up u_i1 c23.1) (rfl : Ui (0) (0))) (fun I_90 I_90' u_I_90 => ?_)
              refine Sc (le_up (rfl : Ui (2) (2)) u_x_15) (fun c24 => ?_) (fun c24 => ?_)
              · refine Sc Iff.rfl (fun c25 => ?_) (fun _ => Sn)
                refine SbPv (ks_95 n (dp - 1) 0 z kd _ _ _ _ R u_I_90 u_L_15) (fun z_98 kd_98 I_98 I_98' L_98 L_98' R_98 ck_98 cm_98 u_I_98 u_L_98 => ?_)
                refine Sa_v rfl ?_
                refine Sc Iff.rfl (fun c26 => ?_) (fun _ => Sn)
                refine SbPv (ks_103 n (dp - 1) 0 z_98 kd_98 _ _ _ _ R_98 u_I_98 u_L_98) (fun z_105 kd_105 I_105 I_105' L_105 L_105' R_105 ck_105 cm_105 u_I_105 u_L_105 => ?_)
                refine Sa_v rfl ?_
                refine Sg (fun g27 => ?_)
                exact (ih dp 1 z_105 kd_105 _ _ _ _ R_105 _ _ _ _ _ _ _ _ _ _ u_I_105 u_L_105 u_i1 u_x_15 u_v_65 (rfl : Ui (1) (1)) (ui_sub u_x_15 (rfl : Ui (1) (1)) g27))
              · exact Sr ⟨⟨rfl, rfl, u_I_90, u_L_15, rfl⟩, rfl⟩
            · refine Sc (ix_up u_i1) (fun c28 => ?_) (fun _ => Sn)
              refine SsJ (ri_up u_I_15 (kc_up u_i1 c28.1) (rfl : Ui (0) (0))) (fun I_83 I_83' u_I_83 => ?_)
              refine Sc (ix_up u_i1) (fun c29 => ?_) (fun _ => Sn)
              refine SsJ (ri_up u_I_83 (kc_up u_i1 c29.1) (rfl : Ui (0) (0))) (fun I_90 I_90' u_I_90 => ?_)
              refine Sc (le_up (rfl : Ui (2) (2)) u_x_15) (fun c30 => ?_) (fun c30 => ?_)
              · refine Sc Iff.rfl (fun c31 => ?_) (fun _ => Sn)
                refine SbPv (ks_95 n (dp - 1) 0 z kd _ _ _ _ R u_I_90 u_L_15) (fun z_98 kd_98 I_98 I_98' L_98 L_98' R_98 ck_98 cm_98 u_I_98 u_L_98 => ?_)
                refine Sa_v rfl ?_
                refine Sc Iff.rfl (fun c32 => ?_) (fun _ => Sn)
                refine SbPv (ks_103 n (dp - 1) 0 z_98 kd_98 _ _ _ _ R_98 u_I_98 u_L_98) (fun z_105 kd_105 I_105 I_105' L_105 L_105' R_105 ck_105 cm_105 u_I_105 u_L_105 => ?_)
                refine Sa_v rfl ?_
                refine Sg (fun g33 => ?_)
                exact (ih dp 1 z_105 kd_105 _ _ _ _ R_105 _ _ _ _ _ _ _ _ _ _ u_I_105 u_L_105 u_i1 u_x_15 u_v_65 (rfl : Ui (0) (0)) (ui_sub u_x_15 (rfl : Ui (1) (1)) g33))
              · exact Sr ⟨⟨rfl, rfl, u_I_90, u_L_15, rfl⟩, rfl⟩
          · refine Sg (fun g34 => ?_)
            refine Sc (eq_up (ui_sub u_x_15 (rfl : Ui (1) (1)) g34) (rfl : Ui 0 0)) (fun c35 => ?_) (fun c35 => ?_)
            · refine Sc (ix_up u_i1) (fun c36 => ?_) (fun _ => Sn)
              refine SsJ (ri_up u_I_15 (kc_up u_i1 c36.1) (rfl : Ui (0) (0))) (fun I_83 I_83' u_I_83 => ?_)
              refine Sc (ix_up u_i1) (fun c37 => ?_) (fun _ => Sn)
              refine SsJ (ri_up u_I_83 (kc_up u_i1 c37.1) (rfl : Ui (0) (0))) (fun I_90 I_90' u_I_90 => ?_)
              refine Sc (le_up (rfl : Ui (2) (2)) u_x_15) (fun c38 => ?_) (fun c38 => ?_)
              · refine Sc Iff.rfl (fun c39 => ?_) (fun _ => Sn)
                refine SbPv (ks_95 n (dp - 1) 0 z kd _ _ _ _ R u_I_90 u_L_15) (fun z_98 kd_98 I_98 I_98' L_98 L_98' R_98 ck_98 cm_98 u_I_98 u_L_98 => ?_)
                refine Sa_v rfl ?_
                refine Sc Iff.rfl (fun c40 => ?_) (fun _ => Sn)
                refine SbPv (ks_103 n (dp - 1) 0 z_98 kd_98 _ _ _ _ R_98 u_I_98 u_L_98) (fun z_105 kd_105 I_105 I_105' L_105 L_105' R_105 ck_105 cm_105 u_I_105 u_L_105 => ?_)
                refine Sa_v rfl ?_
                exact (ih dp 1 z_105 kd_105 _ _ _ _ R_105 _ _ _ _ _ _ _ _ _ _ u_I_105 u_L_105 u_i1 u_x_15 (ui_sub u_x_15 (rfl : Ui (1) (1)) g34) (rfl : Ui (1) (1)) (ui_sub u_x_15 (rfl : Ui (1) (1)) g34))
              · exact Sr ⟨⟨rfl, rfl, u_I_90, u_L_15, rfl⟩, rfl⟩
            · refine Sc (ix_up u_i1) (fun c41 => ?_) (fun _ => Sn)
              refine SsJ (ri_up u_I_15 (kc_up u_i1 c41.1) (rfl : Ui (0) (0))) (fun I_83 I_83' u_I_83 => ?_)
              refine Sc (ix_up u_i1) (fun c42 => ?_) (fun _ => Sn)
              refine SsJ (ri_up u_I_83 (kc_up u_i1 c42.1) (rfl : Ui (0) (0))) (fun I_90 I_90' u_I_90 => ?_)
              refine Sc (le_up (rfl : Ui (2) (2)) u_x_15) (fun c43 => ?_) (fun c43 => ?_)
              · refine Sc Iff.rfl (fun c44 => ?_) (fun _ => Sn)
                refine SbPv (ks_95 n (dp - 1) 0 z kd _ _ _ _ R u_I_90 u_L_15) (fun z_98 kd_98 I_98 I_98' L_98 L_98' R_98 ck_98 cm_98 u_I_98 u_L_98 => ?_)
                refine Sa_v rfl ?_
                refine Sc Iff.rfl (fun c45 => ?_) (fun _ => Sn)
                refine SbPv (ks_103 n (dp - 1) 0 z_98 kd_98 _ _ _ _ R_98 u_I_98 u_L_98) (fun z_105 kd_105 I_105 I_105' L_105 L_105' R_105 ck_105 cm_105 u_I_105 u_L_105 => ?_)
                refine Sa_v rfl ?_
                exact (ih dp 1 z_105 kd_105 _ _ _ _ R_105 _ _ _ _ _ _ _ _ _ _ u_I_105 u_L_105 u_i1 u_x_15 (ui_sub u_x_15 (rfl : Ui (1) (1)) g34) (rfl : Ui (0) (0)) (ui_sub u_x_15 (rfl : Ui (1) (1)) g34))
              · exact Sr ⟨⟨rfl, rfl, u_I_90, u_L_15, rfl⟩, rfl⟩
      · exact Sr ⟨⟨rfl, rfl, u_I, u_L, rfl⟩, rfl⟩
    refine Sc Iff.rfl (fun _ => ?_) (fun _ => ?_)
    · refine Sc (le_up u_i5 u_i4) (fun c1 => ?_) (fun c1 => ?_)
      · refine Sc Iff.rfl (fun c2 => ?_) (fun _ => Sn)
        refine Sb3 (ks_121 n (dp - 1) (z, kd, R) 0 _ _ _ _ _ _ u_I u_L u_i4) (fun x_164 x_164' I_164 I_164' L_164 L_164' u_x_164 u_I_164 u_L_164 => ?_)
        refine Sc Iff.rfl (fun c3 => ?_) (fun _ => Sn)
        refine Sb3 (ks_135 n (dp - 1) (z, kd, R) 0 _ _ _ _ _ _ u_I_164 u_L_164 u_i4) (fun x_170 x_170' I_170 I_170' L_170 L_170' u_x_170 u_I_170 u_L_170 => ?_)
        refine Sc Iff.rfl (fun c4 => ?_) (fun _ => Sn)
        refine Sb2 (ks_115 n (dp - 1) (z, kd, R) 0 _ _ _ _ _ _ _ _ _ _ _ _ _ _ _ _ _ _ _ _ _ _ u_I_170 u_L_170 u_x_164 u_x_170 (rfl : Ui 0 0) (rfl : Ui 0 0) (rfl : Ui 0 0) (rfl : Ui 0 0) (rfl : Ui 0 0) (rfl : Ui 0 0) (rfl : Ui 0 0)) (fun I_173 I_173' L_173 L_173' u_I_173 u_L_173 => ?_)
        refine Sc Iff.rfl (fun c5 => ?_) (fun _ => Sn)
        refine SbPv (ks_103 n (dp - 1) 0 z kd _ _ _ _ R u_I_173 u_L_173) (fun z_180 kd_180 I_180 I_180' L_180 L_180' R_180 ck_180 cm_180 u_I_180 u_L_180 => ?_)
        refine Sa_v rfl ?_
        refine Sc (ix_up u_i1) (fun c6 => ?_) (fun _ => Sn)
        refine Sg (fun g7 => ?_)
        refine SsJ (ri_up u_I_180 (kc_up u_i1 c6.1) (ui_div (u_I_180 44 8) (rfl : Ui (16) (16)) g7)) (fun I_198 I_198' u_I_198 => ?_)
        refine Sc (ix_up u_i1) (fun c8 => ?_) (fun _ => Sn)
        refine Sg (fun g9 => ?_)
        refine SsJ (ri_up u_I_198 (kc_up u_i1 c8.1) (ui_sub (ui_sub u_i2 (rfl : Ui (1) (1)) g9.1) (ui_rem (u_I_198 44 8) (rfl : Ui (16) (16)) g9.2.1) g9.2.2)) (fun I_218 I_218' u_I_218 => ?_)
        exact Sr ⟨⟨rfl, rfl, u_I_218, u_L_180, rfl⟩, rfl⟩
      · refine Sc (eq_up u_i5 u_i3) (fun c10 => ?_) (fun c10 => ?_)
        · exact (ih dp 2 z kd _ _ _ _ R _ _ _ _ _ _ _ _ _ _ u_I u_L u_i1 u_i2 u_i3 u_i4 u_i5)
        · refine Sc Iff.rfl (fun c11 => ?_) (fun _ => Sn)
          refine Sb3 (ks_121 n (dp - 1) (z, kd, R) 0 _ _ _ _ _ _ u_I u_L u_i5) (fun x_136 x_136' I_136 I_136' L_136 L_136' u_x_136 u_I_136 u_L_136 => ?_)
          refine Sc Iff.rfl (fun c12 => ?_) (fun _ => Sn)
          refine Sb3 (ks_135 n (dp - 1) (z, kd, R) 0 _ _ _ _ _ _ u_I_136 u_L_136 u_i5) (fun x_142 x_142' I_142 I_142' L_142 L_142' u_x_142 u_I_142 u_L_142 => ?_)
          refine Sc Iff.rfl (fun c13 => ?_) (fun _ => Sn)
          refine SbPv (ks_107 n (dp - 1) 0 z kd _ _ _ _ R _ _ _ _ _ _ _ _ _ _ u_I_142 u_L_142 u_x_136 u_x_142 (rfl : Ui 0 0) (rfl : Ui 0 0) (rfl : Ui 0 0)) (fun z_145 kd_145 I_145 I_145' L_145 L_145' R_145 ck_145 cm_145 u_I_145 u_L_145 => ?_)
          refine Sa_v rfl ?_
          exact (ih dp 2 z_145 kd_145 _ _ _ _ R_145 _ _ _ _ _ _ _ _ _ _ u_I_145 u_L_145 u_i1 u_i2 u_i3 u_i4 u_i5)
    refine Sc Iff.rfl (fun _ => ?_) (fun _ => ?_)
    · refine Sg (fun g1 => ?_)
      exact (ih dp 1 z kd _ _ _ _ R _ _ _ _ _ _ _ _ _ _ u_I u_L u_i1 u_i2 u_i3 u_i4 (ui_add u_i5 (rfl : Ui (Int32.ofInt (-1)) (-1)) g1))
    exact Sn
set_option maxHeartbeats 4000000 in
set_option maxRecDepth 100000 in
def kf_91 : Nat → Nat → Nat → Nat → (Nat → Nat × Nat) → JI → JI → (Nat → Nat → Option Nat) → Option ((Int × PSi) × Nat × Nat)
  | 0, _, _, _, _, _, _, _ => none
  | n + 1, dp, lab, z, kd, I, L, R =>
    if lab = 0 then (if 1 ≤ dp then ((kf_81 n (dp - 1) (z, kd, R) 0 I L 0 0 0 0).bind (fun ⟨I_4, L_4⟩ => (if 1 ≤ dp then ((kf_92 n (dp - 1) 0 z kd I_4 L_4 R (I_4 2 0) (I_4 2 1) (I_4 2 2) 0).bind (fun ⟨⟨x_38, z_38, kd_38, I_38, L_38, R_38⟩, ck_38, cm_38⟩ => (adk ck_38 cm_38 (if x_38 = (-1) then (some (((0 : Int), z_38, kd_38, I_38, L_38, R_38), 0, 0)) else (some (((1 : Int), z_38, kd_38, I_38, L_38, R_38), 0, 0)))))) else none))) else none)
    else none
set_option maxRecDepth 100000 in
theorem ke_91_0 (n : Nat) (dp : Nat) (z : Nat) (kd : (Nat → Nat × Nat)) (I : JI) (L : JI) (R : (Nat → Nat → Option Nat)) : kf_91 (n + 1) dp 0 z kd I L R = (if 1 ≤ dp then ((kf_81 n (dp - 1) (z, kd, R) 0 I L 0 0 0 0).bind (fun ⟨I_4, L_4⟩ => (if 1 ≤ dp then ((kf_92 n (dp - 1) 0 z kd I_4 L_4 R (I_4 2 0) (I_4 2 1) (I_4 2 2) 0).bind (fun ⟨⟨x_38, z_38, kd_38, I_38, L_38, R_38⟩, ck_38, cm_38⟩ => (adk ck_38 cm_38 (if x_38 = (-1) then (some (((0 : Int), z_38, kd_38, I_38, L_38, R_38), 0, 0)) else (some (((1 : Int), z_38, kd_38, I_38, L_38, R_38), 0, 0)))))) else none))) else none) := by rw [kf_91.eq_2, if_pos (show (0 : Nat) = 0 from rfl)]
set_option maxHeartbeats 8000000 in
set_option maxRecDepth 100000 in
theorem ks_91 : ∀ (n : Nat) (dp : Nat) (lab : Nat) (z : Nat) (kd : (Nat → Nat × Nat)) (I : Nat → Nat → Int32) (I' : JI) (L : Nat → Nat → Int64) (L' : JI) (R : (Nat → Nat → Option Nat)), Rli I I' → Rll L L' → Sim RPi (g_91 n dp lab z kd I L R) (kf_91 n dp lab z kd I' L' R) := by
  intro n
  induction n with
  | zero => intros; rw [kf_91.eq_1]; exact Sn
  | succ n ih =>
    intro dp lab z kd I I' L L' R u_I u_L
    rw [g_91.eq_2, kf_91.eq_2]
    refine Sc Iff.rfl (fun _ => ?_) (fun _ => ?_)
    · refine Sc Iff.rfl (fun c1 => ?_) (fun _ => Sn)
      refine Sb2 (ks_81 n (dp - 1) (z, kd, R) 0 _ _ _ _ _ _ _ _ _ _ _ _ u_I u_L (rfl : Ui 0 0) (rfl : Ui 0 0) (rfl : Ui 0 0) (rfl : Ui 0 0)) (fun I_4 I_4' L_4 L_4' u_I_4 u_L_4 => ?_)
      refine Sc Iff.rfl (fun c2 => ?_) (fun _ => Sn)
      refine SbPi (ks_92 n (dp - 1) 0 z kd _ _ _ _ R _ _ _ _ _ _ _ _ u_I_4 u_L_4 (u_I_4 2 0) (u_I_4 2 1) (u_I_4 2 2) (rfl : Ui 0 0)) (fun x_38 x_38' z_38 kd_38 I_38 I_38' L_38 L_38' R_38 ck_38 cm_38 u_x_38 u_I_38 u_L_38 => ?_)
      refine Sa_i rfl ?_
      refine Sc (eq_up u_x_38 (rfl : Ui (-1) (-1))) (fun c3 => ?_) (fun c3 => ?_)
      · exact Sr ⟨(rfl : Ui (0) (0)), ⟨rfl, rfl, u_I_38, u_L_38, rfl⟩, rfl⟩
      · exact Sr ⟨(rfl : Ui (1) (1)), ⟨rfl, rfl, u_I_38, u_L_38, rfl⟩, rfl⟩
    exact Sn
set_option maxHeartbeats 4000000 in
set_option maxRecDepth 100000 in
def kf_90 : Nat → Nat → Nat → Nat → (Nat → Nat × Nat) → JI → JI → (Nat → Nat → Option Nat) → Int → Option ((Int × PSi) × Nat × Nat)
  | 0, _, _, _, _, _, _, _, _ => none
  | n + 1, dp, lab, z, kd, I, L, R, i1 =>
    if lab = 0 then (if 1 ≤ dp then ((kf_14 n (dp - 1) (z, kd, R) 0 I L i1 0 1).bind (fun ⟨x_3, I_3, L_3⟩ => (if x_3 = 0 then (some ((((-1) : Int), z, kd, I_3, L_3, R), 0, 0)) else (if 1 ≤ dp then ((kf_91 n (dp - 1) 0 z kd I_3 L_3 R).bind (fun ⟨⟨x_10, z_10, kd_10, I_10, L_10, R_10⟩, ck_10, cm_10⟩ => (adk ck_10 cm_10 (if x_10 = 0 then (some ((((-1) : Int), z_10, kd_10, I_10, L_10, R_10), 0, 0)) else (if i1 = 0 then (if 1 ≤ dp then ((kf_117 n (dp - 1) (z_10, kd_10, R_10) 0 I_10 L_10).bind (fun ⟨x_26, I_26, L_26⟩ => (some (((x_26 : Int), z_10, kd_10, I_26, L_26, R_10), 0, 0)))) else none) else (if 1 ≤ dp then ((kf_118 n (dp - 1) (z_10, kd_10, R_10) 0 I_10 L_10).bind (fun ⟨x_36, I_36, L_36⟩ => (some (((x_36 : Int), z_10, kd_10, I_36, L_36, R_10), 0, 0)))) else none)))))) else none)))) else none)
    else none
set_option maxRecDepth 100000 in
theorem ke_90_0 (n : Nat) (dp : Nat) (z : Nat) (kd : (Nat → Nat × Nat)) (I : JI) (L : JI) (R : (Nat → Nat → Option Nat)) (i1 : Int) : kf_90 (n + 1) dp 0 z kd I L R i1 = (if 1 ≤ dp then ((kf_14 n (dp - 1) (z, kd, R) 0 I L i1 0 1).bind (fun ⟨x_3, I_3, L_3⟩ => (if x_3 = 0 then (some ((((-1) : Int), z, kd, I_3, L_3, R), 0, 0)) else (if 1 ≤ dp then ((kf_91 n (dp - 1) 0 z kd I_3 L_3 R).bind (fun ⟨⟨x_10, z_10, kd_10, I_10, L_10, R_10⟩, ck_10, cm_10⟩ => (adk ck_10 cm_10 (if x_10 = 0 then (some ((((-1) : Int), z_10, kd_10, I_10, L_10, R_10), 0, 0)) else (if i1 = 0 then (if 1 ≤ dp then ((kf_117 n (dp - 1) (z_10, kd_10, R_10) 0 I_10 L_10).bind (fun ⟨x_26, I_26, L_26⟩ => (some (((x_26 : Int), z_10, kd_10, I_26, L_26, R_10), 0, 0)))) else none) else (if 1 ≤ dp then ((kf_118 n (dp - 1) (z_10, kd_10, R_10) 0 I_10 L_10).bind (fun ⟨x_36, I_36, L_36⟩ => (some (((x_36 : Int), z_10, kd_10, I_36, L_36, R_10), 0, 0)))) else none)))))) else none)))) else none) := by rw [kf_90.eq_2, if_pos (show (0 : Nat) = 0 from rfl)]
set_option maxHeartbeats 8000000 in
set_option maxRecDepth 100000 in
theorem ks_90 : ∀ (n : Nat) (dp : Nat) (lab : Nat) (z : Nat) (kd : (Nat → Nat × Nat)) (I : Nat → Nat → Int32) (I' : JI) (L : Nat → Nat → Int64) (L' : JI) (R : (Nat → Nat → Option Nat)) (i1 : Int32) (i1' : Int), Rli I I' → Rll L L' → Ui i1 i1' → Sim RPi (g_90 n dp lab z kd I L R i1) (kf_90 n dp lab z kd I' L' R i1') := by
  intro n
  induction n with
  | zero => intros; rw [kf_90.eq_1]; exact Sn
  | succ n ih =>
    intro dp lab z kd I I' L L' R i1 i1' u_I u_L u_i1
    rw [g_90.eq_2, kf_90.eq_2]
    refine Sc Iff.rfl (fun _ => ?_) (fun _ => ?_)
    · refine Sc Iff.rfl (fun c1 => ?_) (fun _ => Sn)
      refine Sb3 (ks_14 n (dp - 1) (z, kd, R) 0 _ _ _ _ _ _ _ _ _ _ u_I u_L u_i1 (rfl : Ui (0) (0)) (rfl : Ui (1) (1))) (fun x_3 x_3' I_3 I_3' L_3 L_3' u_x_3 u_I_3 u_L_3 => ?_)
      refine Sc (eq_up u_x_3 (rfl : Ui 0 0)) (fun c2 => ?_) (fun c2 => ?_)
      · exact Sr ⟨(rfl : Ui (-1) (-1)), ⟨rfl, rfl, u_I_3, u_L_3, rfl⟩, rfl⟩
      · refine Sc Iff.rfl (fun c3 => ?_) (fun _ => Sn)
        refine SbPi (ks_91 n (dp - 1) 0 z kd _ _ _ _ R u_I_3 u_L_3) (fun x_10 x_10' z_10 kd_10 I_10 I_10' L_10 L_10' R_10 ck_10 cm_10 u_x_10 u_I_10 u_L_10 => ?_)
        refine Sa_i rfl ?_
        refine Sc (eq_up u_x_10 (rfl : Ui 0 0)) (fun c4 => ?_) (fun c4 => ?_)
        · exact Sr ⟨(rfl : Ui (-1) (-1)), ⟨rfl, rfl, u_I_10, u_L_10, rfl⟩, rfl⟩
        · refine Sc (eq_up u_i1 (rfl : Ui 0 0)) (fun c5 => ?_) (fun c5 => ?_)
          · refine Sc Iff.rfl (fun c6 => ?_) (fun _ => Sn)
            refine Sb3 (ks_117 n (dp - 1) (z_10, kd_10, R_10) 0 _ _ _ _ u_I_10 u_L_10) (fun x_26 x_26' I_26 I_26' L_26 L_26' u_x_26 u_I_26 u_L_26 => ?_)
            exact Sr ⟨u_x_26, ⟨rfl, rfl, u_I_26, u_L_26, rfl⟩, rfl⟩
          · refine Sc Iff.rfl (fun c7 => ?_) (fun _ => Sn)
            refine Sb3 (ks_118 n (dp - 1) (z_10, kd_10, R_10) 0 _ _ _ _ u_I_10 u_L_10) (fun x_36 x_36' I_36 I_36' L_36 L_36' u_x_36 u_I_36 u_L_36 => ?_)
            exact Sr ⟨u_x_36, ⟨rfl, rfl, u_I_36, u_L_36, rfl⟩, rfl⟩
    exact Sn
set_option maxHeartbeats 4000000 in
set_option maxRecDepth 100000 in
def kf_119 : Nat → Nat → Nat → Nat → (Nat → Nat × Nat) → JI → JI → (Nat → Nat → Option Nat) → Int → Option ((Int × PSi) × Nat × Nat)
  | 0, _, _, _, _, _, _, _, _ => none
  | n + 1, dp, lab, z, kd, I, L, R, i1 =>
    if lab = 0 then (if 1 ≤ dp then ((kf_16 n (dp - 1) (z, kd, R) 0 I L).bind (fun ⟨x_6, I_6, L_6⟩ => (if 1 ≤ dp then (if -2147483648 ≤ x_6 - 1 ∧ x_6 - 1 ≤ 2147483647 then ((kf_14 n (dp - 1) (z, kd, R) 0 I_6 L_6 i1 0 (x_6 - 1)).bind (fun ⟨x_11, I_11, L_11⟩ => (if x_11 = 0 then (some ((((-1) : Int), z, kd, I_11, L_11, R), 0, 0)) else (if 1 ≤ dp then ((kf_91 n (dp - 1) 0 z kd I_11 L_11 R).bind (fun ⟨⟨x_18, z_18, kd_18, I_18, L_18, R_18⟩, ck_18, cm_18⟩ => (adk ck_18 cm_18 (if x_18 = 0 then (some ((((-1) : Int), z_18, kd_18, I_18, L_18, R_18), 0, 0)) else (if 1 ≤ dp then ((kf_120 n (dp - 1) 0 z_18 kd_18 I_18 L_18 R_18 0 0 0 0).bind (fun ⟨⟨z_30, kd_30, I_30, L_30, R_30⟩, ck_30, cm_30⟩ => (adk ck_30 cm_30 (if 0 ≤ i1 ∧ i1 < 8 then (some ((((I_30 55 i1) : Int), z_30, kd_30, I_30, L_30, R_30), 0, 0)) else none)))) else none))))) else none)))) else none) else none))) else none)
    else none
set_option maxRecDepth 100000 in
theorem ke_119_0 (n : Nat) (dp : Nat) (z : Nat) (kd : (Nat → Nat × Nat)) (I : JI) (L : JI) (R : (Nat → Nat → Option Nat)) (i1 : Int) : kf_119 (n + 1) dp 0 z kd I L R i1 = (if 1 ≤ dp then ((kf_16 n (dp - 1) (z, kd, R) 0 I L).bind (fun ⟨x_6, I_6, L_6⟩ => (if 1 ≤ dp then (if -2147483648 ≤ x_6 - 1 ∧ x_6 - 1 ≤ 2147483647 then ((kf_14 n (dp - 1) (z, kd, R) 0 I_6 L_6 i1 0 (x_6 - 1)).bind (fun ⟨x_11, I_11, L_11⟩ => (if x_11 = 0 then (some ((((-1) : Int), z, kd, I_11, L_11, R), 0, 0)) else (if 1 ≤ dp then ((kf_91 n (dp - 1) 0 z kd I_11 L_11 R).bind (fun ⟨⟨x_18, z_18, kd_18, I_18, L_18, R_18⟩, ck_18, cm_18⟩ => (adk ck_18 cm_18 (if x_18 = 0 then (some ((((-1) : Int), z_18, kd_18, I_18, L_18, R_18), 0, 0)) else (if 1 ≤ dp then ((kf_120 n (dp - 1) 0 z_18 kd_18 I_18 L_18 R_18 0 0 0 0).bind (fun ⟨⟨z_30, kd_30, I_30, L_30, R_30⟩, ck_30, cm_30⟩ => (adk ck_30 cm_30 (if 0 ≤ i1 ∧ i1 < 8 then (some ((((I_30 55 i1) : Int), z_30, kd_30, I_30, L_30, R_30), 0, 0)) else none)))) else none))))) else none)))) else none) else none))) else none) := by rw [kf_119.eq_2, if_pos (show (0 : Nat) = 0 from rfl)]
set_option maxHeartbeats 8000000 in
set_option maxRecDepth 100000 in
theorem ks_119 : ∀ (n : Nat) (dp : Nat) (lab : Nat) (z : Nat) (kd : (Nat → Nat × Nat)) (I : Nat → Nat → Int32) (I' : JI) (L : Nat → Nat → Int64) (L' : JI) (R : (Nat → Nat → Option Nat)) (i1 : Int32) (i1' : Int), Rli I I' → Rll L L' → Ui i1 i1' → Sim RPi (g_119 n dp lab z kd I L R i1) (kf_119 n dp lab z kd I' L' R i1') := by
  intro n
  induction n with
  | zero => intros; rw [kf_119.eq_1]; exact Sn
  | succ n ih =>
    intro dp lab z kd I I' L L' R i1 i1' u_I u_L u_i1
    rw [g_119.eq_2, kf_119.eq_2]
    refine Sc Iff.rfl (fun _ => ?_) (fun _ => ?_)
    · refine Sc Iff.rfl (fun c1 => ?_) (fun _ => Sn)
      refine Sb3 (ks_16 n (dp - 1) (z, kd, R) 0 _ _ _ _ u_I u_L) (fun x_6 x_6' I_6 I_6' L_6 L_6' u_x_6 u_I_6 u_L_6 => ?_)
      refine Sc Iff.rfl (fun c2 => ?_) (fun _ => Sn)
      refine Sg (fun g3 => ?_)
      refine Sb3 (ks_14 n (dp - 1) (z, kd, R) 0 _ _ _ _ _ _ _ _ _ _ u_I_6 u_L_6 u_i1 (rfl : Ui (0) (0)) (ui_sub u_x_6 (rfl : Ui (1) (1)) g3)) (fun x_11 x_11' I_11 I_11' L_11 L_11' u_x_11 u_I_11 u_L_11 => ?_)
      refine Sc (eq_up u_x_11 (rfl : Ui 0 0)) (fun c4 => ?_) (fun c4 => ?_)
      · exact Sr ⟨(rfl : Ui (-1) (-1)), ⟨rfl, rfl, u_I_11, u_L_11, rfl⟩, rfl⟩
      · refine Sc Iff.rfl (fun c5 => ?_) (fun _ => Sn)
        refine SbPi (ks_91 n (dp - 1) 0 z kd _ _ _ _ R u_I_11 u_L_11) (fun x_18 x_18' z_18 kd_18 I_18 I_18' L_18 L_18' R_18 ck_18 cm_18 u_x_18 u_I_18 u_L_18 => ?_)
        refine Sa_i rfl ?_
        refine Sc (eq_up u_x_18 (rfl : Ui 0 0)) (fun c6 => ?_) (fun c6 => ?_)
        · exact Sr ⟨(rfl : Ui (-1) (-1)), ⟨rfl, rfl, u_I_18, u_L_18, rfl⟩, rfl⟩
        · refine Sc Iff.rfl (fun c7 => ?_) (fun _ => Sn)
          refine SbPv (ks_120 n (dp - 1) 0 z_18 kd_18 _ _ _ _ R_18 _ _ _ _ _ _ _ _ u_I_18 u_L_18 (rfl : Ui 0 0) (rfl : Ui 0 0) (rfl : Ui 0 0) (rfl : Ui 0 0)) (fun z_30 kd_30 I_30 I_30' L_30 L_30' R_30 ck_30 cm_30 u_I_30 u_L_30 => ?_)
          refine Sa_i rfl ?_
          refine Sc (ix_up u_i1) (fun c8 => ?_) (fun _ => Sn)
          exact Sr ⟨(ui_rd (a := 55) u_I_30 u_i1 c8.1), ⟨rfl, rfl, u_I_30, u_L_30, rfl⟩, rfl⟩
    exact Sn
set_option maxHeartbeats 4000000 in
set_option maxRecDepth 100000 in
def kf_124 : Nat → Nat → Nat → Nat → (Nat → Nat × Nat) → JI → JI → (Nat → Nat → Option Nat) → Int → Int → Option ((Int × PSi) × Nat × Nat)
  | 0, _, _, _, _, _, _, _, _, _ => none
  | n + 1, dp, lab, z, kd, I, L, R, i1, i2 =>
    if lab = 0 then (if 1 ≤ dp then ((kf_14 n (dp - 1) (z, kd, R) 0 I L i1 0 9).bind (fun ⟨x_4, I_4, L_4⟩ => (if x_4 = 0 then (some ((((-1) : Int), z, kd, I_4, L_4, R), 0, 0)) else (if 1 ≤ dp then ((kf_14 n (dp - 1) (z, kd, R) 0 I_4 L_4 i2 0 1).bind (fun ⟨x_13, I_13, L_13⟩ => (if x_13 = 0 then (some ((((-1) : Int), z, kd, I_13, L_13, R), 0, 0)) else (if 1 ≤ dp then ((kf_91 n (dp - 1) 0 z kd I_13 L_13 R).bind (fun ⟨⟨x_20, z_20, kd_20, I_20, L_20, R_20⟩, ck_20, cm_20⟩ => (adk ck_20 cm_20 (if x_20 = 0 then (some ((((-1) : Int), z_20, kd_20, I_20, L_20, R_20), 0, 0)) else (if 1 ≤ dp then ((kf_120 n (dp - 1) 0 z_20 kd_20 I_20 L_20 R_20 0 0 0 0).bind (fun ⟨⟨z_32, kd_32, I_32, L_32, R_32⟩, ck_32, cm_32⟩ => (adk ck_32 cm_32 (if 1 ≤ dp then ((kf_125 n (dp - 1) (z_32, kd_32, R_32) 0 I_32 L_32 i1 0 0 0).bind (fun ⟨x_40, I_40, L_40⟩ => (if i2 = 0 then (some (((x_40 : Int), z_32, kd_32, I_40, L_40, R_32), 0, 0)) else (if 1 ≤ dp then ((kf_126 n (dp - 1) (z_32, kd_32, R_32) 0 I_40 L_40 i1 x_40).bind (fun ⟨x_58, I_58, L_58⟩ => (some (((x_58 : Int), z_32, kd_32, I_58, L_58, R_32), 0, 0)))) else none)))) else none)))) else none))))) else none)))) else none)))) else none)
    else none
set_option maxRecDepth 100000 in
theorem ke_124_0 (n : Nat) (dp : Nat) (z : Nat) (kd : (Nat → Nat × Nat)) (I : JI) (L : JI) (R : (Nat → Nat → Option Nat)) (i1 : Int) (i2 : Int) : kf_124 (n + 1) dp 0 z kd I L R i1 i2 = (if 1 ≤ dp then ((kf_14 n (dp - 1) (z, kd, R) 0 I L i1 0 9).bind (fun ⟨x_4, I_4, L_4⟩ => (if x_4 = 0 then (some ((((-1) : Int), z, kd, I_4, L_4, R), 0, 0)) else (if 1 ≤ dp then ((kf_14 n (dp - 1) (z, kd, R) 0 I_4 L_4 i2 0 1).bind (fun ⟨x_13, I_13, L_13⟩ => (if x_13 = 0 then (some ((((-1) : Int), z, kd, I_13, L_13, R), 0, 0)) else (if 1 ≤ dp then ((kf_91 n (dp - 1) 0 z kd I_13 L_13 R).bind (fun ⟨⟨x_20, z_20, kd_20, I_20, L_20, R_20⟩, ck_20, cm_20⟩ => (adk ck_20 cm_20 (if x_20 = 0 then (some ((((-1) : Int), z_20, kd_20, I_20, L_20, R_20), 0, 0)) else (if 1 ≤ dp then ((kf_120 n (dp - 1) 0 z_20 kd_20 I_20 L_20 R_20 0 0 0 0).bind (fun ⟨⟨z_32, kd_32, I_32, L_32, R_32⟩, ck_32, cm_32⟩ => (adk ck_32 cm_32 (if 1 ≤ dp then ((kf_125 n (dp - 1) (z_32, kd_32, R_32) 0 I_32 L_32 i1 0 0 0).bind (fun ⟨x_40, I_40, L_40⟩ => (if i2 = 0 then (some (((x_40 : Int), z_32, kd_32, I_40, L_40, R_32), 0, 0)) else (if 1 ≤ dp then ((kf_126 n (dp - 1) (z_32, kd_32, R_32) 0 I_40 L_40 i1 x_40).bind (fun ⟨x_58, I_58, L_58⟩ => (some (((x_58 : Int), z_32, kd_32, I_58, L_58, R_32), 0, 0)))) else none)))) else none)))) else none))))) else none)))) else none)))) else none) := by rw [kf_124.eq_2, if_pos (show (0 : Nat) = 0 from rfl)]
set_option maxHeartbeats 8000000 in
set_option maxRecDepth 100000 in
theorem ks_124 : ∀ (n : Nat) (dp : Nat) (lab : Nat) (z : Nat) (kd : (Nat → Nat × Nat)) (I : Nat → Nat → Int32) (I' : JI) (L : Nat → Nat → Int64) (L' : JI) (R : (Nat → Nat → Option Nat)) (i1 : Int32) (i1' : Int) (i2 : Int32) (i2' : Int), Rli I I' → Rll L L' → Ui i1 i1' → Ui i2 i2' → Sim RPi (g_124 n dp lab z kd I L R i1 i2) (kf_124 n dp lab z kd I' L' R i1' i2') := by
  intro n
  induction n with
  | zero => intros; rw [kf_124.eq_1]; exact Sn
  | succ n ih =>
    intro dp lab z kd I I' L L' R i1 i1' i2 i2' u_I u_L u_i1 u_i2
    rw [g_124.eq_2, kf_124.eq_2]
    refine Sc Iff.rfl (fun _ => ?_) (fun _ => ?_)
    · refine Sc Iff.rfl (fun c1 => ?_) (fun _ => Sn)
      refine Sb3 (ks_14 n (dp - 1) (z, kd, R) 0 _ _ _ _ _ _ _ _ _ _ u_I u_L u_i1 (rfl : Ui (0) (0)) (rfl : Ui (9) (9))) (fun x_4 x_4' I_4 I_4' L_4 L_4' u_x_4 u_I_4 u_L_4 => ?_)
      refine Sc (eq_up u_x_4 (rfl : Ui 0 0)) (fun c2 => ?_) (fun c2 => ?_)
      · exact Sr ⟨(rfl : Ui (-1) (-1)), ⟨rfl, rfl, u_I_4, u_L_4, rfl⟩, rfl⟩
      · refine Sc Iff.rfl (fun c3 => ?_) (fun _ => Sn)
        refine Sb3 (ks_14 n (dp - 1) (z, kd, R) 0 _ _ _ _ _ _ _ _ _ _ u_I_4 u_L_4 u_i2 (rfl : Ui (0) (0)) (rfl : Ui (1) (1))) (fun x_13 x_13' I_13 I_13' L_13 L_13' u_x_13 u_I_13 u_L_13 => ?_)
        refine Sc (eq_up u_x_13 (rfl : Ui 0 0)) (fun c4 => ?_) (fun c4 => ?_)
        · exact Sr ⟨(rfl : Ui (-1) (-1)), ⟨rfl, rfl, u_I_13, u_L_13, rfl⟩, rfl⟩
        · refine Sc Iff.rfl (fun c5 => ?_) (fun _ => Sn)
          refine SbPi (ks_91 n (dp - 1) 0 z kd _ _ _ _ R u_I_13 u_L_13) (fun x_20 x_20' z_20 kd_20 I_20 I_20' L_20 L_20' R_20 ck_20 cm_20 u_x_20 u_I_20 u_L_20 => ?_)
          refine Sa_i rfl ?_
          refine Sc (eq_up u_x_20 (rfl : Ui 0 0)) (fun c6 => ?_) (fun c6 => ?_)
          · exact Sr ⟨(rfl : Ui (-1) (-1)), ⟨rfl, rfl, u_I_20, u_L_20, rfl⟩, rfl⟩
          · refine Sc Iff.rfl (fun c7 => ?_) (fun _ => Sn)
            refine SbPv (ks_120 n (dp - 1) 0 z_20 kd_20 _ _ _ _ R_20 _ _ _ _ _ _ _ _ u_I_20 u_L_20 (rfl : Ui 0 0) (rfl : Ui 0 0) (rfl : Ui 0 0) (rfl : Ui 0 0)) (fun z_32 kd_32 I_32 I_32' L_32 L_32' R_32 ck_32 cm_32 u_I_32 u_L_32 => ?_)
            refine Sa_i rfl ?_
            refine Sc Iff.rfl (fun c8 => ?_) (fun _ => Sn)
            refine Sb3 (ks_125 n (dp - 1) (z_32, kd_32, R_32) 0 _ _ _ _ _ _ _ _ _ _ _ _ u_I_32 u_L_32 u_i1 (rfl : Ui 0 0) (rfl : Ui 0 0) (rfl : Ui 0 0)) (fun x_40 x_40' I_40 I_40' L_40 L_40' u_x_40 u_I_40 u_L_40 => ?_)
            refine Sc (eq_up u_i2 (rfl : Ui 0 0)) (fun c9 => ?_) (fun c9 => ?_)
            · exact Sr ⟨u_x_40, ⟨rfl, rfl, u_I_40, u_L_40, rfl⟩, rfl⟩
            · refine Sc Iff.rfl (fun c10 => ?_) (fun _ => Sn)
              refine Sb3 (ks_126 n (dp - 1) (z_32, kd_32, R_32) 0 _ _ _ _ _ _ _ _ u_I_40 u_L_40 u_i1 u_x_40) (fun x_58 x_58' I_58 I_58' L_58 L_58' u_x_58 u_I_58 u_L_58 => ?_)
              exact Sr ⟨u_x_58, ⟨rfl, rfl, u_I_58, u_L_58, rfl⟩, rfl⟩
    exact Sn
set_option maxHeartbeats 4000000 in
set_option maxRecDepth 100000 in
def kf_127 : Nat → Nat → Nat → Nat → (Nat → Nat × Nat) → JI → JI → (Nat → Nat → Option Nat) → Int → Option ((Int × PSi) × Nat × Nat)
  | 0, _, _, _, _, _, _, _, _ => none
  | n + 1, dp, lab, z, kd, I, L, R, i1 =>
    if lab = 0 then (if 1 ≤ dp then ((kf_14 n (dp - 1) (z, kd, R) 0 I L i1 0 2).bind (fun ⟨x_3, I_3, L_3⟩ => (if x_3 = 0 then (some ((((-1) : Int), z, kd, I_3, L_3, R), 0, 0)) else (if 1 ≤ dp then ((kf_91 n (dp - 1) 0 z kd I_3 L_3 R).bind (fun ⟨⟨x_10, z_10, kd_10, I_10, L_10, R_10⟩, ck_10, cm_10⟩ => (adk ck_10 cm_10 (if x_10 = 0 then (some ((((-1) : Int), z_10, kd_10, I_10, L_10, R_10), 0, 0)) else (if 1 ≤ dp then ((kf_128 n (dp - 1) 0 z_10 kd_10 I_10 L_10 R_10 i1 1).bind (fun ⟨⟨x_24, z_24, kd_24, I_24, L_24, R_24⟩, ck_24, cm_24⟩ => (adk ck_24 cm_24 (if x_24 = (-1) then (some ((((-1) : Int), z_24, kd_24, I_24, L_24, R_24), 0, 0)) else (if 1 ≤ dp then ((kf_117 n (dp - 1) (z_24, kd_24, R_24) 0 I_24 L_24).bind (fun ⟨x_42, I_42, L_42⟩ => (if -2147483648 ≤ x_24 - x_42 ∧ x_24 - x_42 ≤ 2147483647 then (some ((((x_24 - x_42) : Int), z_24, kd_24, I_42, L_42, R_24), 0, 0)) else none))) else none))))) else none))))) else none)))) else none)
    else none
set_option maxRecDepth 100000 in
theorem ke_127_0 (n : Nat) (dp : Nat) (z : Nat) (kd : (Nat → Nat × Nat)) (I : JI) (L : JI) (R : (Nat → Nat → Option Nat)) (i1 : Int) : kf_127 (n + 1) dp 0 z kd I L R i1 = (if 1 ≤ dp then ((kf_14 n (dp - 1) (z, kd, R) 0 I L i1 0 2).bind (fun ⟨x_3, I_3, L_3⟩ => (if x_3 = 0 then (some ((((-1) : Int), z, kd, I_3, L_3, R), 0, 0)) else (if 1 ≤ dp then ((kf_91 n (dp - 1) 0 z kd I_3 L_3 R).bind (fun ⟨⟨x_10, z_10, kd_10, I_10, L_10, R_10⟩, ck_10, cm_10⟩ => (adk ck_10 cm_10 (if x_10 = 0 then (some ((((-1) : Int), z_10, kd_10, I_10, L_10, R_10), 0, 0)) else (if 1 ≤ dp then ((kf_128 n (dp - 1) 0 z_10 kd_10 I_10 L_10 R_10 i1 1).bind (fun ⟨⟨x_24, z_24, kd_24, I_24, L_24, R_24⟩, ck_24, cm_24⟩ => (adk ck_24 cm_24 (if x_24 = (-1) then (some ((((-1) : Int), z_24, kd_24, I_24, L_24, R_24), 0, 0)) else (if 1 ≤ dp then ((kf_117 n (dp - 1) (z_24, kd_24, R_24) 0 I_24 L_24).bind (fun ⟨x_42, I_42, L_42⟩ => (if -2147483648 ≤ x_24 - x_42 ∧ x_24 - x_42 ≤ 2147483647 then (some ((((x_24 - x_42) : Int), z_24, kd_24, I_42, L_42, R_24), 0, 0)) else none))) else none))))) else none))))) else none)))) else none) := by rw [kf_127.eq_2, if_pos (show (0 : Nat) = 0 from rfl)]
set_option maxHeartbeats 8000000 in
set_option maxRecDepth 100000 in
theorem ks_127 : ∀ (n : Nat) (dp : Nat) (lab : Nat) (z : Nat) (kd : (Nat → Nat × Nat)) (I : Nat → Nat → Int32) (I' : JI) (L : Nat → Nat → Int64) (L' : JI) (R : (Nat → Nat → Option Nat)) (i1 : Int32) (i1' : Int), Rli I I' → Rll L L' → Ui i1 i1' → Sim RPi (g_127 n dp lab z kd I L R i1) (kf_127 n dp lab z kd I' L' R i1') := by
  intro n
  induction n with
  | zero => intros; rw [kf_127.eq_1]; exact Sn
  | succ n ih =>
    intro dp lab z kd I I' L L' R i1 i1' u_I u_L u_i1
    rw [g_127.eq_2, kf_127.eq_2]
    refine Sc Iff.rfl (fun _ => ?_) (fun _ => ?_)
    · refine Sc Iff.rfl (fun c1 => ?_) (fun _ => Sn)
      refine Sb3 (ks_14 n (dp - 1) (z, kd, R) 0 _ _ _ _ _ _ _ _ _ _ u_I u_L u_i1 (rfl : Ui (0) (0)) (rfl : Ui (2) (2))) (fun x_3 x_3' I_3 I_3' L_3 L_3' u_x_3 u_I_3 u_L_3 => ?_)
      refine Sc (eq_up u_x_3 (rfl : Ui 0 0)) (fun c2 => ?_) (fun c2 => ?_)
      · exact Sr ⟨(rfl : Ui (-1) (-1)), ⟨rfl, rfl, u_I_3, u_L_3, rfl⟩, rfl⟩
      · refine Sc Iff.rfl (fun c3 => ?_) (fun _ => Sn)
        refine SbPi (ks_91 n (dp - 1) 0 z kd _ _ _ _ R u_I_3 u_L_3) (fun x_10 x_10' z_10 kd_10 I_10 I_10' L_10 L_10' R_10 ck_10 cm_10 u_x_10 u_I_10 u_L_10 => ?_)
        refine Sa_i rfl ?_
        refine Sc (eq_up u_x_10 (rfl : Ui 0 0)) (fun c4 => ?_) (fun c4 => ?_)
        · exact Sr ⟨(rfl : Ui (-1) (-1)), ⟨rfl, rfl, u_I_10, u_L_10, rfl⟩, rfl⟩
        · refine Sc Iff.rfl (fun c5 => ?_) (fun _ => Sn)
          refine SbPi (ks_128 n (dp - 1) 0 z_10 kd_10 _ _ _ _ R_10 _ _ _ _ u_I_10 u_L_10 u_i1 (rfl : Ui (1) (1))) (fun x_24 x_24' z_24 kd_24 I_24 I_24' L_24 L_24' R_24 ck_24 cm_24 u_x_24 u_I_24 u_L_24 => ?_)
          refine Sa_i rfl ?_
          refine Sc (eq_up u_x_24 (rfl : Ui (-1) (-1))) (fun c6 => ?_) (fun c6 => ?_)
          · exact Sr ⟨(rfl : Ui (-1) (-1)), ⟨rfl, rfl, u_I_24, u_L_24, rfl⟩, rfl⟩
          · refine Sc Iff.rfl (fun c7 => ?_) (fun _ => Sn)
            refine Sb3 (ks_117 n (dp - 1) (z_24, kd_24, R_24) 0 _ _ _ _ u_I_24 u_L_24) (fun x_42 x_42' I_42 I_42' L_42 L_42' u_x_42 u_I_42 u_L_42 => ?_)
            refine Sg (fun g8 => ?_)
            exact Sr ⟨(ui_sub u_x_24 u_x_42 g8), ⟨rfl, rfl, u_I_42, u_L_42, rfl⟩, rfl⟩
    exact Sn
set_option maxHeartbeats 4000000 in
set_option maxRecDepth 100000 in
def kf_129 : Nat → Nat → Nat → Nat → (Nat → Nat × Nat) → JI → JI → (Nat → Nat → Option Nat) → Int → Option ((Int × PSi) × Nat × Nat)
  | 0, _, _, _, _, _, _, _, _ => none
  | n + 1, dp, lab, z, kd, I, L, R, i1 =>
    if lab = 0 then (if 1 ≤ dp then ((kf_14 n (dp - 1) (z, kd, R) 0 I L i1 0 2).bind (fun ⟨x_3, I_3, L_3⟩ => (if x_3 = 0 then (some ((((-100000) : Int), z, kd, I_3, L_3, R), 0, 0)) else (if 1 ≤ dp then ((kf_91 n (dp - 1) 0 z kd I_3 L_3 R).bind (fun ⟨⟨x_10, z_10, kd_10, I_10, L_10, R_10⟩, ck_10, cm_10⟩ => (adk ck_10 cm_10 (if x_10 = 0 then (some ((((-100000) : Int), z_10, kd_10, I_10, L_10, R_10), 0, 0)) else (if 1 ≤ dp then ((kf_128 n (dp - 1) 0 z_10 kd_10 I_10 L_10 R_10 i1 (-1)).bind (fun ⟨⟨x_25, z_25, kd_25, I_25, L_25, R_25⟩, ck_25, cm_25⟩ => (adk ck_25 cm_25 (if x_25 = (-1) then (some ((((-100000) : Int), z_25, kd_25, I_25, L_25, R_25), 0, 0)) else (if 1 ≤ dp then ((kf_117 n (dp - 1) (z_25, kd_25, R_25) 0 I_25 L_25).bind (fun ⟨x_43, I_43, L_43⟩ => (if -2147483648 ≤ x_43 - x_25 ∧ x_43 - x_25 ≤ 2147483647 then (some ((((x_43 - x_25) : Int), z_25, kd_25, I_43, L_43, R_25), 0, 0)) else none))) else none))))) else none))))) else none)))) else none)
    else none
set_option maxRecDepth 100000 in
theorem ke_129_0 (n : Nat) (dp : Nat) (z : Nat) (kd : (Nat → Nat × Nat)) (I : JI) (L : JI) (R : (Nat → Nat → Option Nat)) (i1 : Int) : kf_129 (n + 1) dp 0 z kd I L R i1 = (if 1 ≤ dp then ((kf_14 n (dp - 1) (z, kd, R) 0 I L i1 0 2).bind (fun ⟨x_3, I_3, L_3⟩ => (if x_3 = 0 then (some ((((-100000) : Int), z, kd, I_3, L_3, R), 0, 0)) else (if 1 ≤ dp then ((kf_91 n (dp - 1) 0 z kd I_3 L_3 R).bind (fun ⟨⟨x_10, z_10, kd_10, I_10, L_10, R_10⟩, ck_10, cm_10⟩ => (adk ck_10 cm_10 (if x_10 = 0 then (some ((((-100000) : Int), z_10, kd_10, I_10, L_10, R_10), 0, 0)) else (if 1 ≤ dp then ((kf_128 n (dp - 1) 0 z_10 kd_10 I_10 L_10 R_10 i1 (-1)).bind (fun ⟨⟨x_25, z_25, kd_25, I_25, L_25, R_25⟩, ck_25, cm_25⟩ => (adk ck_25 cm_25 (if x_25 = (-1) then (some ((((-100000) : Int), z_25, kd_25, I_25, L_25, R_25), 0, 0)) else (if 1 ≤ dp then ((kf_117 n (dp - 1) (z_25, kd_25, R_25) 0 I_25 L_25).bind (fun ⟨x_43, I_43, L_43⟩ => (if -2147483648 ≤ x_43 - x_25 ∧ x_43 - x_25 ≤ 2147483647 then (some ((((x_43 - x_25) : Int), z_25, kd_25, I_43, L_43, R_25), 0, 0)) else none))) else none))))) else none))))) else none)))) else none) := by rw [kf_129.eq_2, if_pos (show (0 : Nat) = 0 from rfl)]
set_option maxHeartbeats 8000000 in
set_option maxRecDepth 100000 in
theorem ks_129 : ∀ (n : Nat) (dp : Nat) (lab : Nat) (z : Nat) (kd : (Nat → Nat × Nat)) (I : Nat → Nat → Int32) (I' : JI) (L : Nat → Nat → Int64) (L' : JI) (R : (Nat → Nat → Option Nat)) (i1 : Int32) (i1' : Int), Rli I I' → Rll L L' → Ui i1 i1' → Sim RPi (g_129 n dp lab z kd I L R i1) (kf_129 n dp lab z kd I' L' R i1') := by
  intro n
  induction n with
  | zero => intros; rw [kf_129.eq_1]; exact Sn
  | succ n ih =>
    intro dp lab z kd I I' L L' R i1 i1' u_I u_L u_i1
    rw [g_129.eq_2, kf_129.eq_2]
    refine Sc Iff.rfl (fun _ => ?_) (fun _ => ?_)
    · refine Sc Iff.rfl (fun c1 => ?_) (fun _ => Sn)
      refine Sb3 (ks_14 n (dp - 1) (z, kd, R) 0 _ _ _ _ _ _ _ _ _ _ u_I u_L u_i1 (rfl : Ui (0) (0)) (rfl : Ui (2) (2))) (fun x_3 x_3' I_3 I_3' L_3 L_3' u_x_3 u_I_3 u_L_3 => ?_)
      refine Sc (eq_up u_x_3 (rfl : Ui 0 0)) (fun c2 => ?_) (fun c2 => ?_)
      · exact Sr ⟨(rfl : Ui (-100000) (-100000)), ⟨rfl, rfl, u_I_3, u_L_3, rfl⟩, rfl⟩
      · refine Sc Iff.rfl (fun c3 => ?_) (fun _ => Sn)
        refine SbPi (ks_91 n (dp - 1) 0 z kd _ _ _ _ R u_I_3 u_L_3) (fun x_10 x_10' z_10 kd_10 I_10 I_10' L_10 L_10' R_10 ck_10 cm_10 u_x_10 u_I_10 u_L_10 => ?_)
        refine Sa_i rfl ?_
        refine Sc (eq_up u_x_10 (rfl : Ui 0 0)) (fun c4 => ?_) (fun c4 => ?_)
        · exact Sr ⟨(rfl : Ui (-100000) (-100000)), ⟨rfl, rfl, u_I_10, u_L_10, rfl⟩, rfl⟩
        · refine Sc Iff.rfl (fun c5 => ?_) (fun _ => Sn)
          refine SbPi (ks_128 n (dp - 1) 0 z_10 kd_10 _ _ _ _ R_10 _ _ _ _ u_I_10 u_L_10 u_i1 (rfl : Ui (-1) (-1))) (fun x_25 x_25' z_25 kd_25 I_25 I_25' L_25 L_25' R_25 ck_25 cm_25 u_x_25 u_I_25 u_L_25 => ?_)
          refine Sa_i rfl ?_
          refine Sc (eq_up u_x_25 (rfl : Ui (-1) (-1))) (fun c6 => ?_) (fun c6 => ?_)
          · exact Sr ⟨(rfl : Ui (-100000) (-100000)), ⟨rfl, rfl, u_I_25, u_L_25, rfl⟩, rfl⟩
          · refine Sc Iff.rfl (fun c7 => ?_) (fun _ => Sn)
            refine Sb3 (ks_117 n (dp - 1) (z_25, kd_25, R_25) 0 _ _ _ _ u_I_25 u_L_25) (fun x_43 x_43' I_43 I_43' L_43 L_43' u_x_43 u_I_43 u_L_43 => ?_)
            refine Sg (fun g8 => ?_)
            exact Sr ⟨(ui_sub u_x_43 u_x_25 g8), ⟨rfl, rfl, u_I_43, u_L_43, rfl⟩, rfl⟩
    exact Sn
set_option maxHeartbeats 4000000 in
set_option maxRecDepth 100000 in
def kf_130 : Nat → Nat → Nat → Nat → (Nat → Nat × Nat) → JI → JI → (Nat → Nat → Option Nat) → Int → Option ((Int × PSi) × Nat × Nat)
  | 0, _, _, _, _, _, _, _, _ => none
  | n + 1, dp, lab, z, kd, I, L, R, i1 =>
    if lab = 0 then (if 1 ≤ dp then ((kf_14 n (dp - 1) (z, kd, R) 0 I L i1 0 9).bind (fun ⟨x_4, I_4, L_4⟩ => (if x_4 = 0 then (some ((((-1) : Int), z, kd, I_4, L_4, R), 0, 0)) else (if 1 ≤ dp then ((kf_91 n (dp - 1) 0 z kd I_4 L_4 R).bind (fun ⟨⟨x_11, z_11, kd_11, I_11, L_11, R_11⟩, ck_11, cm_11⟩ => (adk ck_11 cm_11 (if x_11 = 0 then (some ((((-1) : Int), z_11, kd_11, I_11, L_11, R_11), 0, 0)) else (if 1 ≤ dp then ((kf_131 n (dp - 1) 0 z_11 kd_11 I_11 L_11 R_11 i1 0 0 0).bind (fun ⟨⟨x_22, z_22, kd_22, I_22, L_22, R_22⟩, ck_22, cm_22⟩ => (adk ck_22 cm_22 (some (((x_22 : Int), z_22, kd_22, I_22, L_22, R_22), 0, 0))))) else none))))) else none)))) else none)
    else none
set_option maxRecDepth 100000 in
theorem ke_130_0 (n : Nat) (dp : Nat) (z : Nat) (kd : (Nat → Nat × Nat)) (I : JI) (L : JI) (R : (Nat → Nat → Option Nat)) (i1 : Int) : kf_130 (n + 1) dp 0 z kd I L R i1 = (if 1 ≤ dp then ((kf_14 n (dp - 1) (z, kd, R) 0 I L i1 0 9).bind (fun ⟨x_4, I_4, L_4⟩ => (if x_4 = 0 then (some ((((-1) : Int), z, kd, I_4, L_4, R), 0, 0)) else (if 1 ≤ dp then ((kf_91 n (dp - 1) 0 z kd I_4 L_4 R).bind (fun ⟨⟨x_11, z_11, kd_11, I_11, L_11, R_11⟩, ck_11, cm_11⟩ => (adk ck_11 cm_11 (if x_11 = 0 then (some ((((-1) : Int), z_11, kd_11, I_11, L_11, R_11), 0, 0)) else (if 1 ≤ dp then ((kf_131 n (dp - 1) 0 z_11 kd_11 I_11 L_11 R_11 i1 0 0 0).bind (fun ⟨⟨x_22, z_22, kd_22, I_22, L_22, R_22⟩, ck_22, cm_22⟩ => (adk ck_22 cm_22 (some (((x_22 : Int), z_22, kd_22, I_22, L_22, R_22), 0, 0))))) else none))))) else none)))) else none) := by rw [kf_130.eq_2, if_pos (show (0 : Nat) = 0 from rfl)]
set_option maxHeartbeats 8000000 in
set_option maxRecDepth 100000 in
theorem ks_130 : ∀ (n : Nat) (dp : Nat) (lab : Nat) (z : Nat) (kd : (Nat → Nat × Nat)) (I : Nat → Nat → Int32) (I' : JI) (L : Nat → Nat → Int64) (L' : JI) (R : (Nat → Nat → Option Nat)) (i1 : Int32) (i1' : Int), Rli I I' → Rll L L' → Ui i1 i1' → Sim RPi (g_130 n dp lab z kd I L R i1) (kf_130 n dp lab z kd I' L' R i1') := by
  intro n
  induction n with
  | zero => intros; rw [kf_130.eq_1]; exact Sn
  | succ n ih =>
    intro dp lab z kd I I' L L' R i1 i1' u_I u_L u_i1
    rw [g_130.eq_2, kf_130.eq_2]
    refine Sc Iff.rfl (fun _ => ?_) (fun _ => ?_)
    · refine Sc Iff.rfl (fun c1 => ?_) (fun _ => Sn)
      refine Sb3 (ks_14 n (dp - 1) (z, kd, R) 0 _ _ _ _ _ _ _ _ _ _ u_I u_L u_i1 (rfl : Ui (0) (0)) (rfl : Ui (9) (9))) (fun x_4 x_4' I_4 I_4' L_4 L_4' u_x_4 u_I_4 u_L_4 => ?_)
      refine Sc (eq_up u_x_4 (rfl : Ui 0 0)) (fun c2 => ?_) (fun c2 => ?_)
      · exact Sr ⟨(rfl : Ui (-1) (-1)), ⟨rfl, rfl, u_I_4, u_L_4, rfl⟩, rfl⟩
      · refine Sc Iff.rfl (fun c3 => ?_) (fun _ => Sn)
        refine SbPi (ks_91 n (dp - 1) 0 z kd _ _ _ _ R u_I_4 u_L_4) (fun x_11 x_11' z_11 kd_11 I_11 I_11' L_11 L_11' R_11 ck_11 cm_11 u_x_11 u_I_11 u_L_11 => ?_)
        refine Sa_i rfl ?_
        refine Sc (eq_up u_x_11 (rfl : Ui 0 0)) (fun c4 => ?_) (fun c4 => ?_)
        · exact Sr ⟨(rfl : Ui (-1) (-1)), ⟨rfl, rfl, u_I_11, u_L_11, rfl⟩, rfl⟩
        · refine Sc Iff.rfl (fun c5 => ?_) (fun _ => Sn)
          refine SbPi (ks_131 n (dp - 1) 0 z_11 kd_11 _ _ _ _ R_11 _ _ _ _ _ _ _ _ u_I_11 u_L_11 u_i1 (rfl : Ui 0 0) (rfl : Ui 0 0) (rfl : Ui 0 0)) (fun x_22 x_22' z_22 kd_22 I_22 I_22' L_22 L_22' R_22 ck_22 cm_22 u_x_22 u_I_22 u_L_22 => ?_)
          refine Sa_i rfl ?_
          exact Sr ⟨u_x_22, ⟨rfl, rfl, u_I_22, u_L_22, rfl⟩, rfl⟩
    exact Sn
set_option maxHeartbeats 4000000 in
set_option maxRecDepth 100000 in
def kf_133 : Nat → Nat → Nat → Nat → (Nat → Nat × Nat) → JI → JI → (Nat → Nat → Option Nat) → Int → Int → Option ((Int × PSi) × Nat × Nat)
  | 0, _, _, _, _, _, _, _, _, _ => none
  | n + 1, dp, lab, z, kd, I, L, R, i1, i2 =>
    if lab = 0 then (if 1 ≤ dp then ((kf_14 n (dp - 1) (z, kd, R) 0 I L i1 0 2).bind (fun ⟨x_3, I_3, L_3⟩ => (if x_3 = 0 then (some ((((-1) : Int), z, kd, I_3, L_3, R), 0, 0)) else (if 1 ≤ dp then ((kf_14 n (dp - 1) (z, kd, R) 0 I_3 L_3 i2 0 1).bind (fun ⟨x_12, I_12, L_12⟩ => (if x_12 = 0 then (some ((((-1) : Int), z, kd, I_12, L_12, R), 0, 0)) else (if 0 ≤ i1 ∧ i1 < 3 then (if (I_12 2 i1) = 0 then (some ((((-1) : Int), z, kd, I_12, L_12, R), 0, 0)) else (if 1 ≤ dp then ((kf_91 n (dp - 1) 0 z kd I_12 L_12 R).bind (fun ⟨⟨x_31, z_31, kd_31, I_31, L_31, R_31⟩, ck_31, cm_31⟩ => (adk ck_31 cm_31 (if x_31 = 0 then (some ((((-1) : Int), z_31, kd_31, I_31, L_31, R_31), 0, 0)) else (if 1 ≤ dp then ((kf_120 n (dp - 1) 0 z_31 kd_31 I_31 L_31 R_31 0 0 0 0).bind (fun ⟨⟨z_43, kd_43, I_43, L_43, R_43⟩, ck_43, cm_43⟩ => (adk ck_43 cm_43 (if 1 ≤ dp then ((kf_134 n (dp - 1) 0 z_43 kd_43 I_43 L_43 R_43 i1 0 0 0 0).bind (fun ⟨⟨z_51, kd_51, I_51, L_51, R_51⟩, ck_51, cm_51⟩ => (adk ck_51 cm_51 (if i2 = 0 then (if 0 ≤ i1 ∧ i1 < 3 then (some ((((I_51 56 i1) : Int), z_51, kd_51, I_51, L_51, R_51), 0, 0)) else none) else (if 0 ≤ i1 ∧ i1 < 3 then (some ((((I_51 57 i1) : Int), z_51, kd_51, I_51, L_51, R_51), 0, 0)) else none))))) else none)))) else none))))) else none)) else none)))) else none)))) else none)
    else none
set_option maxRecDepth 100000 in
theorem ke_133_0 (n : Nat) (dp : Nat) (z : Nat) (kd : (Nat → Nat × Nat)) (I : JI) (L : JI) (R : (Nat → Nat → Option Nat)) (i1 : Int) (i2 : Int) : kf_133 (n + 1) dp 0 z kd I L R i1 i2 = (if 1 ≤ dp then ((kf_14 n (dp - 1) (z, kd, R) 0 I L i1 0 2).bind (fun ⟨x_3, I_3, L_3⟩ => (if x_3 = 0 then (some ((((-1) : Int), z, kd, I_3, L_3, R), 0, 0)) else (if 1 ≤ dp then ((kf_14 n (dp - 1) (z, kd, R) 0 I_3 L_3 i2 0 1).bind (fun ⟨x_12, I_12, L_12⟩ => (if x_12 = 0 then (some ((((-1) : Int), z, kd, I_12, L_12, R), 0, 0)) else (if 0 ≤ i1 ∧ i1 < 3 then (if (I_12 2 i1) = 0 then (some ((((-1) : Int), z, kd, I_12, L_12, R), 0, 0)) else (if 1 ≤ dp then ((kf_91 n (dp - 1) 0 z kd I_12 L_12 R).bind (fun ⟨⟨x_31, z_31, kd_31, I_31, L_31, R_31⟩, ck_31, cm_31⟩ => (adk ck_31 cm_31 (if x_31 = 0 then (some ((((-1) : Int), z_31, kd_31, I_31, L_31, R_31), 0, 0)) else (if 1 ≤ dp then ((kf_120 n (dp - 1) 0 z_31 kd_31 I_31 L_31 R_31 0 0 0 0).bind (fun ⟨⟨z_43, kd_43, I_43, L_43, R_43⟩, ck_43, cm_43⟩ => (adk ck_43 cm_43 (if 1 ≤ dp then ((kf_134 n (dp - 1) 0 z_43 kd_43 I_43 L_43 R_43 i1 0 0 0 0).bind (fun ⟨⟨z_51, kd_51, I_51, L_51, R_51⟩, ck_51, cm_51⟩ => (adk ck_51 cm_51 (if i2 = 0 then (if 0 ≤ i1 ∧ i1 < 3 then (some ((((I_51 56 i1) : Int), z_51, kd_51, I_51, L_51, R_51), 0, 0)) else none) else (if 0 ≤ i1 ∧ i1 < 3 then (some ((((I_51 57 i1) : Int), z_51, kd_51, I_51, L_51, R_51), 0, 0)) else none))))) else none)))) else none))))) else none)) else none)))) else none)))) else none) := by rw [kf_133.eq_2, if_pos (show (0 : Nat) = 0 from rfl)]
set_option maxHeartbeats 8000000 in
set_option maxRecDepth 100000 in
theorem ks_133 : ∀ (n : Nat) (dp : Nat) (lab : Nat) (z : Nat) (kd : (Nat → Nat × Nat)) (I : Nat → Nat → Int32) (I' : JI) (L : Nat → Nat → Int64) (L' : JI) (R : (Nat → Nat → Option Nat)) (i1 : Int32) (i1' : Int) (i2 : Int32) (i2' : Int), Rli I I' → Rll L L' → Ui i1 i1' → Ui i2 i2' → Sim RPi (g_133 n dp lab z kd I L R i1 i2) (kf_133 n dp lab z kd I' L' R i1' i2') := by
  intro n
  induction n with
  | zero => intros; rw [kf_133.eq_1]; exact Sn
  | succ n ih =>
    intro dp lab z kd I I' L L' R i1 i1' i2 i2' u_I u_L u_i1 u_i2
    rw [g_133.eq_2, kf_133.eq_2]
    refine Sc Iff.rfl (fun _ => ?_) (fun _ => ?_)
    · refine Sc Iff.rfl (fun c1 => ?_) (fun _ => Sn)
      refine Sb3 (ks_14 n (dp - 1) (z, kd, R) 0 _ _ _ _ _ _ _ _ _ _ u_I u_L u_i1 (rfl : Ui (0) (0)) (rfl : Ui (2) (2))) (fun x_3 x_3' I_3 I_3' L_3 L_3' u_x_3 u_I_3 u_L_3 => ?_)
      refine Sc (eq_up u_x_3 (rfl : Ui 0 0)) (fun c2 => ?_) (fun c2 => ?_)
      · exact Sr ⟨(rfl : Ui (-1) (-1)), ⟨rfl, rfl, u_I_3, u_L_3, rfl⟩, rfl⟩
      · refine Sc Iff.rfl (fun c3 => ?_) (fun _ => Sn)
        refine Sb3 (ks_14 n (dp - 1) (z, kd, R) 0 _ _ _ _ _ _ _ _ _ _ u_I_3 u_L_3 u_i2 (rfl : Ui (0) (0)) (rfl : Ui (1) (1))) (fun x_12 x_12' I_12 I_12' L_12 L_12' u_x_12 u_I_12 u_L_12 => ?_)
        refine Sc (eq_up u_x_12 (rfl : Ui 0 0)) (fun c4 => ?_) (fun c4 => ?_)
        · exact Sr ⟨(rfl : Ui (-1) (-1)), ⟨rfl, rfl, u_I_12, u_L_12, rfl⟩, rfl⟩
        · refine Sc (ix_up u_i1) (fun c5 => ?_) (fun _ => Sn)
          refine Sc (eq_up (ui_rd (a := 2) u_I_12 u_i1 c5.1) (rfl : Ui 0 0)) (fun c6 => ?_) (fun c6 => ?_)
          · exact Sr ⟨(rfl : Ui (-1) (-1)), ⟨rfl, rfl, u_I_12, u_L_12, rfl⟩, rfl⟩
          · refine Sc Iff.rfl (fun c7 => ?_) (fun _ => Sn)
            refine SbPi (ks_91 n (dp - 1) 0 z kd _ _ _ _ R u_I_12 u_L_12) (fun x_31 x_31' z_31 kd_31 I_31 I_31' L_31 L_31' R_31 ck_31 cm_31 u_x_31 u_I_31 u_L_31 => ?_)
            refine Sa_i rfl ?_
            refine Sc (eq_up u_x_31 (rfl : Ui 0 0)) (fun c8 => ?_) (fun c8 => ?_)
            · exact Sr ⟨(rfl : Ui (-1) (-1)), ⟨rfl, rfl, u_I_31, u_L_31, rfl⟩, rfl⟩
            · refine Sc Iff.rfl (fun c9 => ?_) (fun _ => Sn)
              refine SbPv (ks_120 n (dp - 1) 0 z_31 kd_31 _ _ _ _ R_31 _ _ _ _ _ _ _ _ u_I_31 u_L_31 (rfl : Ui 0 0) (rfl : Ui 0 0) (rfl : Ui 0 0) (rfl : Ui 0 0)) (fun z_43 kd_43 I_43 I_43' L_43 L_43' R_43 ck_43 cm_43 u_I_43 u_L_43 => ?_)
              refine Sa_i rfl ?_
              refine Sc Iff.rfl (fun c10 => ?_) (fun _ => Sn)
              refine SbPv (ks_134 n (dp - 1) 0 z_43 kd_43 _ _ _ _ R_43 _ _ _ _ _ _ _ _ _ _ u_I_43 u_L_43 u_i1 (rfl : Ui 0 0) (rfl : Ui 0 0) (rfl : Ui 0 0) (rfl : Ui 0 0)) (fun z_51 kd_51 I_51 I_51' L_51 L_51' R_51 ck_51 cm_51 u_I_51 u_L_51 => ?_)
              refine Sa_i rfl ?_
              refine Sc (eq_up u_i2 (rfl : Ui 0 0)) (fun c11 => ?_) (fun c11 => ?_)
              · refine Sc (ix_up u_i1) (fun c12 => ?_) (fun _ => Sn)
                exact Sr ⟨(ui_rd (a := 56) u_I_51 u_i1 c12.1), ⟨rfl, rfl, u_I_51, u_L_51, rfl⟩, rfl⟩
              · refine Sc (ix_up u_i1) (fun c13 => ?_) (fun _ => Sn)
                exact Sr ⟨(ui_rd (a := 57) u_I_51 u_i1 c13.1), ⟨rfl, rfl, u_I_51, u_L_51, rfl⟩, rfl⟩
    exact Sn
set_option maxHeartbeats 4000000 in
set_option maxRecDepth 100000 in
def kf_137 : Nat → Nat → Nat → Nat → (Nat → Nat × Nat) → JI → JI → (Nat → Nat → Option Nat) → Int → Option ((Int × PSi) × Nat × Nat)
  | 0, _, _, _, _, _, _, _, _ => none
  | n + 1, dp, lab, z, kd, I, L, R, i1 =>
    if lab = 0 then (if 1 ≤ dp then ((kf_14 n (dp - 1) (z, kd, R) 0 I L i1 0 3).bind (fun ⟨x_3, I_3, L_3⟩ => (if x_3 = 0 then (some ((((-1) : Int), z, kd, I_3, L_3, R), 0, 0)) else (if 1 ≤ dp then ((kf_91 n (dp - 1) 0 z kd I_3 L_3 R).bind (fun ⟨⟨x_10, z_10, kd_10, I_10, L_10, R_10⟩, ck_10, cm_10⟩ => (adk ck_10 cm_10 (if x_10 = 0 then (some ((((-1) : Int), z_10, kd_10, I_10, L_10, R_10), 0, 0)) else (if 1 ≤ dp then ((kf_120 n (dp - 1) 0 z_10 kd_10 I_10 L_10 R_10 0 0 0 0).bind (fun ⟨⟨z_22, kd_22, I_22, L_22, R_22⟩, ck_22, cm_22⟩ => (adk ck_22 cm_22 (if i1 = 0 then (if 1 ≤ dp then ((kf_138 n (dp - 1) (z_22, kd_22, R_22) 0 I_22 L_22 0 0).bind (fun ⟨x_56, I_56, L_56⟩ => (some (((x_56 : Int), z_22, kd_22, I_56, L_56, R_22), 0, 0)))) else none) else (if i1 = 1 then (if 1 ≤ dp then ((kf_117 n (dp - 1) (z_22, kd_22, R_22) 0 I_22 L_22).bind (fun ⟨x_64, I_64, L_64⟩ => (if 1 ≤ dp then ((kf_138 n (dp - 1) (z_22, kd_22, R_22) 0 I_64 L_64 0 0).bind (fun ⟨x_71, I_71, L_71⟩ => (if -2147483648 ≤ x_64 - x_71 ∧ x_64 - x_71 ≤ 2147483647 then (some ((((x_64 - x_71) : Int), z_22, kd_22, I_71, L_71, R_22), 0, 0)) else none))) else none))) else none) else (if i1 = 2 then (if 1 ≤ dp then ((kf_142 n (dp - 1) (z_22, kd_22, R_22) 0 I_22 L_22 0 0 0).bind (fun ⟨x_80, I_80, L_80⟩ => (some (((x_80 : Int), z_22, kd_22, I_80, L_80, R_22), 0, 0)))) else none) else (if 1 ≤ dp then ((kf_143 n (dp - 1) (z_22, kd_22, R_22) 0 I_22 L_22 0 0).bind (fun ⟨x_88, I_88, L_88⟩ => (some (((x_88 : Int), z_22, kd_22, I_88, L_88, R_22), 0, 0)))) else none))))))) else none))))) else none)))) else none)
    else none
set_option maxRecDepth 100000 in
theorem ke_137_0 (n : Nat) (dp : Nat) (z : Nat) (kd : (Nat → Nat × Nat)) (I : JI) (L : JI) (R : (Nat → Nat → Option Nat)) (i1 : Int) : kf_137 (n + 1) dp 0 z kd I L R i1 = (if 1 ≤ dp then ((kf_14 n (dp - 1) (z, kd, R) 0 I L i1 0 3).bind (fun ⟨x_3, I_3, L_3⟩ => (if x_3 = 0 then (some ((((-1) : Int), z, kd, I_3, L_3, R), 0, 0)) else (if 1 ≤ dp then ((kf_91 n (dp - 1) 0 z kd I_3 L_3 R).bind (fun ⟨⟨x_10, z_10, kd_10, I_10, L_10, R_10⟩, ck_10, cm_10⟩ => (adk ck_10 cm_10 (if x_10 = 0 then (some ((((-1) : Int), z_10, kd_10, I_10, L_10, R_10), 0, 0)) else (if 1 ≤ dp then ((kf_120 n (dp - 1) 0 z_10 kd_10 I_10 L_10 R_10 0 0 0 0).bind (fun ⟨⟨z_22, kd_22, I_22, L_22, R_22⟩, ck_22, cm_22⟩ => (adk ck_22 cm_22 (if i1 = 0 then (if 1 ≤ dp then ((kf_138 n (dp - 1) (z_22, kd_22, R_22) 0 I_22 L_22 0 0).bind (fun ⟨x_56, I_56, L_56⟩ => (some (((x_56 : Int), z_22, kd_22, I_56, L_56, R_22), 0, 0)))) else none) else (if i1 = 1 then (if 1 ≤ dp then ((kf_117 n (dp - 1) (z_22, kd_22, R_22) 0 I_22 L_22).bind (fun ⟨x_64, I_64, L_64⟩ => (if 1 ≤ dp then ((kf_138 n (dp - 1) (z_22, kd_22, R_22) 0 I_64 L_64 0 0).bind (fun ⟨x_71, I_71, L_71⟩ => (if -2147483648 ≤ x_64 - x_71 ∧ x_64 - x_71 ≤ 2147483647 then (some ((((x_64 - x_71) : Int), z_22, kd_22, I_71, L_71, R_22), 0, 0)) else none))) else none))) else none) else (if i1 = 2 then (if 1 ≤ dp then ((kf_142 n (dp - 1) (z_22, kd_22, R_22) 0 I_22 L_22 0 0 0).bind (fun ⟨x_80, I_80, L_80⟩ => (some (((x_80 : Int), z_22, kd_22, I_80, L_80, R_22), 0, 0)))) else none) else (if 1 ≤ dp then ((kf_143 n (dp - 1) (z_22, kd_22, R_22) 0 I_22 L_22 0 0).bind (fun ⟨x_88, I_88, L_88⟩ => (some (((x_88 : Int), z_22, kd_22, I_88, L_88, R_22), 0, 0)))) else none))))))) else none))))) else none)))) else none) := by rw [kf_137.eq_2, if_pos (show (0 : Nat) = 0 from rfl)]
set_option maxHeartbeats 8000000 in
set_option maxRecDepth 100000 in
theorem ks_137 : ∀ (n : Nat) (dp : Nat) (lab : Nat) (z : Nat) (kd : (Nat → Nat × Nat)) (I : Nat → Nat → Int32) (I' : JI) (L : Nat → Nat → Int64) (L' : JI) (R : (Nat → Nat → Option Nat)) (i1 : Int32) (i1' : Int), Rli I I' → Rll L L' → Ui i1 i1' → Sim RPi (g_137 n dp lab z kd I L R i1) (kf_137 n dp lab z kd I' L' R i1') := by
  intro n
  induction n with
  | zero => intros; rw [kf_137.eq_1]; exact Sn
  | succ n ih =>
    intro dp lab z kd I I' L L' R i1 i1' u_I u_L u_i1
    rw [g_137.eq_2, kf_137.eq_2]
    refine Sc Iff.rfl (fun _ => ?_) (fun _ => ?_)
    · refine Sc Iff.rfl (fun c1 => ?_) (fun _ => Sn)
      refine Sb3 (ks_14 n (dp - 1) (z, kd, R) 0 _ _ _ _ _ _ _ _ _ _ u_I u_L u_i1 (rfl : Ui (0) (0)) (rfl : Ui (3) (3))) (fun x_3 x_3' I_3 I_3' L_3 L_3' u_x_3 u_I_3 u_L_3 => ?_)
      refine Sc (eq_up u_x_3 (rfl : Ui 0 0)) (fun c2 => ?_) (fun c2 => ?_)
      · exact Sr ⟨(rfl : Ui (-1) (-1)), ⟨rfl, rfl, u_I_3, u_L_3, rfl⟩, rfl⟩
      · refine Sc Iff.rfl (fun c3 => ?_) (fun _ => Sn)
        refine SbPi (ks_91 n (dp - 1) 0 z kd _ _ _ _ R u_I_3 u_L_3) (fun x_10 x_10' z_10 kd_10 I_10 I_10' L_10 L_10' R_10 ck_10 cm_10 u_x_10 u_I_10 u_L_10 => ?_)
        refine Sa_i rfl ?_
        refine Sc (eq_up u_x_10 (rfl : Ui 0 0)) (fun c4 => ?_) (fun c4 => ?_)
        · exact Sr ⟨(rfl : Ui (-1) (-1)), ⟨rfl, rfl, u_I_10, u_L_10, rfl⟩, rfl⟩
        · refine Sc Iff.rfl (fun c5 => ?_) (fun _ => Sn)
          refine SbPv (ks_120 n (dp - 1) 0 z_10 kd_10 _ _ _ _ R_10 _ _ _ _ _ _ _ _ u_I_10 u_L_10 (rfl : Ui 0 0) (rfl : Ui 0 0) (rfl : Ui 0 0) (rfl : Ui 0 0)) (fun z_22 kd_22 I_22 I_22' L_22 L_22' R_22 ck_22 cm_22 u_I_22 u_L_22 => ?_)
          refine Sa_i rfl ?_
          refine Sc (eq_up u_i1 (rfl : Ui (0) (0))) (fun c6 => ?_) (fun c6 => ?_)
          · refine Sc Iff.rfl (fun c7 => ?_) (fun _ => Sn)
            refine Sb3 (ks_138 n (dp - 1) (z_22, kd_22, R_22) 0 _ _ _ _ _ _ _ _ u_I_22 u_L_22 (rfl : Ui 0 0) (rfl : Ui 0 0)) (fun x_56 x_56' I_56 I_56' L_56 L_56' u_x_56 u_I_56 u_L_56 => ?_)
            exact Sr ⟨u_x_56, ⟨rfl, rfl, u_I_56, u_L_56, rfl⟩, rfl⟩
          · refine Sc (eq_up u_i1 (rfl : Ui (1) (1))) (fun c8 => ?_) (fun c8 => ?_)
            · refine Sc Iff.rfl (fun c9 => ?_) (fun _ => Sn)
              refine Sb3 (ks_117 n (dp - 1) (z_22, kd_22, R_22) 0 _ _ _ _ u_I_22 u_L_22) (fun x_64 x_64' I_64 I_64' L_64 L_64' u_x_64 u_I_64 u_L_64 => ?_)
              refine Sc Iff.rfl (fun c10 => ?_) (fun _ => Sn)
              refine Sb3 (ks_138 n (dp - 1) (z_22, kd_22, R_22) 0 _ _ _ _ _ _ _ _ u_I_64 u_L_64 (rfl : Ui 0 0) (rfl : Ui 0 0)) (fun x_71 x_71' I_71 I_71' L_71 L_71' u_x_71 u_I_71 u_L_71 => ?_)
              refine Sg (fun g11 => ?_)
              exact Sr ⟨(ui_sub u_x_64 u_x_71 g11), ⟨rfl, rfl, u_I_71, u_L_71, rfl⟩, rfl⟩
            · refine Sc (eq_up u_i1 (rfl : Ui (2) (2))) (fun c12 => ?_) (fun c12 => ?_)
              · refine Sc Iff.rfl (fun c13 => ?_) (fun _ => Sn)
                refine Sb3 (ks_142 n (dp - 1) (z_22, kd_22, R_22) 0 _ _ _ _ _ _ _ _ _ _ u_I_22 u_L_22 (rfl : Ui 0 0) (rfl : Ui 0 0) (rfl : Ui 0 0)) (fun x_80 x_80' I_80 I_80' L_80 L_80' u_x_80 u_I_80 u_L_80 => ?_)
                exact Sr ⟨u_x_80, ⟨rfl, rfl, u_I_80, u_L_80, rfl⟩, rfl⟩
              · refine Sc Iff.rfl (fun c14 => ?_) (fun _ => Sn)
                refine Sb3 (ks_143 n (dp - 1) (z_22, kd_22, R_22) 0 _ _ _ _ _ _ _ _ u_I_22 u_L_22 (rfl : Ui 0 0) (rfl : Ui 0 0)) (fun x_88 x_88' I_88 I_88' L_88 L_88' u_x_88 u_I_88 u_L_88 => ?_)
                exact Sr ⟨u_x_88, ⟨rfl, rfl, u_I_88, u_L_88, rfl⟩, rfl⟩
    exact Sn
set_option maxHeartbeats 4000000 in
set_option maxRecDepth 100000 in
def kf_144 : Nat → Nat → Nat → Nat → (Nat → Nat × Nat) → JI → JI → (Nat → Nat → Option Nat) → Int → Option ((Int × PSi) × Nat × Nat)
  | 0, _, _, _, _, _, _, _, _ => none
  | n + 1, dp, lab, z, kd, I, L, R, i1 =>
    if lab = 0 then ((R 1 7).bind (fun b_6 => (if (b_6 < z) ∧ ((kd b_6).1 = 10) then (if 1 ≤ dp then (if -2147483648 ≤ (I b_6 11) - 1 ∧ (I b_6 11) - 1 ≤ 2147483647 then ((kf_14 n (dp - 1) (z, kd, R) 0 I L i1 (-1) ((I b_6 11) - 1)).bind (fun ⟨x_14, I_14, L_14⟩ => (if x_14 = 0 then (some ((((-1) : Int), z, kd, I_14, L_14, R), 0, 0)) else (if 1 ≤ dp then ((kf_91 n (dp - 1) 0 z kd I_14 L_14 R).bind (fun ⟨⟨x_21, z_21, kd_21, I_21, L_21, R_21⟩, ck_21, cm_21⟩ => (adk ck_21 cm_21 (if x_21 = 0 then (some ((((-1) : Int), z_21, kd_21, I_21, L_21, R_21), 0, 0)) else (if 1 ≤ dp then ((kf_120 n (dp - 1) 0 z_21 kd_21 I_21 L_21 R_21 0 0 0 0).bind (fun ⟨⟨z_33, kd_33, I_33, L_33, R_33⟩, ck_33, cm_33⟩ => (adk ck_33 cm_33 (if 1 ≤ dp then ((kf_145 n (dp - 1) (z_33, kd_33, R_33) 0 I_33 L_33 0 0).bind (fun ⟨I_40, L_40⟩ => (if i1 = (-1) then (some ((((I_40 73 11) : Int), z_33, kd_33, I_40, L_40, R_33), 0, 0)) else (if 0 ≤ i1 ∧ i1 < 16 then (some ((((I_40 74 i1) : Int), z_33, kd_33, I_40, L_40, R_33), 0, 0)) else none)))) else none)))) else none))))) else none)))) else none) else none) else none)))
    else none
set_option maxRecDepth 100000 in
theorem ke_144_0 (n : Nat) (dp : Nat) (z : Nat) (kd : (Nat → Nat × Nat)) (I : JI) (L : JI) (R : (Nat → Nat → Option Nat)) (i1 : Int) : kf_144 (n + 1) dp 0 z kd I L R i1 = ((R 1 7).bind (fun b_6 => (if (b_6 < z) ∧ ((kd b_6).1 = 10) then (if 1 ≤ dp then (if -2147483648 ≤ (I b_6 11) - 1 ∧ (I b_6 11) - 1 ≤ 2147483647 then ((kf_14 n (dp - 1) (z, kd, R) 0 I L i1 (-1) ((I b_6 11) - 1)).bind (fun ⟨x_14, I_14, L_14⟩ => (if x_14 = 0 then (some ((((-1) : Int), z, kd, I_14, L_14, R), 0, 0)) else (if 1 ≤ dp then ((kf_91 n (dp - 1) 0 z kd I_14 L_14 R).bind (fun ⟨⟨x_21, z_21, kd_21, I_21, L_21, R_21⟩, ck_21, cm_21⟩ => (adk ck_21 cm_21 (if x_21 = 0 then (some ((((-1) : Int), z_21, kd_21, I_21, L_21, R_21), 0, 0)) else (if 1 ≤ dp then ((kf_120 n (dp - 1) 0 z_21 kd_21 I_21 L_21 R_21 0 0 0 0).bind (fun ⟨⟨z_33, kd_33, I_33, L_33, R_33⟩, ck_33, cm_33⟩ => (adk ck_33 cm_33 (if 1 ≤ dp then ((kf_145 n (dp - 1) (z_33, kd_33, R_33) 0 I_33 L_33 0 0).bind (fun ⟨I_40, L_40⟩ => (if i1 = (-1) then (some ((((I_40 73 11) : Int), z_33, kd_33, I_40, L_40, R_33), 0, 0)) else (if 0 ≤ i1 ∧ i1 < 16 then (some ((((I_40 74 i1) : Int), z_33, kd_33, I_40, L_40, R_33), 0, 0)) else none)))) else none)))) else none))))) else none)))) else none) else none) else none))) := by rw [kf_144.eq_2, if_pos (show (0 : Nat) = 0 from rfl)]
set_option maxHeartbeats 8000000 in
set_option maxRecDepth 100000 in
theorem ks_144 : ∀ (n : Nat) (dp : Nat) (lab : Nat) (z : Nat) (kd : (Nat → Nat × Nat)) (I : Nat → Nat → Int32) (I' : JI) (L : Nat → Nat → Int64) (L' : JI) (R : (Nat → Nat → Option Nat)) (i1 : Int32) (i1' : Int), Rli I I' → Rll L L' → Ui i1 i1' → Sim RPi (g_144 n dp lab z kd I L R i1) (kf_144 n dp lab z kd I' L' R i1') := by
  intro n
  induction n with
  | zero => intros; rw [kf_144.eq_1]; exact Sn
  | succ n ih =>
    intro dp lab z kd I I' L L' R i1 i1' u_I u_L u_i1
    rw [g_144.eq_2, kf_144.eq_2]
    refine Sc Iff.rfl (fun _ => ?_) (fun _ => ?_)
    · refine SbE rfl (fun b_6 => ?_)
      refine Sc Iff.rfl (fun c1 => ?_) (fun _ => Sn)
      refine Sc Iff.rfl (fun c2 => ?_) (fun _ => Sn)
      refine Sg (fun g3 => ?_)
      refine Sb3 (ks_14 n (dp - 1) (z, kd, R) 0 _ _ _ _ _ _ _ _ _ _ u_I u_L u_i1 (rfl : Ui (-1) (-1)) (ui_sub (u_I b_6 11) (rfl : Ui (1) (1)) g3)) (fun x_14 x_14' I_14 I_14' L_14 L_14' u_x_14 u_I_14 u_L_14 => ?_)
      refine Sc (eq_up u_x_14 (rfl : Ui 0 0)) (fun c4 => ?_) (fun c4 => ?_)
      · exact Sr ⟨(rfl : Ui (-1) (-1)), ⟨rfl, rfl, u_I_14, u_L_14, rfl⟩, rfl⟩
      · refine Sc Iff.rfl (fun c5 => ?_) (fun _ => Sn)
        refine SbPi (ks_91 n (dp - 1) 0 z kd _ _ _ _ R u_I_14 u_L_14) (fun x_21 x_21' z_21 kd_21 I_21 I_21' L_21 L_21' R_21 ck_21 cm_21 u_x_21 u_I_21 u_L_21 => ?_)
        refine Sa_i rfl ?_
        refine Sc (eq_up u_x_21 (rfl : Ui 0 0)) (fun c6 => ?_) (fun c6 => ?_)
        · exact Sr ⟨(rfl : Ui (-1) (-1)), ⟨rfl, rfl, u_I_21, u_L_21, rfl⟩, rfl⟩
        · refine Sc Iff.rfl (fun c7 => ?_) (fun _ => Sn)
          refine SbPv (ks_120 n (dp - 1) 0 z_21 kd_21 _ _ _ _ R_21 _ _ _ _ _ _ _ _ u_I_21 u_L_21 (rfl : Ui 0 0) (rfl : Ui 0 0) (rfl : Ui 0 0) (rfl : Ui 0 0)) (fun z_33 kd_33 I_33 I_33' L_33 L_33' R_33 ck_33 cm_33 u_I_33 u_L_33 => ?_)
          refine Sa_i rfl ?_
          refine Sc Iff.rfl (fun c8 => ?_) (fun _ => Sn)
          refine Sb2 (ks_145 n (dp - 1) (z_33, kd_33, R_33) 0 _ _ _ _ _ _ _ _ u_I_33 u_L_33 (rfl : Ui 0 0) (rfl : Ui 0 0)) (fun I_40 I_40' L_40 L_40' u_I_40 u_L_40 => ?_)
          refine Sc (eq_up u_i1 (rfl : Ui (-1) (-1))) (fun c9 => ?_) (fun c9 => ?_)
          · exact Sr ⟨(u_I_40 73 11), ⟨rfl, rfl, u_I_40, u_L_40, rfl⟩, rfl⟩
          · refine Sc (ix_up u_i1) (fun c10 => ?_) (fun _ => Sn)
            exact Sr ⟨(ui_rd (a := 74) u_I_40 u_i1 c10.1), ⟨rfl, rfl, u_I_40, u_L_40, rfl⟩, rfl⟩
    exact Sn
set_option maxHeartbeats 4000000 in
set_option maxRecDepth 100000 in
def kf_147 : Nat → Nat → Nat → Nat → (Nat → Nat × Nat) → JI → JI → (Nat → Nat → Option Nat) → Int → Option ((Int × PSi) × Nat × Nat)
  | 0, _, _, _, _, _, _, _, _ => none
  | n + 1, dp, lab, z, kd, I, L, R, i1 =>
    if lab = 0 then ((R 1 7).bind (fun b_6 => (if (b_6 < z) ∧ ((kd b_6).1 = 10) then (if 1 ≤ dp then (if -2147483648 ≤ (I b_6 11) - 1 ∧ (I b_6 11) - 1 ≤ 2147483647 then ((kf_14 n (dp - 1) (z, kd, R) 0 I L i1 (-1) ((I b_6 11) - 1)).bind (fun ⟨x_14, I_14, L_14⟩ => (if x_14 = 0 then (some ((((-1) : Int), z, kd, I_14, L_14, R), 0, 0)) else (if 1 ≤ dp then ((kf_91 n (dp - 1) 0 z kd I_14 L_14 R).bind (fun ⟨⟨x_21, z_21, kd_21, I_21, L_21, R_21⟩, ck_21, cm_21⟩ => (adk ck_21 cm_21 (if x_21 = 0 then (some ((((-1) : Int), z_21, kd_21, I_21, L_21, R_21), 0, 0)) else (if 1 ≤ dp then ((kf_120 n (dp - 1) 0 z_21 kd_21 I_21 L_21 R_21 0 0 0 0).bind (fun ⟨⟨z_33, kd_33, I_33, L_33, R_33⟩, ck_33, cm_33⟩ => (adk ck_33 cm_33 (if 1 ≤ dp then ((kf_145 n (dp - 1) (z_33, kd_33, R_33) 0 I_33 L_33 0 0).bind (fun ⟨I_40, L_40⟩ => (if 1 ≤ dp then ((kf_148 n (dp - 1) (z_33, kd_33, R_33) 0 I_40 L_40).bind (fun ⟨I_47, L_47⟩ => (if i1 = (-1) then (some ((((I_47 73 12) : Int), z_33, kd_33, I_47, L_47, R_33), 0, 0)) else (if 0 ≤ i1 ∧ i1 < 16 then (some ((((I_47 76 i1) : Int), z_33, kd_33, I_47, L_47, R_33), 0, 0)) else none)))) else none))) else none)))) else none))))) else none)))) else none) else none) else none)))
    else none
set_option maxRecDepth 100000 in
theorem ke_147_0 (n : Nat) (dp : Nat) (z : Nat) (kd : (Nat → Nat × Nat)) (I : JI) (L : JI) (R : (Nat → Nat → Option Nat)) (i1 : Int) : kf_147 (n + 1) dp 0 z kd I L R i1 = ((R 1 7).bind (fun b_6 => (if (b_6 < z) ∧ ((kd b_6).1 = 10) then (if 1 ≤ dp then (if -2147483648 ≤ (I b_6 11) - 1 ∧ (I b_6 11) - 1 ≤ 2147483647 then ((kf_14 n (dp - 1) (z, kd, R) 0 I L i1 (-1) ((I b_6 11) - 1)).bind (fun ⟨x_14, I_14, L_14⟩ => (if x_14 = 0 then (some ((((-1) : Int), z, kd, I_14, L_14, R), 0, 0)) else (if 1 ≤ dp then ((kf_91 n (dp - 1) 0 z kd I_14 L_14 R).bind (fun ⟨⟨x_21, z_21, kd_21, I_21, L_21, R_21⟩, ck_21, cm_21⟩ => (adk ck_21 cm_21 (if x_21 = 0 then (some ((((-1) : Int), z_21, kd_21, I_21, L_21, R_21), 0, 0)) else (if 1 ≤ dp then ((kf_120 n (dp - 1) 0 z_21 kd_21 I_21 L_21 R_21 0 0 0 0).bind (fun ⟨⟨z_33, kd_33, I_33, L_33, R_33⟩, ck_33, cm_33⟩ => (adk ck_33 cm_33 (if 1 ≤ dp then ((kf_145 n (dp - 1) (z_33, kd_33, R_33) 0 I_33 L_33 0 0).bind (fun ⟨I_40, L_40⟩ => (if 1 ≤ dp then ((kf_148 n (dp - 1) (z_33, kd_33, R_33) 0 I_40 L_40).bind (fun ⟨I_47, L_47⟩ => (if i1 = (-1) then (some ((((I_47 73 12) : Int), z_33, kd_33, I_47, L_47, R_33), 0, 0)) else (if 0 ≤ i1 ∧ i1 < 16 then (some ((((I_47 76 i1) : Int), z_33, kd_33, I_47, L_47, R_33), 0, 0)) else none)))) else none))) else none)))) else none))))) else none)))) else none) else none) else none))) := by rw [kf_147.eq_2, if_pos (show (0 : Nat) = 0 from rfl)]
set_option maxHeartbeats 8000000 in
set_option maxRecDepth 100000 in
theorem ks_147 : ∀ (n : Nat) (dp : Nat) (lab : Nat) (z : Nat) (kd : (Nat → Nat × Nat)) (I : Nat → Nat → Int32) (I' : JI) (L : Nat → Nat → Int64) (L' : JI) (R : (Nat → Nat → Option Nat)) (i1 : Int32) (i1' : Int), Rli I I' → Rll L L' → Ui i1 i1' → Sim RPi (g_147 n dp lab z kd I L R i1) (kf_147 n dp lab z kd I' L' R i1') := by
  intro n
  induction n with
  | zero => intros; rw [kf_147.eq_1]; exact Sn
  | succ n ih =>
    intro dp lab z kd I I' L L' R i1 i1' u_I u_L u_i1
    rw [g_147.eq_2, kf_147.eq_2]
    refine Sc Iff.rfl (fun _ => ?_) (fun _ => ?_)
    · refine SbE rfl (fun b_6 => ?_)
      refine Sc Iff.rfl (fun c1 => ?_) (fun _ => Sn)
      refine Sc Iff.rfl (fun c2 => ?_) (fun _ => Sn)
      refine Sg (fun g3 => ?_)
      refine Sb3 (ks_14 n (dp - 1) (z, kd, R) 0 _ _ _ _ _ _ _ _ _ _ u_I u_L u_i1 (rfl : Ui (-1) (-1)) (ui_sub (u_I b_6 11) (rfl : Ui (1) (1)) g3)) (fun x_14 x_14' I_14 I_14' L_14 L_14' u_x_14 u_I_14 u_L_14 => ?_)
      refine Sc (eq_up u_x_14 (rfl : Ui 0 0)) (fun c4 => ?_) (fun c4 => ?_)
      · exact Sr ⟨(rfl : Ui (-1) (-1)), ⟨rfl, rfl, u_I_14, u_L_14, rfl⟩, rfl⟩
      · refine Sc Iff.rfl (fun c5 => ?_) (fun _ => Sn)
        refine SbPi (ks_91 n (dp - 1) 0 z kd _ _ _ _ R u_I_14 u_L_14) (fun x_21 x_21' z_21 kd_21 I_21 I_21' L_21 L_21' R_21 ck_21 cm_21 u_x_21 u_I_21 u_L_21 => ?_)
        refine Sa_i rfl ?_
        refine Sc (eq_up u_x_21 (rfl : Ui 0 0)) (fun c6 => ?_) (fun c6 => ?_)
        · exact Sr ⟨(rfl : Ui (-1) (-1)), ⟨rfl, rfl, u_I_21, u_L_21, rfl⟩, rfl⟩
        · refine Sc Iff.rfl (fun c7 => ?_) (fun _ => Sn)
          refine SbPv (ks_120 n (dp - 1) 0 z_21 kd_21 _ _ _ _ R_21 _ _ _ _ _ _ _ _ u_I_21 u_L_21 (rfl : Ui 0 0) (rfl : Ui 0 0) (rfl : Ui 0 0) (rfl : Ui 0 0)) (fun z_33 kd_33 I_33 I_33' L_33 L_33' R_33 ck_33 cm_33 u_I_33 u_L_33 => ?_)
          refine Sa_i rfl ?_
          refine Sc Iff.rfl (fun c8 => ?_) (fun _ => Sn)
          refine Sb2 (ks_145 n (dp - 1) (z_33, kd_33, R_33) 0 _ _ _ _ _ _ _ _ u_I_33 u_L_33 (rfl : Ui 0 0) (rfl : Ui 0 0)) (fun I_40 I_40' L_40 L_40' u_I_40 u_L_40 => ?_)
          refine Sc Iff.rfl (fun c9 => ?_) (fun _ => Sn)
          refine Sb2 (ks_148 n (dp - 1) (z_33, kd_33, R_33) 0 _ _ _ _ u_I_40 u_L_40) (fun I_47 I_47' L_47 L_47' u_I_47 u_L_47 => ?_)
          refine Sc (eq_up u_i1 (rfl : Ui (-1) (-1))) (fun c10 => ?_) (fun c10 => ?_)
          · exact Sr ⟨(u_I_47 73 12), ⟨rfl, rfl, u_I_47, u_L_47, rfl⟩, rfl⟩
          · refine Sc (ix_up u_i1) (fun c11 => ?_) (fun _ => Sn)
            exact Sr ⟨(ui_rd (a := 76) u_I_47 u_i1 c11.1), ⟨rfl, rfl, u_I_47, u_L_47, rfl⟩, rfl⟩
    exact Sn
set_option maxHeartbeats 4000000 in
set_option maxRecDepth 100000 in
def kf_181 : Nat → Nat → Nat → Nat → (Nat → Nat × Nat) → JI → JI → (Nat → Nat → Option Nat) → Int → Int → Int → Option ((Int × PSi) × Nat × Nat)
  | 0, _, _, _, _, _, _, _, _, _, _ => none
  | n + 1, dp, lab, z, kd, I, L, R, i1, i2, i3 =>
    if lab = 0 then (if 1 ≤ dp then ((kf_14 n (dp - 1) (z, kd, R) 0 I L i1 0 1000000).bind (fun ⟨x_5, I_5, L_5⟩ => (if x_5 = 0 then (if 1 ≤ dp then ((kf_15 n (dp - 1) (z, kd, R) 0 I_5 L_5 (-1)).bind (fun ⟨x_13, I_13, L_13⟩ => (some (((x_13 : Int), z, kd, I_13, L_13, R), 0, 0)))) else none) else (if 1 ≤ dp then ((kf_182 n (dp - 1) (z, kd, R) 0 I_5 L_5 i1 0 0).bind (fun ⟨I_19, L_19⟩ => (if 1 ≤ dp then ((kf_81 n (dp - 1) (z, kd, R) 0 I_19 L_19 0 0 0 0).bind (fun ⟨I_26, L_26⟩ => (kf_181 n dp 1 z kd I_26 L_26 R i1 0 0))) else none))) else none)))) else none)
    else if lab = 1 then (if 5 ≤ i3 then (if ((¬ ((0 : Int) < 0)) ∧ ((¬ ((0 : Int) < 0)) ∧ ((¬ ((15 : Int) < 0)) ∧ (((0 + 15) ≤ 15) ∧ ((0 + 15) ≤ 15))))) ∧ (1 ≤ dp) then (stI (cp2 I 91 90 0 0 15) (fun I_113 => (stI (w2 I_113 0 17 1) (fun I_118 => (if 1 ≤ dp then ((kf_19 n (dp - 1) (z, kd, R) 0 I_118 L i2).bind (fun ⟨x_123, I_123, L_123⟩ => (some (((x_123 : Int), z, kd, I_123, L_123, R), 0, 0)))) else none))))) else none) else (if -2147483648 ≤ i3 * 3 ∧ i3 * 3 ≤ 2147483647 then (if 0 ≤ (i3 * 3) ∧ (i3 * 3) < 15 then (if -2147483648 ≤ (i3 * 3) + 1 ∧ (i3 * 3) + 1 ≤ 2147483647 then (if 0 ≤ ((i3 * 3) + 1) ∧ ((i3 * 3) + 1) < 15 then (if -2147483648 ≤ (i3 * 3) + 2 ∧ (i3 * 3) + 2 ≤ 2147483647 then (if 0 ≤ ((i3 * 3) + 2) ∧ ((i3 * 3) + 2) < 15 then (if 1 ≤ dp then ((kf_92 n (dp - 1) 0 z kd I L R (I 90 (i3 * 3)) (I 90 ((i3 * 3) + 1)) (I 90 ((i3 * 3) + 2)) 0).bind (fun ⟨⟨x_72, z_72, kd_72, I_72, L_72, R_72⟩, ck_72, cm_72⟩ => (adk ck_72 cm_72 (if x_72 = (-1) then (if 1 ≤ dp then ((kf_15 n (dp - 1) (z_72, kd_72, R_72) 0 I_72 L_72 (-3)).bind (fun ⟨x_86, I_86, L_86⟩ => (some (((x_86 : Int), z_72, kd_72, I_86, L_86, R_72), 0, 0)))) else none) else (if (-2147483648 ≤ i2 + x_72 ∧ i2 + x_72 ≤ 2147483647) ∧ (-2147483648 ≤ i3 + 1 ∧ i3 + 1 ≤ 2147483647) then (kf_181 n dp 1 z_72 kd_72 I_72 L_72 R_72 i1 (i2 + x_72) (i3 + 1)) else none))))) else none) else none) else none) else none) else none) else none) else none))
    else none
set_option maxRecDepth 100000 in
theorem ke_181_0 (n : Nat) (dp : Nat) (z : Nat) (kd : (Nat → Nat × Nat)) (I : JI) (L : JI) (R : (Nat → Nat → Option Nat)) (i1 : Int) (i2 : Int) (i3 : Int) : kf_181 (n + 1) dp 0 z kd I L R i1 i2 i3 = (if 1 ≤ dp then ((kf_14 n (dp - 1) (z, kd, R) 0 I L i1 0 1000000).bind (fun ⟨x_5, I_5, L_5⟩ => (if x_5 = 0 then (if 1 ≤ dp then ((kf_15 n (dp - 1) (z, kd, R) 0 I_5 L_5 (-1)).bind (fun ⟨x_13, I_13, L_13⟩ => (some (((x_13 : Int), z, kd, I_13, L_13, R), 0, 0)))) else none) else (if 1 ≤ dp then ((kf_182 n (dp - 1) (z, kd, R) 0 I_5 L_5 i1 0 0).bind (fun ⟨I_19, L_19⟩ => (if 1 ≤ dp then ((kf_81 n (dp - 1) (z, kd, R) 0 I_19 L_19 0 0 0 0).bind (fun ⟨I_26, L_26⟩ => (kf_181 n dp 1 z kd I_26 L_26 R i1 0 0))) else none))) else none)))) else none) := by rw [kf_181.eq_2, if_pos (show (0 : Nat) = 0 from rfl)]
set_option maxRecDepth 100000 in
theorem ke_181_1 (n : Nat) (dp : Nat) (z : Nat) (kd : (Nat → Nat × Nat)) (I : JI) (L : JI) (R : (Nat → Nat → Option Nat)) (i1 : Int) (i2 : Int) (i3 : Int) : kf_181 (n + 1) dp 1 z kd I L R i1 i2 i3 = (if 5 ≤ i3 then (if ((¬ ((0 : Int) < 0)) ∧ ((¬ ((0 : Int) < 0)) ∧ ((¬ ((15 : Int) < 0)) ∧ (((0 + 15) ≤ 15) ∧ ((0 + 15) ≤ 15))))) ∧ (1 ≤ dp) then (stI (cp2 I 91 90 0 0 15) (fun I_113 => (stI (w2 I_113 0 17 1) (fun I_118 => (if 1 ≤ dp then ((kf_19 n (dp - 1) (z, kd, R) 0 I_118 L i2).bind (fun ⟨x_123, I_123, L_123⟩ => (some (((x_123 : Int), z, kd, I_123, L_123, R), 0, 0)))) else none))))) else none) else (if -2147483648 ≤ i3 * 3 ∧ i3 * 3 ≤ 2147483647 then (if 0 ≤ (i3 * 3) ∧ (i3 * 3) < 15 then (if -2147483648 ≤ (i3 * 3) + 1 ∧ (i3 * 3) + 1 ≤ 2147483647 then (if 0 ≤ ((i3 * 3) + 1) ∧ ((i3 * 3) + 1) < 15 then (if -2147483648 ≤ (i3 * 3) + 2 ∧ (i3 * 3) + 2 ≤ 2147483647 then (if 0 ≤ ((i3 * 3) + 2) ∧ ((i3 * 3) + 2) < 15 then (if 1 ≤ dp then ((kf_92 n (dp - 1) 0 z kd I L R (I 90 (i3 * 3)) (I 90 ((i3 * 3) + 1)) (I 90 ((i3 * 3) + 2)) 0).bind (fun ⟨⟨x_72, z_72, kd_72, I_72, L_72, R_72⟩, ck_72, cm_72⟩ => (adk ck_72 cm_72 (if x_72 = (-1) then (if 1 ≤ dp then ((kf_15 n (dp - 1) (z_72, kd_72, R_72) 0 I_72 L_72 (-3)).bind (fun ⟨x_86, I_86, L_86⟩ => (some (((x_86 : Int), z_72, kd_72, I_86, L_86, R_72), 0, 0)))) else none) else (if (-2147483648 ≤ i2 + x_72 ∧ i2 + x_72 ≤ 2147483647) ∧ (-2147483648 ≤ i3 + 1 ∧ i3 + 1 ≤ 2147483647) then (kf_181 n dp 1 z_72 kd_72 I_72 L_72 R_72 i1 (i2 + x_72) (i3 + 1)) else none))))) else none) else none) else none) else none) else none) else none) else none)) := by rw [kf_181.eq_2, if_neg (show ¬ ((1 : Nat) = 0) by decide), if_pos (show (1 : Nat) = 1 from rfl)]
set_option maxHeartbeats 8000000 in
set_option maxRecDepth 100000 in
theorem ks_181 : ∀ (n : Nat) (dp : Nat) (lab : Nat) (z : Nat) (kd : (Nat → Nat × Nat)) (I : Nat → Nat → Int32) (I' : JI) (L : Nat → Nat → Int64) (L' : JI) (R : (Nat → Nat → Option Nat)) (i1 : Int32) (i1' : Int) (i2 : Int32) (i2' : Int) (i3 : Int32) (i3' : Int), Rli I I' → Rll L L' → Ui i1 i1' → Ui i2 i2' → Ui i3 i3' → Sim RPi (g_181 n dp lab z kd I L R i1 i2 i3) (kf_181 n dp lab z kd I' L' R i1' i2' i3') := by
  intro n
  induction n with
  | zero => intros; rw [kf_181.eq_1]; exact Sn
  | succ n ih =>
    intro dp lab z kd I I' L L' R i1 i1' i2 i2' i3 i3' u_I u_L u_i1 u_i2 u_i3
    rw [g_181.eq_2, kf_181.eq_2]
    refine Sc Iff.rfl (fun _ => ?_) (fun _ => ?_)
    · refine Sc Iff.rfl (fun c1 => ?_) (fun _ => Sn)
      refine Sb3 (ks_14 n (dp - 1) (z, kd, R) 0 _ _ _ _ _ _ _ _ _ _ u_I u_L u_i1 (rfl : Ui (0) (0)) (rfl : Ui (1000000) (1000000))) (fun x_5 x_5' I_5 I_5' L_5 L_5' u_x_5 u_I_5 u_L_5 => ?_)
      refine Sc (eq_up u_x_5 (rfl : Ui 0 0)) (fun c2 => ?_) (fun c2 => ?_)
      · refine Sc Iff.rfl (fun c3 => ?_) (fun _ => Sn)
        refine Sb3 (ks_15 n (dp - 1) (z, kd, R) 0 _ _ _ _ _ _ u_I_5 u_L_5 (rfl : Ui (-1) (-1))) (fun x_13 x_13' I_13 I_13' L_13 L_13' u_x_13 u_I_13 u_L_13 => ?_)
        exact Sr ⟨u_x_13, ⟨rfl, rfl, u_I_13, u_L_13, rfl⟩, rfl⟩
      · refine Sc Iff.rfl (fun c4 => ?_) (fun _ => Sn)
        refine Sb2 (ks_182 n (dp - 1) (z, kd, R) 0 _ _ _ _ _ _ _ _ _ _ u_I_5 u_L_5 u_i1 (rfl : Ui 0 0) (rfl : Ui 0 0)) (fun I_19 I_19' L_19 L_19' u_I_19 u_L_19 => ?_)
        refine Sc Iff.rfl (fun c5 => ?_) (fun _ => Sn)
        refine Sb2 (ks_81 n (dp - 1) (z, kd, R) 0 _ _ _ _ _ _ _ _ _ _ _ _ u_I_19 u_L_19 (rfl : Ui 0 0) (rfl : Ui 0 0) (rfl : Ui 0 0) (rfl : Ui 0 0)) (fun I_26 I_26' L_26 L_26' u_I_26 u_L_26 => ?_)
        exact (ih dp 1 z kd _ _ _ _ R _ _ _ _ _ _ u_I_26 u_L_26 u_i1 (rfl : Ui (0) (0)) (rfl : Ui (0) (0)))
    refine Sc Iff.rfl (fun _ => ?_) (fun _ => ?_)
    · refine Sc (le_up (rfl : Ui (5) (5)) u_i3) (fun c1 => ?_) (fun c1 => ?_)
      · refine Sc (and_congr (and_congr (not_congr (lt_up (rfl : Ui (0) (0)) (rfl : Ui 0 0))) (and_congr (not_congr (lt_up (rfl : Ui (0) (0)) (rfl : Ui 0 0))) (and_congr (not_congr (lt_up (rfl : Ui (15) (15)) (rfl : Ui 0 0))) Iff.rfl))) Iff.rfl) (fun c2 => ?_) (fun _ => Sn)
        refine SsJ (ri_cp u_I (rfl : Ui (0) (0)) (rfl : Ui (0) (0)) (rfl : Ui (15) (15)) ⟨(show (0 : Int) ≤ 0 from (by decide)), (show (0 : Int) ≤ 0 from (by decide)), (show (0 : Int) ≤ 15 from (by decide))⟩) (fun I_113 I_113' u_I_113 => ?_)
        refine SsJ (ri_up u_I_113 (rfl : ((17 : Nat) : Int) = 17) (rfl : Ui (1) (1))) (fun I_118 I_118' u_I_118 => ?_)
        refine Sc Iff.rfl (fun c3 => ?_) (fun _ => Sn)
        refine Sb3 (ks_19 n (dp - 1) (z, kd, R) 0 _ _ _ _ _ _ u_I_118 u_L u_i2) (fun x_123 x_123' I_123 I_123' L_123 L_123' u_x_123 u_I_123 u_L_123 => ?_)
        exact Sr ⟨u_x_123, ⟨rfl, rfl, u_I_123, u_L_123, rfl⟩, rfl⟩
      · refine Sg (fun g4 => ?_)
        refine Sc (ix_up (ui_mul u_i3 (rfl : Ui (3) (3)) g4)) (fun c5 => ?_) (fun _ => Sn)
        refine Sg (fun g6 => ?_)
        refine Sc (ix_up (ui_add (ui_mul u_i3 (rfl : Ui (3) (3)) g4) (rfl : Ui (1) (1)) g6)) (fun c7 => ?_) (fun _ => Sn)
        refine Sg (fun g8 => ?_)
        refine Sc (ix_up (ui_add (ui_mul u_i3 (rfl : Ui (3) (3)) g4) (rfl : Ui (2) (2)) g8)) (fun c9 => ?_) (fun _ => Sn)
        refine Sc Iff.rfl (fun c10 => ?_) (fun _ => Sn)
        refine SbPi (ks_92 n (dp - 1) 0 z kd _ _ _ _ R _ _ _ _ _ _ _ _ u_I u_L (ui_rd (a := 90) u_I (ui_mul u_i3 (rfl : Ui (3) (3)) g4) c5.1) (ui_rd (a := 90) u_I (ui_add (ui_mul u_i3 (rfl : Ui (3) (3)) g4) (rfl : Ui (1) (1)) g6) c7.1) (ui_rd (a := 90) u_I (ui_add (ui_mul u_i3 (rfl : Ui (3) (3)) g4) (rfl : Ui (2) (2)) g8) c9.1) (rfl : Ui 0 0)) (fun x_72 x_72' z_72 kd_72 I_72 I_72' L_72 L_72' R_72 ck_72 cm_72 u_x_72 u_I_72 u_L_72 => ?_)
        refine Sa_i rfl ?_
        refine Sc (eq_up u_x_72 (rfl : Ui (-1) (-1))) (fun c11 => ?_) (fun c11 => ?_)
        · refine Sc Iff.rfl (fun c12 => ?_) (fun _ => Sn)
          refine Sb3 (ks_15 n (dp - 1) (z_72, kd_72, R_72) 0 _ _ _ _ _ _ u_I_72 u_L_72 (rfl : Ui (-3) (-3))) (fun x_86 x_86' I_86 I_86' L_86 L_86' u_x_86 u_I_86 u_L_86 => ?_)
          exact Sr ⟨u_x_86, ⟨rfl, rfl, u_I_86, u_L_86, rfl⟩, rfl⟩
        · refine Sg (fun g13 => ?_)
          exact (ih dp 1 z_72 kd_72 _ _ _ _ R_72 _ _ _ _ _ _ u_I_72 u_L_72 u_i1 (ui_add u_i2 u_x_72 g13.1) (ui_add u_i3 (rfl : Ui (Int32.ofInt (1)) (1)) g13.2))
    exact Sn
set_option maxHeartbeats 4000000 in
set_option maxRecDepth 100000 in
def kf_33 : Nat → Nat → Nat → Nat → (Nat → Nat × Nat) → JI → JI → (Nat → Nat → Option Nat) → Int → Int → Nat → Option ((Int × PSi) × Nat × Nat)
  | 0, _, _, _, _, _, _, _, _, _, _ => none
  | n + 1, dp, lab, z, kd, I, L, R, i1, i3, a2 =>
    if lab = 0 then (if 1 ≤ dp then (stI (w2 I 104 2 (min 400 i1)) (fun I_10 => (stI (u2 R 104 1 (some a2)) (fun R_15 => ((R_15 104 1).bind (fun b_19 => (if 1 ≤ dp then (if (b_19 < z) ∧ ((kd b_19).1 = 10) then ((kf_35 n (dp - 1) (z, kd, R_15) 0 I_10 L b_19).bind (fun ⟨I_22, L_22⟩ => (stI (w2 I_22 104 5 0) (fun I_27 => (stI (w2 I_27 104 7 0) (fun I_32 => (if 1 ≤ dp then ((kf_37 n (dp - 1) (z, kd, R_15) 0 I_32 L_22 0).bind (fun ⟨I_36, L_36⟩ => (kf_33 n dp 1 z kd I_36 L_36 R_15 i1 0 a2))) else none))))))) else none) else none))))))) else none)
    else if lab = 1 then (if 24 ≤ i3 then (some ((((I 104 4) : Int), z, kd, I, L, R), 0, 0)) else (if 1 ≤ dp then ((kf_40 n (dp - 1) (z, kd, R) 0 I L i3 0).bind (fun ⟨x_49, I_49, L_49⟩ => (if x_49 = 0 then (some ((((I_49 104 4) : Int), z, kd, I_49, L_49, R), 0, 0)) else ((R 104 1).bind (fun b_61 => (if (b_61 < z) ∧ ((kd b_61).1 = 10) then (if -2147483648 ≤ i3 + 1 ∧ i3 + 1 ≤ 2147483647 then (stI (w2 I_49 b_61 10 (i3 + 1)) (fun I_67 => (if (I_67 104 3) = 0 then (some ((((-1) : Int), z, kd, I_67, L_49, R), 0, 0)) else (if 1 ≤ dp then ((kf_59 n (dp - 1) (z, kd, R) 0 I_67 L_49 59).bind (fun ⟨x_82, I_82, L_82⟩ => (if x_82 = 0 then (some ((((I_82 104 4) : Int), z, kd, I_82, L_82, R), 0, 0)) else (if 1 ≤ dp then ((kf_37 n (dp - 1) (z, kd, R) 0 I_82 L_82 0).bind (fun ⟨I_94, L_94⟩ => (kf_33 n dp 1 z kd I_94 L_94 R i1 (i3 + 1) a2))) else none)))) else none)))) else none) else none)))))) else none))
    else none
set_option maxRecDepth 100000 in
theorem ke_33_0 (n : Nat) (dp : Nat) (z : Nat) (kd : (Nat → Nat × Nat)) (I : JI) (L : JI) (R : (Nat → Nat → Option Nat)) (i1 : Int) (i3 : Int) (a2 : Nat) : kf_33 (n + 1) dp 0 z kd I L R i1 i3 a2 = (if 1 ≤ dp then (stI (w2 I 104 2 (min 400 i1)) (fun I_10 => (stI (u2 R 104 1 (some a2)) (fun R_15 => ((R_15 104 1).bind (fun b_19 => (if 1 ≤ dp then (if (b_19 < z) ∧ ((kd b_19).1 = 10) then ((kf_35 n (dp - 1) (z, kd, R_15) 0 I_10 L b_19).bind (fun ⟨I_22, L_22⟩ => (stI (w2 I_22 104 5 0) (fun I_27 => (stI (w2 I_27 104 7 0) (fun I_32 => (if 1 ≤ dp then ((kf_37 n (dp - 1) (z, kd, R_15) 0 I_32 L_22 0).bind (fun ⟨I_36, L_36⟩ => (kf_33 n dp 1 z kd I_36 L_36 R_15 i1 0 a2))) else none))))))) else none) else none))))))) else none) := by rw [kf_33.eq_2, if_pos (show (0 : Nat) = 0 from rfl)]
set_option maxRecDepth 100000 in
theorem ke_33_1 (n : Nat) (dp : Nat) (z : Nat) (kd : (Nat → Nat × Nat)) (I : JI) (L : JI) (R : (Nat → Nat → Option Nat)) (i1 : Int) (i3 : Int) (a2 : Nat) : kf_33 (n + 1) dp 1 z kd I L R i1 i3 a2 = (if 24 ≤ i3 then (some ((((I 104 4) : Int), z, kd, I, L, R), 0, 0)) else (if 1 ≤ dp then ((kf_40 n (dp - 1) (z, kd, R) 0 I L i3 0).bind (fun ⟨x_49, I_49, L_49⟩ => (if x_49 = 0 then (some ((((I_49 104 4) : Int), z, kd, I_49, L_49, R), 0, 0)) else ((R 104 1).bind (fun b_61 => (if (b_61 < z) ∧ ((kd b_61).1 = 10) then (if -2147483648 ≤ i3 + 1 ∧ i3 + 1 ≤ 2147483647 then (stI (w2 I_49 b_61 10 (i3 + 1)) (fun I_67 => (if (I_67 104 3) = 0 then (some ((((-1) : Int), z, kd, I_67, L_49, R), 0, 0)) else (if 1 ≤ dp then ((kf_59 n (dp - 1) (z, kd, R) 0 I_67 L_49 59).bind (fun ⟨x_82, I_82, L_82⟩ => (if x_82 = 0 then (some ((((I_82 104 4) : Int), z, kd, I_82, L_82, R), 0, 0)) else (if 1 ≤ dp then ((kf_37 n (dp - 1) (z, kd, R) 0 I_82 L_82 0).bind (fun ⟨I_94, L_94⟩ => (kf_33 n dp 1 z kd I_94 L_94 R i1 (i3 + 1) a2))) else none)))) else none)))) else none) else none)))))) else none)) := by rw [kf_33.eq_2, if_neg (show ¬ ((1 : Nat) = 0) by decide), if_pos (show (1 : Nat) = 1 from rfl)]
set_option maxHeartbeats 8000000 in
set_option maxRecDepth 100000 in
theorem ks_33 : ∀ (n : Nat) (dp : Nat) (lab : Nat) (z : Nat) (kd : (Nat → Nat × Nat)) (I : Nat → Nat → Int32) (I' : JI) (L : Nat → Nat → Int64) (L' : JI) (R : (Nat → Nat → Option Nat)) (i1 : Int32) (i1' : Int) (i3 : Int32) (i3' : Int) (a2 : Nat), Rli I I' → Rll L L' → Ui i1 i1' → Ui i3 i3' → Sim RPi (g_33 n dp lab z kd I L R i1 i3 a2) (kf_33 n dp lab z kd I' L' R i1' i3' a2) := by
  intro n
  induction n with
  | zero => intros; rw [kf_33.eq_1]; exact Sn
  | succ n ih =>
    intro dp lab z kd I I' L L' R i1 i1' i3 i3' a2 u_I u_L u_i1 u_i3
    rw [g_33.eq_2, kf_33.eq_2]
    refine Sc Iff.rfl (fun _ => ?_) (fun _ => ?_)
    · refine Sc Iff.rfl (fun c1 => ?_) (fun _ => Sn)
      refine SsJ (ri_up u_I (rfl : ((2 : Nat) : Int) = 2) (ui_min (rfl : Ui (nI 400) 400) u_i1)) (fun I_10 I_10' u_I_10 => ?_)
      refine SsE rfl (fun R_15 => ?_)
      refine SbE rfl (fun b_19 => ?_)
      refine Sc Iff.rfl (fun c2 => ?_) (fun _ => Sn)
      refine Sc Iff.rfl (fun c3 => ?_) (fun _ => Sn)
      refine Sb2 (ks_35 n (dp - 1) (z, kd, R_15) 0 _ _ _ _ b_19 u_I_10 u_L) (fun I_22 I_22' L_22 L_22' u_I_22 u_L_22 => ?_)
      refine SsJ (ri_up u_I_22 (rfl : ((5 : Nat) : Int) = 5) (rfl : Ui (0) (0))) (fun I_27 I_27' u_I_27 => ?_)
      refine SsJ (ri_up u_I_27 (rfl : ((7 : Nat) : Int) = 7) (rfl : Ui (0) (0))) (fun I_32 I_32' u_I_32 => ?_)
      refine Sc Iff.rfl (fun c4 => ?_) (fun _ => Sn)
      refine Sb2 (ks_37 n (dp - 1) (z, kd, R_15) 0 _ _ _ _ _ _ u_I_32 u_L_22 (rfl : Ui 0 0)) (fun I_36 I_36' L_36 L_36' u_I_36 u_L_36 => ?_)
      exact (ih dp 1 z kd _ _ _ _ R_15 _ _ _ _ a2 u_I_36 u_L_36 u_i1 (rfl : Ui (0) (0)))
    refine Sc Iff.rfl (fun _ => ?_) (fun _ => ?_)
    · refine Sc (le_up (rfl : Ui (24) (24)) u_i3) (fun c1 => ?_) (fun c1 => ?_)
      · exact Sr ⟨(u_I 104 4), ⟨rfl, rfl, u_I, u_L, rfl⟩, rfl⟩
      · refine Sc Iff.rfl (fun c2 => ?_) (fun _ => Sn)
        refine Sb3 (ks_40 n (dp - 1) (z, kd, R) 0 _ _ _ _ _ _ _ _ u_I u_L u_i3 (rfl : Ui 0 0)) (fun x_49 x_49' I_49 I_49' L_49 L_49' u_x_49 u_I_49 u_L_49 => ?_)
        refine Sc (eq_up u_x_49 (rfl : Ui 0 0)) (fun c3 => ?_) (fun c3 => ?_)
        · exact Sr ⟨(u_I_49 104 4), ⟨rfl, rfl, u_I_49, u_L_49, rfl⟩, rfl⟩
        · refine SbE rfl (fun b_61 => ?_)
          refine Sc Iff.rfl (fun c4 => ?_) (fun _ => Sn)
          refine Sg (fun g5 => ?_)
          refine SsJ (ri_up u_I_49 (rfl : ((10 : Nat) : Int) = 10) (ui_add u_i3 (rfl : Ui (1) (1)) g5)) (fun I_67 I_67' u_I_67 => ?_)
          refine Sc (eq_up (u_I_67 104 3) (rfl : Ui 0 0)) (fun c6 => ?_) (fun c6 => ?_)
          · exact Sr ⟨(rfl : Ui (-1) (-1)), ⟨rfl, rfl, u_I_67, u_L_49, rfl⟩, rfl⟩
          · refine Sc Iff.rfl (fun c7 => ?_) (fun _ => Sn)
            refine Sb3 (ks_59 n (dp - 1) (z, kd, R) 0 _ _ _ _ _ _ u_I_67 u_L_49 (rfl : Ui (59) (59))) (fun x_82 x_82' I_82 I_82' L_82 L_82' u_x_82 u_I_82 u_L_82 => ?_)
            refine Sc (eq_up u_x_82 (rfl : Ui 0 0)) (fun c8 => ?_) (fun c8 => ?_)
            · exact Sr ⟨(u_I_82 104 4), ⟨rfl, rfl, u_I_82, u_L_82, rfl⟩, rfl⟩
            · refine Sc Iff.rfl (fun c9 => ?_) (fun _ => Sn)
              refine Sb2 (ks_37 n (dp - 1) (z, kd, R) 0 _ _ _ _ _ _ u_I_82 u_L_82 (rfl : Ui 0 0)) (fun I_94 I_94' L_94 L_94' u_I_94 u_L_94 => ?_)
              exact (ih dp 1 z kd _ _ _ _ R _ _ _ _ a2 u_I_94 u_L_94 u_i1 (ui_add u_i3 (rfl : Ui (Int32.ofInt (1)) (1)) g5))
    exact Sn
set_option maxHeartbeats 4000000 in
set_option maxRecDepth 100000 in
def kf_32 : Nat → Nat → Nat → Nat → (Nat → Nat × Nat) → JI → JI → (Nat → Nat → Option Nat) → Option ((Int × PSi) × Nat × Nat)
  | 0, _, _, _, _, _, _, _ => none
  | n + 1, dp, lab, z, kd, I, L, R =>
    if lab = 0 then ((R 0 11).bind (fun b_1 => (if 1 ≤ dp then ((kf_33 n (dp - 1) 0 z kd I L R (I 0 13) 0 b_1).bind (fun ⟨⟨x_15, z_15, kd_15, I_15, L_15, R_15⟩, ck_15, cm_15⟩ => (adk ck_15 cm_15 (stI (w2 I_15 0 15 x_15) (fun I_18 => (stI (w2 I_18 0 13 0) (fun I_23 => (if (I_23 0 15) = (-1) then (if -2147483648 ≤ (I_23 0 14) + 1 ∧ (I_23 0 14) + 1 ≤ 2147483647 then (stI (w2 I_23 0 14 ((I_23 0 14) + 1)) (fun I_48 => (if (b_1 < z_15) ∧ ((kd_15 b_1).1 = 10) then (stI (w2 I_48 b_1 13 (I_48 0 14)) (fun I_56 => ((R_15 1 7).bind (fun b_64 => (stI (u2 R_15 0 11 (some b_64)) (fun R_67 => (stI (u2 R_67 1 7 (some b_1)) (fun R_75 => (if 1 ≤ dp then ((kf_21 n (dp - 1) (z_15, kd_15, R_75) 0 I_56 L_15).bind (fun ⟨I_79, L_79⟩ => (if (b_1 < z_15) ∧ ((kd_15 b_1).1 = 10) then (if 1 ≤ dp then ((kf_19 n (dp - 1) (z_15, kd_15, R_75) 0 I_79 L_79 (I_79 b_1 10)).bind (fun ⟨x_87, I_87, L_87⟩ => (some (((x_87 : Int), z_15, kd_15, I_87, L_87, R_75), 0, 0)))) else none) else none))) else none))))))))) else none))) else none) else (if 1 ≤ dp then ((kf_15 n (dp - 1) (z_15, kd_15, R_15) 0 I_23 L_15 (-6)).bind (fun ⟨x_37, I_37, L_37⟩ => (some (((x_37 : Int), z_15, kd_15, I_37, L_37, R_15), 0, 0)))) else none))))))))) else none)))
    else none
set_option maxRecDepth 100000 in
theorem ke_32_0 (n : Nat) (dp : Nat) (z : Nat) (kd : (Nat → Nat × Nat)) (I : JI) (L : JI) (R : (Nat → Nat → Option Nat)) : kf_32 (n + 1) dp 0 z kd I L R = ((R 0 11).bind (fun b_1 => (if 1 ≤ dp then ((kf_33 n (dp - 1) 0 z kd I L R (I 0 13) 0 b_1).bind (fun ⟨⟨x_15, z_15, kd_15, I_15, L_15, R_15⟩, ck_15, cm_15⟩ => (adk ck_15 cm_15 (stI (w2 I_15 0 15 x_15) (fun I_18 => (stI (w2 I_18 0 13 0) (fun I_23 => (if (I_23 0 15) = (-1) then (if -2147483648 ≤ (I_23 0 14) + 1 ∧ (I_23 0 14) + 1 ≤ 2147483647 then (stI (w2 I_23 0 14 ((I_23 0 14) + 1)) (fun I_48 => (if (b_1 < z_15) ∧ ((kd_15 b_1).1 = 10) then (stI (w2 I_48 b_1 13 (I_48 0 14)) (fun I_56 => ((R_15 1 7).bind (fun b_64 => (stI (u2 R_15 0 11 (some b_64)) (fun R_67 => (stI (u2 R_67 1 7 (some b_1)) (fun R_75 => (if 1 ≤ dp then ((kf_21 n (dp - 1) (z_15, kd_15, R_75) 0 I_56 L_15).bind (fun ⟨I_79, L_79⟩ => (if (b_1 < z_15) ∧ ((kd_15 b_1).1 = 10) then (if 1 ≤ dp then ((kf_19 n (dp - 1) (z_15, kd_15, R_75) 0 I_79 L_79 (I_79 b_1 10)).bind (fun ⟨x_87, I_87, L_87⟩ => (some (((x_87 : Int), z_15, kd_15, I_87, L_87, R_75), 0, 0)))) else none) else none))) else none))))))))) else none))) else none) else (if 1 ≤ dp then ((kf_15 n (dp - 1) (z_15, kd_15, R_15) 0 I_23 L_15 (-6)).bind (fun ⟨x_37, I_37, L_37⟩ => (some (((x_37 : Int), z_15, kd_15, I_37, L_37, R_15), 0, 0)))) else none))))))))) else none))) := by rw [kf_32.eq_2, if_pos (show (0 : Nat) = 0 from rfl)]
set_option maxHeartbeats 8000000 in
set_option maxRecDepth 100000 in
theorem ks_32 : ∀ (n : Nat) (dp : Nat) (lab : Nat) (z : Nat) (kd : (Nat → Nat × Nat)) (I : Nat → Nat → Int32) (I' : JI) (L : Nat → Nat → Int64) (L' : JI) (R : (Nat → Nat → Option Nat)), Rli I I' → Rll L L' → Sim RPi (g_32 n dp lab z kd I L R) (kf_32 n dp lab z kd I' L' R) := by
  intro n
  induction n with
  | zero => intros; rw [kf_32.eq_1]; exact Sn
  | succ n ih =>
    intro dp lab z kd I I' L L' R u_I u_L
    rw [g_32.eq_2, kf_32.eq_2]
    refine Sc Iff.rfl (fun _ => ?_) (fun _ => ?_)
    · refine SbE rfl (fun b_1 => ?_)
      refine Sc Iff.rfl (fun c1 => ?_) (fun _ => Sn)
      refine SbPi (ks_33 n (dp - 1) 0 z kd _ _ _ _ R _ _ _ _ b_1 u_I u_L (u_I 0 13) (rfl : Ui 0 0)) (fun x_15 x_15' z_15 kd_15 I_15 I_15' L_15 L_15' R_15 ck_15 cm_15 u_x_15 u_I_15 u_L_15 => ?_)
      refine Sa_i rfl ?_
      refine SsJ (ri_up u_I_15 (rfl : ((15 : Nat) : Int) = 15) u_x_15) (fun I_18 I_18' u_I_18 => ?_)
      refine SsJ (ri_up u_I_18 (rfl : ((13 : Nat) : Int) = 13) (rfl : Ui (0) (0))) (fun I_23 I_23' u_I_23 => ?_)
      refine Sc (eq_up (u_I_23 0 15) (rfl : Ui (-1) (-1))) (fun c2 => ?_) (fun c2 => ?_)
      · refine Sg (fun g3 => ?_)
        refine SsJ (ri_up u_I_23 (rfl : ((14 : Nat) : Int) = 14) (ui_add (u_I_23 0 14) (rfl : Ui (1) (1)) g3)) (fun I_48 I_48' u_I_48 => ?_)
        refine Sc Iff.rfl (fun c4 => ?_) (fun _ => Sn)
        refine SsJ (ri_up u_I_48 (rfl : ((13 : Nat) : Int) = 13) (u_I_48 0 14)) (fun I_56 I_56' u_I_56 => ?_)
        refine SbE rfl (fun b_64 => ?_)
        refine SsE rfl (fun R_67 => ?_)
        refine SsE rfl (fun R_75 => ?_)
        refine Sc Iff.rfl (fun c5 => ?_) (fun _ => Sn)
        refine Sb2 (ks_21 n (dp - 1) (z_15, kd_15, R_75) 0 _ _ _ _ u_I_56 u_L_15) (fun I_79 I_79' L_79 L_79' u_I_79 u_L_79 => ?_)
        refine Sc Iff.rfl (fun c6 => ?_) (fun _ => Sn)
        refine Sc Iff.rfl (fun c7 => ?_) (fun _ => Sn)
        refine Sb3 (ks_19 n (dp - 1) (z_15, kd_15, R_75) 0 _ _ _ _ _ _ u_I_79 u_L_79 (u_I_79 b_1 10)) (fun x_87 x_87' I_87 I_87' L_87 L_87' u_x_87 u_I_87 u_L_87 => ?_)
        exact Sr ⟨u_x_87, ⟨rfl, rfl, u_I_87, u_L_87, rfl⟩, rfl⟩
      · refine Sc Iff.rfl (fun c8 => ?_) (fun _ => Sn)
        refine Sb3 (ks_15 n (dp - 1) (z_15, kd_15, R_15) 0 _ _ _ _ _ _ u_I_23 u_L_15 (rfl : Ui (-6) (-6))) (fun x_37 x_37' I_37 I_37' L_37 L_37' u_x_37 u_I_37 u_L_37 => ?_)
        exact Sr ⟨u_x_37, ⟨rfl, rfl, u_I_37, u_L_37, rfl⟩, rfl⟩
    exact Sn
