/-! lifted functions 15, printed by lift.py -/
set_option maxHeartbeats 4000000 in
set_option maxRecDepth 100000 in
def kf_3 : Nat → Nat → Nat → Nat → (Nat → Nat × Nat) → JI → JI → (Nat → Nat → Option Nat) → Nat → Option (PSi × Nat × Nat)
  | 0, _, _, _, _, _, _, _, _ => none
  | n + 1, dp, lab, z, kd, I, L, R, a0 =>
    if lab = 0 then (if 1 ≤ dp then (adk 1 24 (stI (z + 1) (fun z_7 => (stI (va_up kd z (13, 24)) (fun kd_7 => (stI (nw2 I z) (fun I_7 => (stI (nw2 L z) (fun L_7 => (stI (va_up R z (fun _ => none)) (fun R_7 => (if (a0 < z_7) ∧ ((kd_7 a0).1 = 10) then (stI (u2 R_7 a0 0 (some z)) (fun R_9 => (adk 1 24 (stI (z_7 + 1) (fun z_15 => (stI (va_up kd_7 z_7 (13, 24)) (fun kd_15 => (stI (nw2 I_7 z_7) (fun I_15 => (stI (nw2 L_7 z_7) (fun L_15 => (stI (va_up R_9 z_7 (fun _ => none)) (fun R_15 => (if (a0 < z_15) ∧ ((kd_15 a0).1 = 10) then (stI (u2 R_15 a0 1 (some z_7)) (fun R_17 => (adk 1 24 (stI (z_15 + 1) (fun z_23 => (stI (va_up kd_15 z_15 (13, 24)) (fun kd_23 => (stI (nw2 I_15 z_15) (fun I_23 => (stI (nw2 L_15 z_15) (fun L_23 => (stI (va_up R_17 z_15 (fun _ => none)) (fun R_23 => (if (a0 < z_23) ∧ ((kd_23 a0).1 = 10) then (stI (u2 R_23 a0 2 (some z_15)) (fun R_25 => (adk 1 24 (stI (z_23 + 1) (fun z_31 => (stI (va_up kd_23 z_23 (13, 24)) (fun kd_31 => (stI (nw2 I_23 z_23) (fun I_31 => (stI (nw2 L_23 z_23) (fun L_31 => (stI (va_up R_25 z_23 (fun _ => none)) (fun R_31 => (if (a0 < z_31) ∧ ((kd_31 a0).1 = 10) then (stI (u2 R_31 a0 3 (some z_23)) (fun R_33 => (adk 1 24 (stI (z_31 + 1) (fun z_39 => (stI (va_up kd_31 z_31 (13, 24)) (fun kd_39 => (stI (nw2 I_31 z_31) (fun I_39 => (stI (nw2 L_31 z_31) (fun L_39 => (stI (va_up R_33 z_31 (fun _ => none)) (fun R_39 => (if (a0 < z_39) ∧ ((kd_39 a0).1 = 10) then (stI (u2 R_39 a0 4 (some z_31)) (fun R_41 => (adk 1 16 (stI (z_39 + 1) (fun z_47 => (stI (va_up kd_39 z_39 (13, 16)) (fun kd_47 => (stI (nw2 I_39 z_39) (fun I_47 => (stI (nw2 L_39 z_39) (fun L_47 => (stI (va_up R_41 z_39 (fun _ => none)) (fun R_47 => (if (a0 < z_47) ∧ ((kd_47 a0).1 = 10) then (stI (u2 R_47 a0 5 (some z_39)) (fun R_49 => (adk 1 16 (stI (z_47 + 1) (fun z_55 => (stI (va_up kd_47 z_47 (13, 16)) (fun kd_55 => (stI (nw2 I_47 z_47) (fun I_55 => (stI (nw2 L_47 z_47) (fun L_55 => (stI (va_up R_49 z_47 (fun _ => none)) (fun R_55 => (if (a0 < z_55) ∧ ((kd_55 a0).1 = 10) then (stI (u2 R_55 a0 6 (some z_47)) (fun R_57 => (adk 1 160 (stI (z_55 + 1) (fun z_64 => (stI (va_up kd_55 z_55 (13, 160)) (fun kd_64 => (stI (nw2 I_55 z_55) (fun I_64 => (stI (nw2 L_55 z_55) (fun L_64 => (stI (va_up R_57 z_55 (fun _ => none)) (fun R_64 => (if (a0 < z_64) ∧ ((kd_64 a0).1 = 10) then (stI (u2 R_64 a0 7 (some z_55)) (fun R_66 => (adk 1 400 (stI (z_64 + 1) (fun z_73 => (stI (va_up kd_64 z_64 (13, 400)) (fun kd_73 => (stI (nw2 I_64 z_64) (fun I_73 => (stI (nw2 L_64 z_64) (fun L_73 => (stI (va_up R_66 z_64 (fun _ => none)) (fun R_73 => (if (a0 < z_73) ∧ ((kd_73 a0).1 = 10) then (stI (u2 R_73 a0 8 (some z_64)) (fun R_75 => (adk 1 400 (stI (z_73 + 1) (fun z_82 => (stI (va_up kd_73 z_73 (13, 400)) (fun kd_82 => (stI (nw2 I_73 z_73) (fun I_82 => (stI (nw2 L_73 z_73) (fun L_82 => (stI (va_up R_75 z_73 (fun _ => none)) (fun R_82 => (if (a0 < z_82) ∧ ((kd_82 a0).1 = 10) then (stI (u2 R_82 a0 9 (some z_73)) (fun R_84 => (if (a0 < z_82) ∧ ((kd_82 a0).1 = 10) then (stI (w2 I_82 a0 10 0) (fun I_89 => (if (a0 < z_82) ∧ ((kd_82 a0).1 = 10) then (stI (w2 I_89 a0 11 0) (fun I_94 => (if (a0 < z_82) ∧ ((kd_82 a0).1 = 10) then (stI (w2 I_94 a0 12 0) (fun I_99 => (if (a0 < z_82) ∧ ((kd_82 a0).1 = 10) then (stI (w2 I_99 a0 13 0) (fun I_104 => (some ((z_82, kd_82, I_104, L_82, R_84), 0, 0)))) else none))) else none))) else none))) else none))) else none)))))))))))))) else none)))))))))))))) else none)))))))))))))) else none)))))))))))))) else none)))))))))))))) else none)))))))))))))) else none)))))))))))))) else none)))))))))))))) else none)))))))))))))) else none)))))))))))) else none)
    else none
set_option maxRecDepth 100000 in
theorem ke_3_0 (n : Nat) (dp : Nat) (z : Nat) (kd : (Nat → Nat × Nat)) (I : JI) (L : JI) (R : (Nat → Nat → Option Nat)) (a0 : Nat) : kf_3 (n + 1) dp 0 z kd I L R a0 = (if 1 ≤ dp then (adk 1 24 (stI (z + 1) (fun z_7 => (stI (va_up kd z (13, 24)) (fun kd_7 => (stI (nw2 I z) (fun I_7 => (stI (nw2 L z) (fun L_7 => (stI (va_up R z (fun _ => none)) (fun R_7 => (if (a0 < z_7) ∧ ((kd_7 a0).1 = 10) then (stI (u2 R_7 a0 0 (some z)) (fun R_9 => (adk 1 24 (stI (z_7 + 1) (fun z_15 => (stI (va_up kd_7 z_7 (13, 24)) (fun kd_15 => (stI (nw2 I_7 z_7) (fun I_15 => (stI (nw2 L_7 z_7) (fun L_15 => (stI (va_up R_9 z_7 (fun _ => none)) (fun R_15 => (if (a0 < z_15) ∧ ((kd_15 a0).1 = 10) then (stI (u2 R_15 a0 1 (some z_7)) (fun R_17 => (adk 1 24 (stI (z_15 + 1) (fun z_23 => (stI (va_up kd_15 z_15 (13, 24)) (fun kd_23 => (stI (nw2 I_15 z_15) (fun I_23 => (stI (nw2 L_15 z_15) (fun L_23 => (stI (va_up R_17 z_15 (fun _ => none)) (fun R_23 => (if (a0 < z_23) ∧ ((kd_23 a0).1 = 10) then (stI (u2 R_23 a0 2 (some z_15)) (fun R_25 => (adk 1 24 (stI (z_23 + 1) (fun z_31 => (stI (va_up kd_23 z_23 (13, 24)) (fun kd_31 => (stI (nw2 I_23 z_23) (fun I_31 => (stI (nw2 L_23 z_23) (fun L_31 => (stI (va_up R_25 z_23 (fun _ => none)) (fun R_31 => (if (a0 < z_31) ∧ ((kd_31 a0).1 = 10) then (stI (u2 R_31 a0 3 (some z_23)) (fun R_33 => (adk 1 24 (stI (z_31 + 1) (fun z_39 => (stI (va_up kd_31 z_31 (13, 24)) (fun kd_39 => (stI (nw2 I_31 z_31) (fun I_39 => (stI (nw2 L_31 z_31) (fun L_39 => (stI (va_up R_33 z_31 (fun _ => none)) (fun R_39 => (if (a0 < z_39) ∧ ((kd_39 a0).1 = 10) then (stI (u2 R_39 a0 4 (some z_31)) (fun R_41 => (adk 1 16 (stI (z_39 + 1) (fun z_47 => (stI (va_up kd_39 z_39 (13, 16)) (fun kd_47 => (stI (nw2 I_39 z_39) (fun I_47 => (stI (nw2 L_39 z_39) (fun L_47 => (stI (va_up R_41 z_39 (fun _ => none)) (fun R_47 => (if (a0 < z_47) ∧ ((kd_47 a0).1 = 10) then (stI (u2 R_47 a0 5 (some z_39)) (fun R_49 => (adk 1 16 (stI (z_47 + 1) (fun z_55 => (stI (va_up kd_47 z_47 (13, 16)) (fun kd_55 => (stI (nw2 I_47 z_47) (fun I_55 => (stI (nw2 L_47 z_47) (fun L_55 => (stI (va_up R_49 z_47 (fun _ => none)) (fun R_55 => (if (a0 < z_55) ∧ ((kd_55 a0).1 = 10) then (stI (u2 R_55 a0 6 (some z_47)) (fun R_57 => (adk 1 160 (stI (z_55 + 1) (fun z_64 => (stI (va_up kd_55 z_55 (13, 160)) (fun kd_64 => (stI (nw2 I_55 z_55) (fun I_64 => (stI (nw2 L_55 z_55) (fun L_64 => (stI (va_up R_57 z_55 (fun _ => none)) (fun R_64 => (if (a0 < z_64) ∧ ((kd_64 a0).1 = 10) then (stI (u2 R_64 a0 7 (some z_55)) (fun R_66 => (adk 1 400 (stI (z_64 + 1) (fun z_73 => (stI (va_up kd_64 z_64 (13, 400)) (fun kd_73 => (stI (nw2 I_64 z_64) (fun I_73 => (stI (nw2 L_64 z_64) (fun L_73 => (stI (va_up R_66 z_64 (fun _ => none)) (fun R_73 => (if (a0 < z_73) ∧ ((kd_73 a0).1 = 10) then (stI (u2 R_73 a0 8 (some z_64)) (fun R_75 => (adk 1 400 (stI (z_73 + 1) (fun z_82 => (stI (va_up kd_73 z_73 (13, 400)) (fun kd_82 => (stI (nw2 I_73 z_73) (fun I_82 => (stI (nw2 L_73 z_73) (fun L_82 => (stI (va_up R_75 z_73 (fun _ => none)) (fun R_82 => (if (a0 < z_82) ∧ ((kd_82 a0).1 = 10) then (stI (u2 R_82 a0 9 (some z_73)) (fun R_84 => (if (a0 < z_82) ∧ ((kd_82 a0).1 = 10) then (stI (w2 I_82 a0 10 0) (fun I_89 => (if (a0 < z_82) ∧ ((kd_82 a0).1 = 10) then (stI (w2 I_89 a0 11 0) (fun I_94 => (if (a0 < z_82) ∧ ((kd_82 a0).1 = 10) then (stI (w2 I_94 a0 12 0) (fun I_99 => (if (a0 < z_82) ∧ ((kd_82 a0).1 = 10) then (stI (w2 I_99 a0 13 0) (fun I_104 => (some ((z_82, kd_82, I_104, L_82, R_84), 0, 0)))) else none))) else none))) else none))) else none))) else none)))))))))))))) else none)))))))))))))) else none)))))))))))))) else none)))))))))))))) else none)))))))))))))) else none)))))))))))))) else none)))))))))))))) else none)))))))))))))) else none)))))))))))))) else none)))))))))))) else none) := by rw [kf_3.eq_2, if_pos (show (0 : Nat) = 0 from rfl)]
set_option maxHeartbeats 8000000 in
set_option maxRecDepth 100000 in
theorem ks_3 : ∀ (n : Nat) (dp : Nat) (lab : Nat) (z : Nat) (kd : (Nat → Nat × Nat)) (I : Nat → Nat → Int32) (I' : JI) (L : Nat → Nat → Int64) (L' : JI) (R : (Nat → Nat → Option Nat)) (a0 : Nat), Rli I I' → Rll L L' → Sim RPv (g_3 n dp lab z kd I L R a0) (kf_3 n dp lab z kd I' L' R a0) := by
  intro n
  induction n with
  | zero => intros; rw [kf_3.eq_1]; exact Sn
  | succ n ih =>
    intro dp lab z kd I I' L L' R a0 u_I u_L
    rw [g_3.eq_2, kf_3.eq_2]
    refine Sc Iff.rfl (fun _ => ?_) (fun _ => ?_)
    · refine Sc Iff.rfl (fun c1 => ?_) (fun _ => Sn)
      refine Sa_v rfl ?_
      refine SsE rfl (fun z_7 => ?_)
      refine SsE rfl (fun kd_7 => ?_)
      refine SsJ (ri_nw u_I) (fun I_7 I_7' u_I_7 => ?_)
      refine SsM (rl_nw u_L) (fun L_7 L_7' u_L_7 => ?_)
      refine SsE rfl (fun R_7 => ?_)
      refine Sc Iff.rfl (fun c2 => ?_) (fun _ => Sn)
      refine SsE rfl (fun R_9 => ?_)
      refine Sa_v rfl ?_
      refine SsE rfl (fun z_15 => ?_)
      refine SsE rfl (fun kd_15 => ?_)
      refine SsJ (ri_nw u_I_7) (fun I_15 I_15' u_I_15 => ?_)
      refine SsM (rl_nw u_L_7) (fun L_15 L_15' u_L_15 => ?_)
      refine SsE rfl (fun R_15 => ?_)
      refine Sc Iff.rfl (fun c3 => ?_) (fun _ => Sn)
      refine SsE rfl (fun R_17 => ?_)
      refine Sa_v rfl ?_
      refine SsE rfl (fun z_23 => ?_)
      refine SsE rfl (fun kd_23 => ?_)
      refine SsJ (ri_nw u_I_15) (fun I_23 I_23' u_I_23 => ?_)
      refine SsM (rl_nw u_L_15) (fun L_23 L_23' u_L_23 => ?_)
      refine SsE rfl (fun R_23 => ?_)
      refine Sc Iff.rfl (fun c4 => ?_) (fun _ => Sn)
      refine SsE rfl (fun R_25 => ?_)
      refine Sa_v rfl ?_
      refine SsE rfl (fun z_31 => ?_)
      refine SsE rfl (fun kd_31 => ?_)
      refine SsJ (ri_nw u_I_23) (fun I_31 I_31' u_I_31 => ?_)
      refine SsM (rl_nw u_L_23) (fun L_31 L_31' u_L_31 => ?_)
      refine SsE rfl (fun R_31 => ?_)
      refine Sc Iff.rfl (fun c5 => ?_) (fun _ => Sn)
      refine SsE rfl (fun R_33 => ?_)
      refine Sa_v rfl ?_
      refine SsE rfl (fun z_39 => ?_)
      refine SsE rfl (fun kd_39 => ?_)
      refine SsJ (ri_nw u_I_31) (fun I_39 I_39' u_I_39 => ?_)
      refine SsM (rl_nw u_L_31) (fun L_39 L_39' u_L_39 => ?_)
      refine SsE rfl (fun R_39 => ?_)
      refine Sc Iff.rfl (fun c6 => ?_) (fun _ => Sn)
      refine SsE rfl (fun R_41 => ?_)
      refine Sa_v rfl ?_
      refine SsE rfl (fun z_47 => ?_)
      refine SsE rfl (fun kd_47 => ?_)
      refine SsJ (ri_nw u_I_39) (fun I_47 I_47' u_I_47 => ?_)
      refine SsM (rl_nw u_L_39) (fun L_47 L_47' u_L_47 => ?_)
      refine SsE rfl (fun R_47 => ?_)
      refine Sc Iff.rfl (fun c7 => ?_) (fun _ => Sn)
      refine SsE rfl (fun R_49 => ?_)
      refine Sa_v rfl ?_
      refine SsE rfl (fun z_55 => ?_)
      refine SsE rfl (fun kd_55 => ?_)
      refine SsJ (ri_nw u_I_47) (fun I_55 I_55' u_I_55 => ?_)
      refine SsM (rl_nw u_L_47) (fun L_55 L_55' u_L_55 => ?_)
      refine SsE rfl (fun R_55 => ?_)
      refine Sc Iff.rfl (fun c8 => ?_) (fun _ => Sn)
      refine SsE rfl (fun R_57 => ?_)
      refine Sa_v rfl ?_
      refine SsE rfl (fun z_64 => ?_)
      refine SsE rfl (fun kd_64 => ?_)
      refine SsJ (ri_nw u_I_55) (fun I_64 I_64' u_I_64 => ?_)
      refine SsM (rl_nw u_L_55) (fun L_64 L_64' u_L_64 => ?_)
      refine SsE rfl (fun R_64 => ?_)
      refine Sc Iff.rfl (fun c9 => ?_) (fun _ => Sn)
      refine SsE rfl (fun R_66 => ?_)
      refine Sa_v rfl ?_
      refine SsE rfl (fun z_73 => ?_)
      refine SsE rfl (fun kd_73 => ?_)
      refine SsJ (ri_nw u_I_64) (fun I_73 I_73' u_I_73 => ?_)
      refine SsM (rl_nw u_L_64) (fun L_73 L_73' u_L_73 => ?_)
      refine SsE rfl (fun R_73 => ?_)
      refine Sc Iff.rfl (fun c10 => ?_) (fun _ => Sn)
      refine SsE rfl (fun R_75 => ?_)
      refine Sa_v rfl ?_
      refine SsE rfl (fun z_82 => ?_)
      refine SsE rfl (fun kd_82 => ?_)
      refine SsJ (ri_nw u_I_73) (fun I_82 I_82' u_I_82 => ?_)
      refine SsM (rl_nw u_L_73) (fun L_82 L_82' u_L_82 => ?_)
      refine SsE rfl (fun R_82 => ?_)
      refine Sc Iff.rfl (fun c11 => ?_) (fun _ => Sn)
      refine SsE rfl (fun R_84 => ?_)
      refine Sc Iff.rfl (fun c12 => ?_) (fun _ => Sn)
      refine SsJ (ri_up u_I_82 (rfl : ((10 : Nat) : Int) = 10) (rfl : Ui (0) (0))) (fun I_89 I_89' u_I_89 => ?_)
      refine Sc Iff.rfl (fun c13 => ?_) (fun _ => Sn)
      refine SsJ (ri_up u_I_89 (rfl : ((11 : Nat) : Int) = 11) (rfl : Ui (0) (0))) (fun I_94 I_94' u_I_94 => ?_)
      refine Sc Iff.rfl (fun c14 => ?_) (fun _ => Sn)
      refine SsJ (ri_up u_I_94 (rfl : ((12 : Nat) : Int) = 12) (rfl : Ui (0) (0))) (fun I_99 I_99' u_I_99 => ?_)
      refine Sc Iff.rfl (fun c15 => ?_) (fun _ => Sn)
      refine SsJ (ri_up u_I_99 (rfl : ((13 : Nat) : Int) = 13) (rfl : Ui (0) (0))) (fun I_104 I_104' u_I_104 => ?_)
      exact Sr ⟨⟨rfl, rfl, u_I_104, u_L_82, rfl⟩, rfl⟩
    exact Sn
set_option maxHeartbeats 4000000 in
set_option maxRecDepth 100000 in
def kf_2 : Nat → Nat → Nat → Nat → (Nat → Nat × Nat) → JI → JI → (Nat → Nat → Option Nat) → Nat → Option (PSi × Nat × Nat)
  | 0, _, _, _, _, _, _, _, _ => none
  | n + 1, dp, lab, z, kd, I, L, R, a0 =>
    if lab = 0 then (if 1 ≤ dp then (adk 1 3 (stI (z + 1) (fun z_6 => (stI (va_up kd z (13, 3)) (fun kd_6 => (stI (nw2 I z) (fun I_6 => (stI (nw2 L z) (fun L_6 => (stI (va_up R z (fun _ => none)) (fun R_6 => (if (a0 < z_6) ∧ ((kd_6 a0).1 = 3) then (stI (u2 R_6 a0 0 (some z)) (fun R_8 => (adk 1 30 (stI (z_6 + 1) (fun z_14 => (stI (va_up kd_6 z_6 (13, 30)) (fun kd_14 => (stI (nw2 I_6 z_6) (fun I_14 => (stI (nw2 L_6 z_6) (fun L_14 => (stI (va_up R_8 z_6 (fun _ => none)) (fun R_14 => (if (a0 < z_14) ∧ ((kd_14 a0).1 = 3) then (stI (u2 R_14 a0 1 (some z_6)) (fun R_16 => (adk 1 30 (stI (z_14 + 1) (fun z_22 => (stI (va_up kd_14 z_14 (13, 30)) (fun kd_22 => (stI (nw2 I_14 z_14) (fun I_22 => (stI (nw2 L_14 z_14) (fun L_22 => (stI (va_up R_16 z_14 (fun _ => none)) (fun R_22 => (if (a0 < z_22) ∧ ((kd_22 a0).1 = 3) then (stI (u2 R_22 a0 2 (some z_14)) (fun R_24 => (adk 1 4 (stI (z_22 + 1) (fun z_29 => (stI (va_up kd_22 z_22 (13, 4)) (fun kd_29 => (stI (nw2 I_22 z_22) (fun I_29 => (stI (nw2 L_22 z_22) (fun L_29 => (stI (va_up R_24 z_22 (fun _ => none)) (fun R_29 => (if (a0 < z_29) ∧ ((kd_29 a0).1 = 3) then (stI (u2 R_29 a0 3 (some z_22)) (fun R_31 => (adk 1 8 (stI (z_29 + 1) (fun z_37 => (stI (va_up kd_29 z_29 (13, 8)) (fun kd_37 => (stI (nw2 I_29 z_29) (fun I_37 => (stI (nw2 L_29 z_29) (fun L_37 => (stI (va_up R_31 z_29 (fun _ => none)) (fun R_37 => (if (a0 < z_37) ∧ ((kd_37 a0).1 = 3) then (stI (u2 R_37 a0 4 (some z_29)) (fun R_39 => (adk 1 112 (stI (z_37 + 1) (fun z_45 => (stI (va_up kd_37 z_37 (13, 112)) (fun kd_45 => (stI (nw2 I_37 z_37) (fun I_45 => (stI (nw2 L_37 z_37) (fun L_45 => (stI (va_up R_39 z_37 (fun _ => none)) (fun R_45 => (if (a0 < z_45) ∧ ((kd_45 a0).1 = 3) then (stI (u2 R_45 a0 5 (some z_37)) (fun R_47 => (adk 1 40 (stI (z_45 + 1) (fun z_53 => (stI (va_up kd_45 z_45 (13, 40)) (fun kd_53 => (stI (nw2 I_45 z_45) (fun I_53 => (stI (nw2 L_45 z_45) (fun L_53 => (stI (va_up R_47 z_45 (fun _ => none)) (fun R_53 => (if (a0 < z_53) ∧ ((kd_53 a0).1 = 3) then (stI (u2 R_53 a0 6 (some z_45)) (fun R_55 => (adk 1 (clN 10).2.2 (stI (z_53 + 1) (fun z_59 => (stI (va_up kd_53 z_53 (10, 0)) (fun kd_59 => (stI (nw2 I_53 z_53) (fun I_59 => (stI (nw2 L_53 z_53) (fun L_59 => (stI (va_up R_55 z_53 (fun _ => none)) (fun R_59 => (if 1 ≤ dp then (if (z_53 < z_59) ∧ ((kd_59 z_53).1 = 10) then ((kf_3 n (dp - 1) 0 z_59 kd_59 I_59 L_59 R_59 z_53).bind (fun ⟨⟨z_63, kd_63, I_63, L_63, R_63⟩, ck_63, cm_63⟩ => (adk ck_63 cm_63 (if (a0 < z_63) ∧ ((kd_63 a0).1 = 3) then (stI (u2 R_63 a0 7 (some z_53)) (fun R_66 => (if (a0 < z_63) ∧ ((kd_63 a0).1 = 3) then (stI (w2 I_63 a0 8 0) (fun I_71 => (if (a0 < z_63) ∧ ((kd_63 a0).1 = 3) then (stI (w2 I_71 a0 9 0) (fun I_76 => (if (a0 < z_63) ∧ ((kd_63 a0).1 = 3) then (stI (w2 I_76 a0 10 0) (fun I_81 => (if (a0 < z_63) ∧ ((kd_63 a0).1 = 3) then (stI (w2 I_81 a0 11 0) (fun I_86 => (if (a0 < z_63) ∧ ((kd_63 a0).1 = 3) then (stI (w2 I_86 a0 12 5) (fun I_91 => (some ((z_63, kd_63, I_91, L_63, R_66), 0, 0)))) else none))) else none))) else none))) else none))) else none))) else none)))) else none) else none)))))))))))))) else none)))))))))))))) else none)))))))))))))) else none)))))))))))))) else none)))))))))))))) else none)))))))))))))) else none)))))))))))))) else none)))))))))))) else none)
    else none
set_option maxRecDepth 100000 in
theorem ke_2_0 (n : Nat) (dp : Nat) (z : Nat) (kd : (Nat → Nat × Nat)) (I : JI) (L : JI) (R : (Nat → Nat → Option Nat)) (a0 : Nat) : kf_2 (n + 1) dp 0 z kd I L R a0 = (if 1 ≤ dp then (adk 1 3 (stI (z + 1) (fun z_6 => (stI (va_up kd z (13, 3)) (fun kd_6 => (stI (nw2 I z) (fun I_6 => (stI (nw2 L z) (fun L_6 => (stI (va_up R z (fun _ => none)) (fun R_6 => (if (a0 < z_6) ∧ ((kd_6 a0).1 = 3) then (stI (u2 R_6 a0 0 (some z)) (fun R_8 => (adk 1 30 (stI (z_6 + 1) (fun z_14 => (stI (va_up kd_6 z_6 (13, 30)) (fun kd_14 => (stI (nw2 I_6 z_6) (fun I_14 => (stI (nw2 L_6 z_6) (fun L_14 => (stI (va_up R_8 z_6 (fun _ => none)) (fun R_14 => (if (a0 < z_14) ∧ ((kd_14 a0).1 = 3) then (stI (u2 R_14 a0 1 (some z_6)) (fun R_16 => (adk 1 30 (stI (z_14 + 1) (fun z_22 => (stI (va_up kd_14 z_14 (13, 30)) (fun kd_22 => (stI (nw2 I_14 z_14) (fun I_22 => (stI (nw2 L_14 z_14) (fun L_22 => (stI (va_up R_16 z_14 (fun _ => none)) (fun R_22 => (if (a0 < z_22) ∧ ((kd_22 a0).1 = 3) then (stI (u2 R_22 a0 2 (some z_14)) (fun R_24 => (adk 1 4 (stI (z_22 + 1) (fun z_29 => (stI (va_up kd_22 z_22 (13, 4)) (fun kd_29 => (stI (nw2 I_22 z_22) (fun I_29 => (stI (nw2 L_22 z_22) (fun L_29 => (stI (va_up R_24 z_22 (fun _ => none)) (fun R_29 => (if (a0 < z_29) ∧ ((kd_29 a0).1 = 3) then (stI (u2 R_29 a0 3 (some z_22)) (fun R_31 => (adk 1 8 (stI (z_29 + 1) (fun z_37 => (stI (va_up kd_29 z_29 (13, 8)) (fun kd_37 => (stI (nw2 I_29 z_29) (fun I_37 => (stI (nw2 L_29 z_29) (fun L_37 => (stI (va_up R_31 z_29 (fun _ => none)) (fun R_37 => (if (a0 < z_37) ∧ ((kd_37 a0).1 = 3) then (stI (u2 R_37 a0 4 (some z_29)) (fun R_39 => (adk 1 112 (stI (z_37 + 1) (fun z_45 => (stI (va_up kd_37 z_37 (13, 112)) (fun kd_45 => (stI (nw2 I_37 z_37) (fun I_45 => (stI (nw2 L_37 z_37) (fun L_45 => (stI (va_up R_39 z_37 (fun _ => none)) (fun R_45 => (if (a0 < z_45) ∧ ((kd_45 a0).1 = 3) then (stI (u2 R_45 a0 5 (some z_37)) (fun R_47 => (adk 1 40 (stI (z_45 + 1) (fun z_53 => (stI (va_up kd_45 z_45 (13, 40)) (fun kd_53 => (stI (nw2 I_45 z_45) (fun I_53 => (stI (nw2 L_45 z_45) (fun L_53 => (stI (va_up R_47 z_45 (fun _ => none)) (fun R_53 => (if (a0 < z_53) ∧ ((kd_53 a0).1 = 3) then (stI (u2 R_53 a0 6 (some z_45)) (fun R_55 => (adk 1 (clN 10).2.2 (stI (z_53 + 1) (fun z_59 => (stI (va_up kd_53 z_53 (10, 0)) (fun kd_59 => (stI (nw2 I_53 z_53) (fun I_59 => (stI (nw2 L_53 z_53) (fun L_59 => (stI (va_up R_55 z_53 (fun _ => none)) (fun R_59 => (if 1 ≤ dp then (if (z_53 < z_59) ∧ ((kd_59 z_53).1 = 10) then ((kf_3 n (dp - 1) 0 z_59 kd_59 I_59 L_59 R_59 z_53).bind (fun ⟨⟨z_63, kd_63, I_63, L_63, R_63⟩, ck_63, cm_63⟩ => (adk ck_63 cm_63 (if (a0 < z_63) ∧ ((kd_63 a0).1 = 3) then (stI (u2 R_63 a0 7 (some z_53)) (fun R_66 => (if (a0 < z_63) ∧ ((kd_63 a0).1 = 3) then (stI (w2 I_63 a0 8 0) (fun I_71 => (if (a0 < z_63) ∧ ((kd_63 a0).1 = 3) then (stI (w2 I_71 a0 9 0) (fun I_76 => (if (a0 < z_63) ∧ ((kd_63 a0).1 = 3) then (stI (w2 I_76 a0 10 0) (fun I_81 => (if (a0 < z_63) ∧ ((kd_63 a0).1 = 3) then (stI (w2 I_81 a0 11 0) (fun I_86 => (if (a0 < z_63) ∧ ((kd_63 a0).1 = 3) then (stI (w2 I_86 a0 12 5) (fun I_91 => (some ((z_63, kd_63, I_91, L_63, R_66), 0, 0)))) else none))) else none))) else none))) else none))) else none))) else none)))) else none) else none)))))))))))))) else none)))))))))))))) else none)))))))))))))) else none)))))))))))))) else none)))))))))))))) else none)))))))))))))) else none)))))))))))))) else none)))))))))))) else none) := by rw [kf_2.eq_2, if_pos (show (0 : Nat) = 0 from rfl)]
set_option maxHeartbeats 8000000 in
set_option maxRecDepth 100000 in
theorem ks_2 : ∀ (n : Nat) (dp : Nat) (lab : Nat) (z : Nat) (kd : (Nat → Nat × Nat)) (I : Nat → Nat → Int32) (I' : JI) (L : Nat → Nat → Int64) (L' : JI) (R : (Nat → Nat → Option Nat)) (a0 : Nat), Rli I I' → Rll L L' → Sim RPv (g_2 n dp lab z kd I L R a0) (kf_2 n dp lab z kd I' L' R a0) := by
  intro n
  induction n with
  | zero => intros; rw [kf_2.eq_1]; exact Sn
  | succ n ih =>
    intro dp lab z kd I I' L L' R a0 u_I u_L
    rw [g_2.eq_2, kf_2.eq_2]
    refine Sc Iff.rfl (fun _ => ?_) (fun _ => ?_)
    · refine Sc Iff.rfl (fun c1 => ?_) (fun _ => Sn)
      refine Sa_v rfl ?_
      refine SsE rfl (fun z_6 => ?_)
      refine SsE rfl (fun kd_6 => ?_)
      refine SsJ (ri_nw u_I) (fun I_6 I_6' u_I_6 => ?_)
      refine SsM (rl_nw u_L) (fun L_6 L_6' u_L_6 => ?_)
      refine SsE rfl (fun R_6 => ?_)
      refine Sc Iff.rfl (fun c2 => ?_) (fun _ => Sn)
      refine SsE rfl (fun R_8 => ?_)
      refine Sa_v rfl ?_
      refine SsE rfl (fun z_14 => ?_)
      refine SsE rfl (fun kd_14 => ?_)
      refine SsJ (ri_nw u_I_6) (fun I_14 I_14' u_I_14 => ?_)
      refine SsM (rl_nw u_L_6) (fun L_14 L_14' u_L_14 => ?_)
      refine SsE rfl (fun R_14 => ?_)
      refine Sc Iff.rfl (fun c3 => ?_) (fun _ => Sn)
      refine SsE rfl (fun R_16 => ?_)
      refine Sa_v rfl ?_
      refine SsE rfl (fun z_22 => ?_)
      refine SsE rfl (fun kd_22 => ?_)
      refine SsJ (ri_nw u_I_14) (fun I_22 I_22' u_I_22 => ?_)
      refine SsM (rl_nw u_L_14) (fun L_22 L_22' u_L_22 => ?_)
      refine SsE rfl (fun R_22 => ?_)
      refine Sc Iff.rfl (fun c4 => ?_) (fun _ => Sn)
      refine SsE rfl (fun R_24 => ?_)
      refine Sa_v rfl ?_
      refine SsE rfl (fun z_29 => ?_)
      refine SsE rfl (fun kd_29 => ?_)
      refine SsJ (ri_nw u_I_22) (fun I_29 I_29' u_I_29 => ?_)
      refine SsM (rl_nw u_L_22) (fun L_29 L_29' u_L_29 => ?_)
      refine SsE rfl (fun R_29 => ?_)
      refine Sc Iff.rfl (fun c5 => ?_) (fun _ => Sn)
      refine SsE rfl (fun R_31 => ?_)
      refine Sa_v rfl ?_
      refine SsE rfl (fun z_37 => ?_)
      refine SsE rfl (fun kd_37 => ?_)
      refine SsJ (ri_nw u_I_29) (fun I_37 I_37' u_I_37 => ?_)
      refine SsM (rl_nw u_L_29) (fun L_37 L_37' u_L_37 => ?_)
      refine SsE rfl (fun R_37 => ?_)
      refine Sc Iff.rfl (fun c6 => ?_) (fun _ => Sn)
      refine SsE rfl (fun R_39 => ?_)
      refine Sa_v rfl ?_
      refine SsE rfl (fun z_45 => ?_)
      refine SsE rfl (fun kd_45 => ?_)
      refine SsJ (ri_nw u_I_37) (fun I_45 I_45' u_I_45 => ?_)
      refine SsM (rl_nw u_L_37) (fun L_45 L_45' u_L_45 => ?_)
      refine SsE rfl (fun R_45 => ?_)
      refine Sc Iff.rfl (fun c7 => ?_) (fun _ => Sn)
      refine SsE rfl (fun R_47 => ?_)
      refine Sa_v rfl ?_
      refine SsE rfl (fun z_53 => ?_)
      refine SsE rfl (fun kd_53 => ?_)
      refine SsJ (ri_nw u_I_45) (fun I_53 I_53' u_I_53 => ?_)
      refine SsM (rl_nw u_L_45) (fun L_53 L_53' u_L_53 => ?_)
      refine SsE rfl (fun R_53 => ?_)
      refine Sc Iff.rfl (fun c8 => ?_) (fun _ => Sn)
      refine SsE rfl (fun R_55 => ?_)
      refine Sa_v rfl ?_
      refine SsE rfl (fun z_59 => ?_)
      refine SsE rfl (fun kd_59 => ?_)
      refine SsJ (ri_nw u_I_53) (fun I_59 I_59' u_I_59 => ?_)
      refine SsM (rl_nw u_L_53) (fun L_59 L_59' u_L_59 => ?_)
      refine SsE rfl (fun R_59 => ?_)
      refine Sc Iff.rfl (fun c9 => ?_) (fun _ => Sn)
      refine Sc Iff.rfl (fun c10 => ?_) (fun _ => Sn)
      refine SbPv (ks_3 n (dp - 1) 0 z_59 kd_59 _ _ _ _ R_59 z_53 u_I_59 u_L_59) (fun z_63 kd_63 I_63 I_63' L_63 L_63' R_63 ck_63 cm_63 u_I_63 u_L_63 => ?_)
      refine Sa_v rfl ?_
      refine Sc Iff.rfl (fun c11 => ?_) (fun _ => Sn)
      refine SsE rfl (fun R_66 => ?_)
      refine Sc Iff.rfl (fun c12 => ?_) (fun _ => Sn)
      refine SsJ (ri_up u_I_63 (rfl : ((8 : Nat) : Int) = 8) (rfl : Ui (0) (0))) (fun I_71 I_71' u_I_71 => ?_)
      refine Sc Iff.rfl (fun c13 => ?_) (fun _ => Sn)
      refine SsJ (ri_up u_I_71 (rfl : ((9 : Nat) : Int) = 9) (rfl : Ui (0) (0))) (fun I_76 I_76' u_I_76 => ?_)
      refine Sc Iff.rfl (fun c14 => ?_) (fun _ => Sn)
      refine SsJ (ri_up u_I_76 (rfl : ((10 : Nat) : Int) = 10) (rfl : Ui (0) (0))) (fun I_81 I_81' u_I_81 => ?_)
      refine Sc Iff.rfl (fun c15 => ?_) (fun _ => Sn)
      refine SsJ (ri_up u_I_81 (rfl : ((11 : Nat) : Int) = 11) (rfl : Ui (0) (0))) (fun I_86 I_86' u_I_86 => ?_)
      refine Sc Iff.rfl (fun c16 => ?_) (fun _ => Sn)
      refine SsJ (ri_up u_I_86 (rfl : ((12 : Nat) : Int) = 12) (rfl : Ui (5) (5))) (fun I_91 I_91' u_I_91 => ?_)
      exact Sr ⟨⟨rfl, rfl, u_I_91, u_L_63, rfl⟩, rfl⟩
    exact Sn
set_option maxHeartbeats 4000000 in
set_option maxRecDepth 100000 in
def kf_4 : Nat → Nat → Nat → Nat → (Nat → Nat × Nat) → JI → JI → (Nat → Nat → Option Nat) → Nat → Nat → Option (PSi × Nat × Nat)
  | 0, _, _, _, _, _, _, _, _, _ => none
  | n + 1, dp, lab, z, kd, I, L, R, a0, a1 =>
    if lab = 0 then (if 1 ≤ dp then (adk 1 5 (stI (z + 1) (fun z_6 => (stI (va_up kd z (13, 5)) (fun kd_6 => (stI (nw2 I z) (fun I_6 => (stI (nw2 L z) (fun L_6 => (stI (va_up R z (fun _ => none)) (fun R_6 => (if (a0 < z_6) ∧ ((kd_6 a0).1 = 0) then (stI (u2 R_6 a0 1 (some z)) (fun R_8 => (adk 1 64 (stI (z_6 + 1) (fun z_14 => (stI (va_up kd_6 z_6 (13, 64)) (fun kd_14 => (stI (nw2 I_6 z_6) (fun I_14 => (stI (nw2 L_6 z_6) (fun L_14 => (stI (va_up R_8 z_6 (fun _ => none)) (fun R_14 => (if (a0 < z_14) ∧ ((kd_14 a0).1 = 0) then (stI (u2 R_14 a0 2 (some z_6)) (fun R_16 => (if (a0 < z_14) ∧ ((kd_14 a0).1 = 0) then (stI (w2 I_14 a0 3 0) (fun I_21 => (if (a0 < z_14) ∧ ((kd_14 a0).1 = 0) then (stI (w2 I_21 a0 4 0) (fun I_26 => (if (a0 < z_14) ∧ ((kd_14 a0).1 = 0) then (stI (u2 R_16 a0 0 (some a1)) (fun R_31 => (some ((z_14, kd_14, I_26, L_14, R_31), 0, 0)))) else none))) else none))) else none))) else none)))))))))))))) else none)))))))))))) else none)
    else none
set_option maxRecDepth 100000 in
theorem ke_4_0 (n : Nat) (dp : Nat) (z : Nat) (kd : (Nat → Nat × Nat)) (I : JI) (L : JI) (R : (Nat → Nat → Option Nat)) (a0 : Nat) (a1 : Nat) : kf_4 (n + 1) dp 0 z kd I L R a0 a1 = (if 1 ≤ dp then (adk 1 5 (stI (z + 1) (fun z_6 => (stI (va_up kd z (13, 5)) (fun kd_6 => (stI (nw2 I z) (fun I_6 => (stI (nw2 L z) (fun L_6 => (stI (va_up R z (fun _ => none)) (fun R_6 => (if (a0 < z_6) ∧ ((kd_6 a0).1 = 0) then (stI (u2 R_6 a0 1 (some z)) (fun R_8 => (adk 1 64 (stI (z_6 + 1) (fun z_14 => (stI (va_up kd_6 z_6 (13, 64)) (fun kd_14 => (stI (nw2 I_6 z_6) (fun I_14 => (stI (nw2 L_6 z_6) (fun L_14 => (stI (va_up R_8 z_6 (fun _ => none)) (fun R_14 => (if (a0 < z_14) ∧ ((kd_14 a0).1 = 0) then (stI (u2 R_14 a0 2 (some z_6)) (fun R_16 => (if (a0 < z_14) ∧ ((kd_14 a0).1 = 0) then (stI (w2 I_14 a0 3 0) (fun I_21 => (if (a0 < z_14) ∧ ((kd_14 a0).1 = 0) then (stI (w2 I_21 a0 4 0) (fun I_26 => (if (a0 < z_14) ∧ ((kd_14 a0).1 = 0) then (stI (u2 R_16 a0 0 (some a1)) (fun R_31 => (some ((z_14, kd_14, I_26, L_14, R_31), 0, 0)))) else none))) else none))) else none))) else none)))))))))))))) else none)))))))))))) else none) := by rw [kf_4.eq_2, if_pos (show (0 : Nat) = 0 from rfl)]
set_option maxHeartbeats 8000000 in
set_option maxRecDepth 100000 in
theorem ks_4 : ∀ (n : Nat) (dp : Nat) (lab : Nat) (z : Nat) (kd : (Nat → Nat × Nat)) (I : Nat → Nat → Int32) (I' : JI) (L : Nat → Nat → Int64) (L' : JI) (R : (Nat → Nat → Option Nat)) (a0 : Nat) (a1 : Nat), Rli I I' → Rll L L' → Sim RPv (g_4 n dp lab z kd I L R a0 a1) (kf_4 n dp lab z kd I' L' R a0 a1) := by
  intro n
  induction n with
  | zero => intros; rw [kf_4.eq_1]; exact Sn
  | succ n ih =>
    intro dp lab z kd I I' L L' R a0 a1 u_I u_L
    rw [g_4.eq_2, kf_4.eq_2]
    refine Sc Iff.rfl (fun _ => ?_) (fun _ => ?_)
    · refine Sc Iff.rfl (fun c1 => ?_) (fun _ => Sn)
      refine Sa_v rfl ?_
      refine SsE rfl (fun z_6 => ?_)
      refine SsE rfl (fun kd_6 => ?_)
      refine SsJ (ri_nw u_I) (fun I_6 I_6' u_I_6 => ?_)
      refine SsM (rl_nw u_L) (fun L_6 L_6' u_L_6 => ?_)
      refine SsE rfl (fun R_6 => ?_)
      refine Sc Iff.rfl (fun c2 => ?_) (fun _ => Sn)
      refine SsE rfl (fun R_8 => ?_)
      refine Sa_v rfl ?_
      refine SsE rfl (fun z_14 => ?_)
      refine SsE rfl (fun kd_14 => ?_)
      refine SsJ (ri_nw u_I_6) (fun I_14 I_14' u_I_14 => ?_)
      refine SsM (rl_nw u_L_6) (fun L_14 L_14' u_L_14 => ?_)
      refine SsE rfl (fun R_14 => ?_)
      refine Sc Iff.rfl (fun c3 => ?_) (fun _ => Sn)
      refine SsE rfl (fun R_16 => ?_)
      refine Sc Iff.rfl (fun c4 => ?_) (fun _ => Sn)
      refine SsJ (ri_up u_I_14 (rfl : ((3 : Nat) : Int) = 3) (rfl : Ui (0) (0))) (fun I_21 I_21' u_I_21 => ?_)
      refine Sc Iff.rfl (fun c5 => ?_) (fun _ => Sn)
      refine SsJ (ri_up u_I_21 (rfl : ((4 : Nat) : Int) = 4) (rfl : Ui (0) (0))) (fun I_26 I_26' u_I_26 => ?_)
      refine Sc Iff.rfl (fun c6 => ?_) (fun _ => Sn)
      refine SsE rfl (fun R_31 => ?_)
      exact Sr ⟨⟨rfl, rfl, u_I_26, u_L_14, rfl⟩, rfl⟩
    exact Sn
set_option maxHeartbeats 4000000 in
set_option maxRecDepth 100000 in
def kf_6 : Nat → Nat → Nat → Nat → (Nat → Nat × Nat) → JI → JI → (Nat → Nat → Option Nat) → Nat → Option (PSi × Nat × Nat)
  | 0, _, _, _, _, _, _, _, _ => none
  | n + 1, dp, lab, z, kd, I, L, R, a0 =>
    if lab = 0 then (if 1 ≤ dp then (adk 1 192 (stI (z + 1) (fun z_8 => (stI (va_up kd z (13, 192)) (fun kd_8 => (stI (nw2 I z) (fun I_8 => (stI (nw2 L z) (fun L_8 => (stI (va_up R z (fun _ => none)) (fun R_8 => (if (a0 < z_8) ∧ ((kd_8 a0).1 = 6) then (stI (u2 R_8 a0 0 (some z)) (fun R_10 => (adk 1 192 (stI (z_8 + 1) (fun z_17 => (stI (va_up kd_8 z_8 (13, 192)) (fun kd_17 => (stI (nw2 I_8 z_8) (fun I_17 => (stI (nw2 L_8 z_8) (fun L_17 => (stI (va_up R_10 z_8 (fun _ => none)) (fun R_17 => (if (a0 < z_17) ∧ ((kd_17 a0).1 = 6) then (stI (u2 R_17 a0 1 (some z_8)) (fun R_19 => (adk 1 192 (stI (z_17 + 1) (fun z_26 => (stI (va_up kd_17 z_17 (13, 192)) (fun kd_26 => (stI (nw2 I_17 z_17) (fun I_26 => (stI (nw2 L_17 z_17) (fun L_26 => (stI (va_up R_19 z_17 (fun _ => none)) (fun R_26 => (if (a0 < z_26) ∧ ((kd_26 a0).1 = 6) then (stI (u2 R_26 a0 2 (some z_17)) (fun R_28 => (adk 1 192 (stI (z_26 + 1) (fun z_35 => (stI (va_up kd_26 z_26 (13, 192)) (fun kd_35 => (stI (nw2 I_26 z_26) (fun I_35 => (stI (nw2 L_26 z_26) (fun L_35 => (stI (va_up R_28 z_26 (fun _ => none)) (fun R_35 => (if (a0 < z_35) ∧ ((kd_35 a0).1 = 6) then (stI (u2 R_35 a0 3 (some z_26)) (fun R_37 => (adk 1 192 (stI (z_35 + 1) (fun z_44 => (stI (va_up kd_35 z_35 (13, 192)) (fun kd_44 => (stI (nw2 I_35 z_35) (fun I_44 => (stI (nw2 L_35 z_35) (fun L_44 => (stI (va_up R_37 z_35 (fun _ => none)) (fun R_44 => (if (a0 < z_44) ∧ ((kd_44 a0).1 = 6) then (stI (u2 R_44 a0 4 (some z_35)) (fun R_46 => (adk 1 3 (stI (z_44 + 1) (fun z_51 => (stI (va_up kd_44 z_44 (13, 3)) (fun kd_51 => (stI (nw2 I_44 z_44) (fun I_51 => (stI (nw2 L_44 z_44) (fun L_51 => (stI (va_up R_46 z_44 (fun _ => none)) (fun R_51 => (if (a0 < z_51) ∧ ((kd_51 a0).1 = 6) then (stI (u2 R_51 a0 5 (some z_44)) (fun R_53 => (adk 1 3 (stI (z_51 + 1) (fun z_58 => (stI (va_up kd_51 z_51 (13, 3)) (fun kd_58 => (stI (nw2 I_51 z_51) (fun I_58 => (stI (nw2 L_51 z_51) (fun L_58 => (stI (va_up R_53 z_51 (fun _ => none)) (fun R_58 => (if (a0 < z_58) ∧ ((kd_58 a0).1 = 6) then (stI (u2 R_58 a0 6 (some z_51)) (fun R_60 => (adk 1 5 (stI (z_58 + 1) (fun z_65 => (stI (va_up kd_58 z_58 (13, 5)) (fun kd_65 => (stI (nw2 I_58 z_58) (fun I_65 => (stI (nw2 L_58 z_58) (fun L_65 => (stI (va_up R_60 z_58 (fun _ => none)) (fun R_65 => (if (a0 < z_65) ∧ ((kd_65 a0).1 = 6) then (stI (u2 R_65 a0 7 (some z_58)) (fun R_67 => (adk 1 5 (stI (z_65 + 1) (fun z_72 => (stI (va_up kd_65 z_65 (13, 5)) (fun kd_72 => (stI (nw2 I_65 z_65) (fun I_72 => (stI (nw2 L_65 z_65) (fun L_72 => (stI (va_up R_67 z_65 (fun _ => none)) (fun R_72 => (if (a0 < z_72) ∧ ((kd_72 a0).1 = 6) then (stI (u2 R_72 a0 8 (some z_65)) (fun R_74 => (adk 1 5 (stI (z_72 + 1) (fun z_79 => (stI (va_up kd_72 z_72 (13, 5)) (fun kd_79 => (stI (nw2 I_72 z_72) (fun I_79 => (stI (nw2 L_72 z_72) (fun L_79 => (stI (va_up R_74 z_72 (fun _ => none)) (fun R_79 => (if (a0 < z_79) ∧ ((kd_79 a0).1 = 6) then (stI (u2 R_79 a0 9 (some z_72)) (fun R_81 => (adk 1 5 (stI (z_79 + 1) (fun z_86 => (stI (va_up kd_79 z_79 (13, 5)) (fun kd_86 => (stI (nw2 I_79 z_79) (fun I_86 => (stI (nw2 L_79 z_79) (fun L_86 => (stI (va_up R_81 z_79 (fun _ => none)) (fun R_86 => (if (a0 < z_86) ∧ ((kd_86 a0).1 = 6) then (stI (u2 R_86 a0 10 (some z_79)) (fun R_88 => (adk 1 1024 (stI (z_86 + 1) (fun z_95 => (stI (va_up kd_86 z_86 (13, 1024)) (fun kd_95 => (stI (nw2 I_86 z_86) (fun I_95 => (stI (nw2 L_86 z_86) (fun L_95 => (stI (va_up R_88 z_86 (fun _ => none)) (fun R_95 => (if (a0 < z_95) ∧ ((kd_95 a0).1 = 6) then (stI (u2 R_95 a0 11 (some z_86)) (fun R_97 => (adk 1 1024 (stI (z_95 + 1) (fun z_104 => (stI (va_up kd_95 z_95 (13, 1024)) (fun kd_104 => (stI (nw2 I_95 z_95) (fun I_104 => (stI (nw2 L_95 z_95) (fun L_104 => (stI (va_up R_97 z_95 (fun _ => none)) (fun R_104 => (if (a0 < z_104) ∧ ((kd_104 a0).1 = 6) then (stI (u2 R_104 a0 12 (some z_95)) (fun R_106 => (adk 1 32 (stI (z_104 + 1) (fun z_112 => (stI (va_up kd_104 z_104 (13, 32)) (fun kd_112 => (stI (nw2 I_104 z_104) (fun I_112 => (stI (nw2 L_104 z_104) (fun L_112 => (stI (va_up R_106 z_104 (fun _ => none)) (fun R_112 => (if (a0 < z_112) ∧ ((kd_112 a0).1 = 6) then (stI (u2 R_112 a0 13 (some z_104)) (fun R_114 => (adk 1 1024 (stI (z_112 + 1) (fun z_121 => (stI (va_up kd_112 z_112 (13, 1024)) (fun kd_121 => (stI (nw2 I_112 z_112) (fun I_121 => (stI (nw2 L_112 z_112) (fun L_121 => (stI (va_up R_114 z_112 (fun _ => none)) (fun R_121 => (if (a0 < z_121) ∧ ((kd_121 a0).1 = 6) then (stI (u2 R_121 a0 14 (some z_112)) (fun R_123 => (adk 1 1024 (stI (z_121 + 1) (fun z_130 => (stI (va_up kd_121 z_121 (13, 1024)) (fun kd_130 => (stI (nw2 I_121 z_121) (fun I_130 => (stI (nw2 L_121 z_121) (fun L_130 => (stI (va_up R_123 z_121 (fun _ => none)) (fun R_130 => (if (a0 < z_130) ∧ ((kd_130 a0).1 = 6) then (stI (u2 R_130 a0 15 (some z_121)) (fun R_132 => (adk 1 32 (stI (z_130 + 1) (fun z_138 => (stI (va_up kd_130 z_130 (13, 32)) (fun kd_138 => (stI (nw2 I_130 z_130) (fun I_138 => (stI (nw2 L_130 z_130) (fun L_138 => (stI (va_up R_132 z_130 (fun _ => none)) (fun R_138 => (if (a0 < z_138) ∧ ((kd_138 a0).1 = 6) then (stI (u2 R_138 a0 16 (some z_130)) (fun R_140 => (if (a0 < z_138) ∧ ((kd_138 a0).1 = 6) then (stI (w2 I_138 a0 17 0) (fun I_145 => (if (a0 < z_138) ∧ ((kd_138 a0).1 = 6) then (stI (w2 I_145 a0 18 0) (fun I_150 => (if (a0 < z_138) ∧ ((kd_138 a0).1 = 6) then (stI (w2 I_150 a0 19 1) (fun I_155 => (some ((z_138, kd_138, I_155, L_138, R_140), 0, 0)))) else none))) else none))) else none))) else none)))))))))))))) else none)))))))))))))) else none)))))))))))))) else none)))))))))))))) else none)))))))))))))) else none)))))))))))))) else none)))))))))))))) else none)))))))))))))) else none)))))))))))))) else none)))))))))))))) else none)))))))))))))) else none)))))))))))))) else none)))))))))))))) else none)))))))))))))) else none)))))))))))))) else none)))))))))))))) else none)))))))))))) else none)
    else none
set_option maxRecDepth 100000 in
theorem ke_6_0 (n : Nat) (dp : Nat) (z : Nat) (kd : (Nat → Nat × Nat)) (I : JI) (L : JI) (R : (Nat → Nat → Option Nat)) (a0 : Nat) : kf_6 (n + 1) dp 0 z kd I L R a0 = (if 1 ≤ dp then (adk 1 192 (stI (z + 1) (fun z_8 => (stI (va_up kd z (13, 192)) (fun kd_8 => (stI (nw2 I z) (fun I_8 => (stI (nw2 L z) (fun L_8 => (stI (va_up R z (fun _ => none)) (fun R_8 => (if (a0 < z_8) ∧ ((kd_8 a0).1 = 6) then (stI (u2 R_8 a0 0 (some z)) (fun R_10 => (adk 1 192 (stI (z_8 + 1) (fun z_17 => (stI (va_up kd_8 z_8 (13, 192)) (fun kd_17 => (stI (nw2 I_8 z_8) (fun I_17 => (stI (nw2 L_8 z_8) (fun L_17 => (stI (va_up R_10 z_8 (fun _ => none)) (fun R_17 => (if (a0 < z_17) ∧ ((kd_17 a0).1 = 6) then (stI (u2 R_17 a0 1 (some z_8)) (fun R_19 => (adk 1 192 (stI (z_17 + 1) (fun z_26 => (stI (va_up kd_17 z_17 (13, 192)) (fun kd_26 => (stI (nw2 I_17 z_17) (fun I_26 => (stI (nw2 L_17 z_17) (fun L_26 => (stI (va_up R_19 z_17 (fun _ => none)) (fun R_26 => (if (a0 < z_26) ∧ ((kd_26 a0).1 = 6) then (stI (u2 R_26 a0 2 (some z_17)) (fun R_28 => (adk 1 192 (stI (z_26 + 1) (fun z_35 => (stI (va_up kd_26 z_26 (13, 192)) (fun kd_35 => (stI (nw2 I_26 z_26) (fun I_35 => (stI (nw2 L_26 z_26) (fun L_35 => (stI (va_up R_28 z_26 (fun _ => none)) (fun R_35 => (if (a0 < z_35) ∧ ((kd_35 a0).1 = 6) then (stI (u2 R_35 a0 3 (some z_26)) (fun R_37 => (adk 1 192 (stI (z_35 + 1) (fun z_44 => (stI (va_up kd_35 z_35 (13, 192)) (fun kd_44 => (stI (nw2 I_35 z_35) (fun I_44 => (stI (nw2 L_35 z_35) (fun L_44 => (stI (va_up R_37 z_35 (fun _ => none)) (fun R_44 => (if (a0 < z_44) ∧ ((kd_44 a0).1 = 6) then (stI (u2 R_44 a0 4 (some z_35)) (fun R_46 => (adk 1 3 (stI (z_44 + 1) (fun z_51 => (stI (va_up kd_44 z_44 (13, 3)) (fun kd_51 => (stI (nw2 I_44 z_44) (fun I_51 => (stI (nw2 L_44 z_44) (fun L_51 => (stI (va_up R_46 z_44 (fun _ => none)) (fun R_51 => (if (a0 < z_51) ∧ ((kd_51 a0).1 = 6) then (stI (u2 R_51 a0 5 (some z_44)) (fun R_53 => (adk 1 3 (stI (z_51 + 1) (fun z_58 => (stI (va_up kd_51 z_51 (13, 3)) (fun kd_58 => (stI (nw2 I_51 z_51) (fun I_58 => (stI (nw2 L_51 z_51) (fun L_58 => (stI (va_up R_53 z_51 (fun _ => none)) (fun R_58 => (if (a0 < z_58) ∧ ((kd_58 a0).1 = 6) then (stI (u2 R_58 a0 6 (some z_51)) (fun R_60 => (adk 1 5 (stI (z_58 + 1) (fun z_65 => (stI (va_up kd_58 z_58 (13, 5)) (fun kd_65 => (stI (nw2 I_58 z_58) (fun I_65 => (stI (nw2 L_58 z_58) (fun L_65 => (stI (va_up R_60 z_58 (fun _ => none)) (fun R_65 => (if (a0 < z_65) ∧ ((kd_65 a0).1 = 6) then (stI (u2 R_65 a0 7 (some z_58)) (fun R_67 => (adk 1 5 (stI (z_65 + 1) (fun z_72 => (stI (va_up kd_65 z_65 (13, 5)) (fun kd_72 => (stI (nw2 I_65 z_65) (fun I_72 => (stI (nw2 L_65 z_65) (fun L_72 => (stI (va_up R_67 z_65 (fun _ => none)) (fun R_72 => (if (a0 < z_72) ∧ ((kd_72 a0).1 = 6) then (stI (u2 R_72 a0 8 (some z_65)) (fun R_74 => (adk 1 5 (stI (z_72 + 1) (fun z_79 => (stI (va_up kd_72 z_72 (13, 5)) (fun kd_79 => (stI (nw2 I_72 z_72) (fun I_79 => (stI (nw2 L_72 z_72) (fun L_79 => (stI (va_up R_74 z_72 (fun _ => none)) (fun R_79 => (if (a0 < z_79) ∧ ((kd_79 a0).1 = 6) then (stI (u2 R_79 a0 9 (some z_72)) (fun R_81 => (adk 1 5 (stI (z_79 + 1) (fun z_86 => (stI (va_up kd_79 z_79 (13, 5)) (fun kd_86 => (stI (nw2 I_79 z_79) (fun I_86 => (stI (nw2 L_79 z_79) (fun L_86 => (stI (va_up R_81 z_79 (fun _ => none)) (fun R_86 => (if (a0 < z_86) ∧ ((kd_86 a0).1 = 6) then (stI (u2 R_86 a0 10 (some z_79)) (fun R_88 => (adk 1 1024 (stI (z_86 + 1) (fun z_95 => (stI (va_up kd_86 z_86 (13, 1024)) (fun kd_95 => (stI (nw2 I_86 z_86) (fun I_95 => (stI (nw2 L_86 z_86) (fun L_95 => (stI (va_up R_88 z_86 (fun _ => none)) (fun R_95 => (if (a0 < z_95) ∧ ((kd_95 a0).1 = 6) then (stI (u2 R_95 a0 11 (some z_86)) (fun R_97 => (adk 1 1024 (stI (z_95 + 1) (fun z_104 => (stI (va_up kd_95 z_95 (13, 1024)) (fun kd_104 => (stI (nw2 I_95 z_95) (fun I_104 => (stI (nw2 L_95 z_95) (fun L_104 => (stI (va_up R_97 z_95 (fun _ => none)) (fun R_104 => (if (a0 < z_104) ∧ ((kd_104 a0).1 = 6) then (stI (u2 R_104 a0 12 (some z_95)) (fun R_106 => (adk 1 32 (stI (z_104 + 1) (fun z_112 => (stI (va_up kd_104 z_104 (13, 32)) (fun kd_112 => (stI (nw2 I_104 z_104) (fun I_112 => (stI (nw2 L_104 z_104) (fun L_112 => (stI (va_up R_106 z_104 (fun _ => none)) (fun R_112 => (if (a0 < z_112) ∧ ((kd_112 a0).1 = 6) then (stI (u2 R_112 a0 13 (some z_104)) (fun R_114 => (adk 1 1024 (stI (z_112 + 1) (fun z_121 => (stI (va_up kd_112 z_112 (13, 1024)) (fun kd_121 => (stI (nw2 I_112 z_112) (fun I_121 => (stI (nw2 L_112 z_112) (fun L_121 => (stI (va_up R_114 z_112 (fun _ => none)) (fun R_121 => (if (a0 < z_121) ∧ ((kd_121 a0).1 = 6) then (stI (u2 R_121 a0 14 (some z_112)) (fun R_123 => (adk 1 1024 (stI (z_121 + 1) (fun z_130 => (stI (va_up kd_121 z_121 (13, 1024)) (fun kd_130 => (stI (nw2 I_121 z_121) (fun I_130 => (stI (nw2 L_121 z_121) (fun L_130 => (stI (va_up R_123 z_121 (fun _ => none)) (fun R_130 => (if (a0 < z_130) ∧ ((kd_130 a0).1 = 6) then (stI (u2 R_130 a0 15 (some z_121)) (fun R_132 => (adk 1 32 (stI (z_130 + 1) (fun z_138 => (stI (va_up kd_130 z_130 (13, 32)) (fun kd_138 => (stI (nw2 I_130 z_130) (fun I_138 => (stI (nw2 L_130 z_130) (fun L_138 => (stI (va_up R_132 z_130 (fun _ => none)) (fun R_138 => (if (a0 < z_138) ∧ ((kd_138 a0).1 = 6) then (stI (u2 R_138 a0 16 (some z_130)) (fun R_140 => (if (a0 < z_138) ∧ ((kd_138 a0).1 = 6) then (stI (w2 I_138 a0 17 0) (fun I_145 => (if (a0 < z_138) ∧ ((kd_138 a0).1 = 6) then (stI (w2 I_145 a0 18 0) (fun I_150 => (if (a0 < z_138) ∧ ((kd_138 a0).1 = 6) then (stI (w2 I_150 a0 19 1) (fun I_155 => (some ((z_138, kd_138, I_155, L_138, R_140), 0, 0)))) else none))) else none))) else none))) else none)))))))))))))) else none)))))))))))))) else none)))))))))))))) else none)))))))))))))) else none)))))))))))))) else none)))))))))))))) else none)))))))))))))) else none)))))))))))))) else none)))))))))))))) else none)))))))))))))) else none)))))))))))))) else none)))))))))))))) else none)))))))))))))) else none)))))))))))))) else none)))))))))))))) else none)))))))))))))) else none)))))))))))) else none) := by rw [kf_6.eq_2, if_pos (show (0 : Nat) = 0 from rfl)]
set_option maxHeartbeats 8000000 in
set_option maxRecDepth 100000 in
theorem ks_6 : ∀ (n : Nat) (dp : Nat) (lab : Nat) (z : Nat) (kd : (Nat → Nat × Nat)) (I : Nat → Nat → Int32) (I' : JI) (L : Nat → Nat → Int64) (L' : JI) (R : (Nat → Nat → Option Nat)) (a0 : Nat), Rli I I' → Rll L L' → Sim RPv (g_6 n dp lab z kd I L R a0) (kf_6 n dp lab z kd I' L' R a0) := by
  intro n
  induction n with
  | zero => intros; rw [kf_6.eq_1]; exact Sn
  | succ n ih =>
    intro dp lab z kd I I' L L' R a0 u_I u_L
    rw [g_6.eq_2, kf_6.eq_2]
    refine Sc Iff.rfl (fun _ => ?_) (fun _ => ?_)
    · refine Sc Iff.rfl (fun c1 => ?_) (fun _ => Sn)
      refine Sa_v rfl ?_
      refine SsE rfl (fun z_8 => ?_)
      refine SsE rfl (fun kd_8 => ?_)
      refine SsJ (ri_nw u_I) (fun I_8 I_8' u_I_8 => ?_)
      refine SsM (rl_nw u_L) (fun L_8 L_8' u_L_8 => ?_)
      refine SsE rfl (fun R_8 => ?_)
      refine Sc Iff.rfl (fun c2 => ?_) (fun _ => Sn)
      refine SsE rfl (fun R_10 => ?_)
      refine Sa_v rfl ?_
      refine SsE rfl (fun z_17 => ?_)
      refine SsE rfl (fun kd_17 => ?_)
      refine SsJ (ri_nw u_I_8) (fun I_17 I_17' u_I_17 => ?_)
      refine SsM (rl_nw u_L_8) (fun L_17 L_17' u_L_17 => ?_)
      refine SsE rfl (fun R_17 => ?_)
      refine Sc Iff.rfl (fun c3 => ?_) (fun _ => Sn)
      refine SsE rfl (fun R_19 => ?_)
      refine Sa_v rfl ?_
      refine SsE rfl (fun z_26 => ?_)
      refine SsE rfl (fun kd_26 => ?_)
      refine SsJ (ri_nw u_I_17) (fun I_26 I_26' u_I_26 => ?_)
      refine SsM (rl_nw u_L_17) (fun L_26 L_26' u_L_26 => ?_)
      refine SsE rfl (fun R_26 => ?_)
      refine Sc Iff.rfl (fun c4 => ?_) (fun _ => Sn)
      refine SsE rfl (fun R_28 => ?_)
      refine Sa_v rfl ?_
      refine SsE rfl (fun z_35 => ?_)
      refine SsE rfl (fun kd_35 => ?_)
      refine SsJ (ri_nw u_I_26) (fun I_35 I_35' u_I_35 => ?_)
      refine SsM (rl_nw u_L_26) (fun L_35 L_35' u_L_35 => ?_)
      refine SsE rfl (fun R_35 => ?_)
      refine Sc Iff.rfl (fun c5 => ?_) (fun _ => Sn)
      refine SsE rfl (fun R_37 => ?_)
      refine Sa_v rfl ?_
      refine SsE rfl (fun z_44 => ?_)
      refine SsE rfl (fun kd_44 => ?_)
      refine SsJ (ri_nw u_I_35) (fun I_44 I_44' u_I_44 => ?_)
      refine SsM (rl_nw u_L_35) (fun L_44 L_44' u_L_44 => ?_)
      refine SsE rfl (fun R_44 => ?_)
      refine Sc Iff.rfl (fun c6 => ?_) (fun _ => Sn)
      refine SsE rfl (fun R_46 => ?_)
      refine Sa_v rfl ?_
      refine SsE rfl (fun z_51 => ?_)
      refine SsE rfl (fun kd_51 => ?_)
      refine SsJ (ri_nw u_I_44) (fun I_51 I_51' u_I_51 => ?_)
      refine SsM (rl_nw u_L_44) (fun L_51 L_51' u_L_51 => ?_)
      refine SsE rfl (fun R_51 => ?_)
      refine Sc Iff.rfl (fun c7 => ?_) (fun _ => Sn)
      refine SsE rfl (fun R_53 => ?_)
      refine Sa_v rfl ?_
      refine SsE rfl (fun z_58 => ?_)
      refine SsE rfl (fun kd_58 => ?_)
      refine SsJ (ri_nw u_I_51) (fun I_58 I_58' u_I_58 => ?_)
      refine SsM (rl_nw u_L_51) (fun L_58 L_58' u_L_58 => ?_)
      refine SsE rfl (fun R_58 => ?_)
      refine Sc Iff.rfl (fun c8 => ?_) (fun _ => Sn)
      refine SsE rfl (fun R_60 => ?_)
      refine Sa_v rfl ?_
      refine SsE rfl (fun z_65 => ?_)
      refine SsE rfl (fun kd_65 => ?_)
      refine SsJ (ri_nw u_I_58) (fun I_65 I_65' u_I_65 => ?_)
      refine SsM (rl_nw u_L_58) (fun L_65 L_65' u_L_65 => ?_)
      refine SsE rfl (fun R_65 => ?_)
      refine Sc Iff.rfl (fun c9 => ?_) (fun _ => Sn)
      refine SsE rfl (fun R_67 => ?_)
      refine Sa_v rfl ?_
      refine SsE rfl (fun z_72 => ?_)
      refine SsE rfl (fun kd_72 => ?_)
      refine SsJ (ri_nw u_I_65) (fun I_72 I_72' u_I_72 => ?_)
      refine SsM (rl_nw u_L_65) (fun L_72 L_72' u_L_72 => ?_)
      refine SsE rfl (fun R_72 => ?_)
      refine Sc Iff.rfl (fun c10 => ?_) (fun _ => Sn)
      refine SsE rfl (fun R_74 => ?_)
      refine Sa_v rfl ?_
      refine SsE rfl (fun z_79 => ?_)
      refine SsE rfl (fun kd_79 => ?_)
      refine SsJ (ri_nw u_I_72) (fun I_79 I_79' u_I_79 => ?_)
      refine SsM (rl_nw u_L_72) (fun L_79 L_79' u_L_79 => ?_)
      refine SsE rfl (fun R_79 => ?_)
      refine Sc Iff.rfl (fun c11 => ?_) (fun _ => Sn)
      refine SsE rfl (fun R_81 => ?_)
      refine Sa_v rfl ?_
      refine SsE rfl (fun z_86 => ?_)
      refine SsE rfl (fun kd_86 => ?_)
      refine SsJ (ri_nw u_I_79) (fun I_86 I_86' u_I_86 => ?_)
      refine SsM (rl_nw u_L_79) (fun L_86 L_86' u_L_86 => ?_)
      refine SsE rfl (fun R_86 => ?_)
      refine Sc Iff.rfl (fun c12 => ?_) (fun _ => Sn)
      refine SsE rfl (fun R_88 => ?_)
      refine Sa_v rfl ?_
      refine SsE rfl (fun z_95 => ?_)
      refine SsE rfl (fun kd_95 => ?_)
      refine SsJ (ri_nw u_I_86) (fun I_95 I_95' u_I_95 => ?_)
      refine SsM (rl_nw u_L_86) (fun L_95 L_95' u_L_95 => ?_)
      refine SsE rfl (fun R_95 => ?_)
      refine Sc Iff.rfl (fun c13 => ?_) (fun _ => Sn)
      refine SsE rfl (fun R_97 => ?_)
      refine Sa_v rfl ?_
      refine SsE rfl (fun z_104 => ?_)
      refine SsE rfl (fun kd_104 => ?_)
      refine SsJ (ri_nw u_I_95) (fun I_104 I_104' u_I_104 => ?_)
      refine SsM (rl_nw u_L_95) (fun L_104 L_104' u_L_104 => ?_)
      refine SsE rfl (fun R_104 => ?_)
      refine Sc Iff.rfl (fun c14 => ?_) (fun _ => Sn)
      refine SsE rfl (fun R_106 => ?_)
      refine Sa_v rfl ?_
      refine SsE rfl (fun z_112 => ?_)
      refine SsE rfl (fun kd_112 => ?_)
      refine SsJ (ri_nw u_I_104) (fun I_112 I_112' u_I_112 => ?_)
      refine SsM (rl_nw u_L_104) (fun L_112 L_112' u_L_112 => ?_)
      refine SsE rfl (fun R_112 => ?_)
      refine Sc Iff.rfl (fun c15 => ?_) (fun _ => Sn)
      refine SsE rfl (fun R_114 => ?_)
      refine Sa_v rfl ?_
      refine SsE rfl (fun z_121 => ?_)
      refine SsE rfl (fun kd_121 => ?_)
      refine SsJ (ri_nw u_I_112) (fun I_121 I_121' u_I_121 => ?_)
      refine SsM (rl_nw u_L_112) (fun L_121 L_121' u_L_121 => ?_)
      refine SsE rfl (fun R_121 => ?_)
      refine Sc Iff.rfl (fun c16 => ?_) (fun _ => Sn)
      refine SsE rfl (fun R_123 => ?_)
      refine Sa_v rfl ?_
      refine SsE rfl (fun z_130 => ?_)
      refine SsE rfl (fun kd_130 => ?_)
      refine SsJ (ri_nw u_I_121) (fun I_130 I_130' u_I_130 => ?_)
      refine SsM (rl_nw u_L_121) (fun L_130 L_130' u_L_130 => ?_)
      refine SsE rfl (fun R_130 => ?_)
      refine Sc Iff.rfl (fun c17 => ?_) (fun _ => Sn)
      refine SsE rfl (fun R_132 => ?_)
      refine Sa_v rfl ?_
      refine SsE rfl (fun z_138 => ?_)
      refine SsE rfl (fun kd_138 => ?_)
      refine SsJ (ri_nw u_I_130) (fun I_138 I_138' u_I_138 => ?_)
      refine SsM (rl_nw u_L_130) (fun L_138 L_138' u_L_138 => ?_)
      refine SsE rfl (fun R_138 => ?_)
      refine Sc Iff.rfl (fun c18 => ?_) (fun _ => Sn)
      refine SsE rfl (fun R_140 => ?_)
      refine Sc Iff.rfl (fun c19 => ?_) (fun _ => Sn)
      refine SsJ (ri_up u_I_138 (rfl : ((17 : Nat) : Int) = 17) (rfl : Ui (0) (0))) (fun I_145 I_145' u_I_145 => ?_)
      refine Sc Iff.rfl (fun c20 => ?_) (fun _ => Sn)
      refine SsJ (ri_up u_I_145 (rfl : ((18 : Nat) : Int) = 18) (rfl : Ui (0) (0))) (fun I_150 I_150' u_I_150 => ?_)
      refine Sc Iff.rfl (fun c21 => ?_) (fun _ => Sn)
      refine SsJ (ri_up u_I_150 (rfl : ((19 : Nat) : Int) = 19) (rfl : Ui (1) (1))) (fun I_155 I_155' u_I_155 => ?_)
      exact Sr ⟨⟨rfl, rfl, u_I_155, u_L_138, rfl⟩, rfl⟩
    exact Sn
set_option maxHeartbeats 4000000 in
set_option maxRecDepth 100000 in
def kf_7 : Nat → Nat → Nat → Nat → (Nat → Nat × Nat) → JI → JI → (Nat → Nat → Option Nat) → Nat → Nat → Option (PSi × Nat × Nat)
  | 0, _, _, _, _, _, _, _, _, _ => none
  | n + 1, dp, lab, z, kd, I, L, R, a0, a1 =>
    if lab = 0 then (if 1 ≤ dp then (adk 1 10 (stI (z + 1) (fun z_7 => (stI (va_up kd z (13, 10)) (fun kd_7 => (stI (nw2 I z) (fun I_7 => (stI (nw2 L z) (fun L_7 => (stI (va_up R z (fun _ => none)) (fun R_7 => (if (a0 < z_7) ∧ ((kd_7 a0).1 = 4) then (stI (u2 R_7 a0 1 (some z)) (fun R_9 => (adk 1 8 (stI (z_7 + 1) (fun z_15 => (stI (va_up kd_7 z_7 (13, 8)) (fun kd_15 => (stI (nw2 I_7 z_7) (fun I_15 => (stI (nw2 L_7 z_7) (fun L_15 => (stI (va_up R_9 z_7 (fun _ => none)) (fun R_15 => (if (a0 < z_15) ∧ ((kd_15 a0).1 = 4) then (stI (u2 R_15 a0 2 (some z_7)) (fun R_17 => (if (a0 < z_15) ∧ ((kd_15 a0).1 = 4) then (stI (w2 I_15 a0 3 0) (fun I_22 => (adk 1 256 (stI (z_15 + 1) (fun z_29 => (stI (va_up kd_15 z_15 (13, 256)) (fun kd_29 => (stI (nw2 I_22 z_15) (fun I_29 => (stI (nw2 L_15 z_15) (fun L_29 => (stI (va_up R_17 z_15 (fun _ => none)) (fun R_29 => (if (a0 < z_29) ∧ ((kd_29 a0).1 = 4) then (stI (u2 R_29 a0 4 (some z_15)) (fun R_31 => (adk 1 256 (stI (z_29 + 1) (fun z_38 => (stI (va_up kd_29 z_29 (13, 256)) (fun kd_38 => (stI (nw2 I_29 z_29) (fun I_38 => (stI (nw2 L_29 z_29) (fun L_38 => (stI (va_up R_31 z_29 (fun _ => none)) (fun R_38 => (if (a0 < z_38) ∧ ((kd_38 a0).1 = 4) then (stI (u2 R_38 a0 5 (some z_29)) (fun R_40 => (adk 1 256 (stI (z_38 + 1) (fun z_47 => (stI (va_up kd_38 z_38 (13, 256)) (fun kd_47 => (stI (nw2 I_38 z_38) (fun I_47 => (stI (nw2 L_38 z_38) (fun L_47 => (stI (va_up R_40 z_38 (fun _ => none)) (fun R_47 => (if (a0 < z_47) ∧ ((kd_47 a0).1 = 4) then (stI (u2 R_47 a0 6 (some z_38)) (fun R_49 => (adk 1 1 (stI (z_47 + 1) (fun z_54 => (stI (va_up kd_47 z_47 (13, 1)) (fun kd_54 => (stI (nw2 I_47 z_47) (fun I_54 => (stI (nw2 L_47 z_47) (fun L_54 => (stI (va_up R_49 z_47 (fun _ => none)) (fun R_54 => (if (a0 < z_54) ∧ ((kd_54 a0).1 = 4) then (stI (u2 R_54 a0 7 (some z_47)) (fun R_56 => (if (a0 < z_54) ∧ ((kd_54 a0).1 = 4) then (stI (w2 I_54 a0 8 0) (fun I_61 => (if (a0 < z_54) ∧ ((kd_54 a0).1 = 4) then (stI (w2 I_61 a0 9 0) (fun I_66 => (if (a0 < z_54) ∧ ((kd_54 a0).1 = 4) then (stI (u2 R_56 a0 0 (some a1)) (fun R_71 => (some ((z_54, kd_54, I_66, L_54, R_71), 0, 0)))) else none))) else none))) else none))) else none)))))))))))))) else none)))))))))))))) else none)))))))))))))) else none)))))))))))))) else none))) else none)))))))))))))) else none)))))))))))) else none)
    else none
set_option maxRecDepth 100000 in
theorem ke_7_0 (n : Nat) (dp : Nat) (z : Nat) (kd : (Nat → Nat × Nat)) (I : JI) (L : JI) (R : (Nat → Nat → Option Nat)) (a0 : Nat) (a1 : Nat) : kf_7 (n + 1) dp 0 z kd I L R a0 a1 = (if 1 ≤ dp then (adk 1 10 (stI (z + 1) (fun z_7 => (stI (va_up kd z (13, 10)) (fun kd_7 => (stI (nw2 I z) (fun I_7 => (stI (nw2 L z) (fun L_7 => (stI (va_up R z (fun _ => none)) (fun R_7 => (if (a0 < z_7) ∧ ((kd_7 a0).1 = 4) then (stI (u2 R_7 a0 1 (some z)) (fun R_9 => (adk 1 8 (stI (z_7 + 1) (fun z_15 => (stI (va_up kd_7 z_7 (13, 8)) (fun kd_15 => (stI (nw2 I_7 z_7) (fun I_15 => (stI (nw2 L_7 z_7) (fun L_15 => (stI (va_up R_9 z_7 (fun _ => none)) (fun R_15 => (if (a0 < z_15) ∧ ((kd_15 a0).1 = 4) then (stI (u2 R_15 a0 2 (some z_7)) (fun R_17 => (if (a0 < z_15) ∧ ((kd_15 a0).1 = 4) then (stI (w2 I_15 a0 3 0) (fun I_22 => (adk 1 256 (stI (z_15 + 1) (fun z_29 => (stI (va_up kd_15 z_15 (13, 256)) (fun kd_29 => (stI (nw2 I_22 z_15) (fun I_29 => (stI (nw2 L_15 z_15) (fun L_29 => (stI (va_up R_17 z_15 (fun _ => none)) (fun R_29 => (if (a0 < z_29) ∧ ((kd_29 a0).1 = 4) then (stI (u2 R_29 a0 4 (some z_15)) (fun R_31 => (adk 1 256 (stI (z_29 + 1) (fun z_38 => (stI (va_up kd_29 z_29 (13, 256)) (fun kd_38 => (stI (nw2 I_29 z_29) (fun I_38 => (stI (nw2 L_29 z_29) (fun L_38 => (stI (va_up R_31 z_29 (fun _ => none)) (fun R_38 => (if (a0 < z_38) ∧ ((kd_38 a0).1 = 4) then (stI (u2 R_38 a0 5 (some z_29)) (fun R_40 => (adk 1 256 (stI (z_38 + 1) (fun z_47 => (stI (va_up kd_38 z_38 (13, 256)) (fun kd_47 => (stI (nw2 I_38 z_38) (fun I_47 => (stI (nw2 L_38 z_38) (fun L_47 => (stI (va_up R_40 z_38 (fun _ => none)) (fun R_47 => (if (a0 < z_47) ∧ ((kd_47 a0).1 = 4) then (stI (u2 R_47 a0 6 (some z_38)) (fun R_49 => (adk 1 1 (stI (z_47 + 1) (fun z_54 => (stI (va_up kd_47 z_47 (13, 1)) (fun kd_54 => (stI (nw2 I_47 z_47) (fun I_54 => (stI (nw2 L_47 z_47) (fun L_54 => (stI (va_up R_49 z_47 (fun _ => none)) (fun R_54 => (if (a0 < z_54) ∧ ((kd_54 a0).1 = 4) then (stI (u2 R_54 a0 7 (some z_47)) (fun R_56 => (if (a0 < z_54) ∧ ((kd_54 a0).1 = 4) then (stI (w2 I_54 a0 8 0) (fun I_61 => (if (a0 < z_54) ∧ ((kd_54 a0).1 = 4) then (stI (w2 I_61 a0 9 0) (fun I_66 => (if (a0 < z_54) ∧ ((kd_54 a0).1 = 4) then (stI (u2 R_56 a0 0 (some a1)) (fun R_71 => (some ((z_54, kd_54, I_66, L_54, R_71), 0, 0)))) else none))) else none))) else none))) else none)))))))))))))) else none)))))))))))))) else none)))))))))))))) else none)))))))))))))) else none))) else none)))))))))))))) else none)))))))))))) else none) := by rw [kf_7.eq_2, if_pos (show (0 : Nat) = 0 from rfl)]
set_option maxHeartbeats 8000000 in
set_option maxRecDepth 100000 in
theorem ks_7 : ∀ (n : Nat) (dp : Nat) (lab : Nat) (z : Nat) (kd : (Nat → Nat × Nat)) (I : Nat → Nat → Int32) (I' : JI) (L : Nat → Nat → Int64) (L' : JI) (R : (Nat → Nat → Option Nat)) (a0 : Nat) (a1 : Nat), Rli I I' → Rll L L' → Sim RPv (g_7 n dp lab z kd I L R a0 a1) (kf_7 n dp lab z kd I' L' R a0 a1) := by
  intro n
  induction n with
  | zero => intros; rw [kf_7.eq_1]; exact Sn
  | succ n ih =>
    intro dp lab z kd I I' L L' R a0 a1 u_I u_L
    rw [g_7.eq_2, kf_7.eq_2]
    refine Sc Iff.rfl (fun _ => ?_) (fun _ => ?_)
    · refine Sc Iff.rfl (fun c1 => ?_) (fun _ => Sn)
      refine Sa_v rfl ?_
      refine SsE rfl (fun z_7 => ?_)
      refine SsE rfl (fun kd_7 => ?_)
      refine SsJ (ri_nw u_I) (fun I_7 I_7' u_I_7 => ?_)
      refine SsM (rl_nw u_L) (fun L_7 L_7' u_L_7 => ?_)
      refine SsE rfl (fun R_7 => ?_)
      refine Sc Iff.rfl (fun c2 => ?_) (fun _ => Sn)
      refine SsE rfl (fun R_9 => ?_)
      refine Sa_v rfl ?_
      refine SsE rfl (fun z_15 => ?_)
      refine SsE rfl (fun kd_15 => ?_)
      refine SsJ (ri_nw u_I_7) (fun I_15 I_15' u_I_15 => ?_)
      refine SsM (rl_nw u_L_7) (fun L_15 L_15' u_L_15 => ?_)
      refine SsE rfl (fun R_15 => ?_)
      refine Sc Iff.rfl (fun c3 => ?_) (fun _ => Sn)
      refine SsE rfl (fun R_17 => ?_)
      refine Sc Iff.rfl (fun c4 => ?_) (fun _ => Sn)
      refine SsJ (ri_up u_I_15 (rfl : ((3 : Nat) : Int) = 3) (rfl : Ui (0) (0))) (fun I_22 I_22' u_I_22 => ?_)
      refine Sa_v rfl ?_
      refine SsE rfl (fun z_29 => ?_)
      refine SsE rfl (fun kd_29 => ?_)
      refine SsJ (ri_nw u_I_22) (fun I_29 I_29' u_I_29 => ?_)
      refine SsM (rl_nw u_L_15) (fun L_29 L_29' u_L_29 => ?_)
      refine SsE rfl (fun R_29 => ?_)
      refine Sc Iff.rfl (fun c5 => ?_) (fun _ => Sn)
      refine SsE rfl (fun R_31 => ?_)
      refine Sa_v rfl ?_
      refine SsE rfl (fun z_38 => ?_)
      refine SsE rfl (fun kd_38 => ?_)
      refine SsJ (ri_nw u_I_29) (fun I_38 I_38' u_I_38 => ?_)
      refine SsM (rl_nw u_L_29) (fun L_38 L_38' u_L_38 => ?_)
      refine SsE rfl (fun R_38 => ?_)
      refine Sc Iff.rfl (fun c6 => ?_) (fun _ => Sn)
      refine SsE rfl (fun R_40 => ?_)
      refine Sa_v rfl ?_
      refine SsE rfl (fun z_47 => ?_)
      refine SsE rfl (fun kd_47 => ?_)
      refine SsJ (ri_nw u_I_38) (fun I_47 I_47' u_I_47 => ?_)
      refine SsM (rl_nw u_L_38) (fun L_47 L_47' u_L_47 => ?_)
      refine SsE rfl (fun R_47 => ?_)
      refine Sc Iff.rfl (fun c7 => ?_) (fun _ => Sn)
      refine SsE rfl (fun R_49 => ?_)
      refine Sa_v rfl ?_
      refine SsE rfl (fun z_54 => ?_)
      refine SsE rfl (fun kd_54 => ?_)
      refine SsJ (ri_nw u_I_47) (fun I_54 I_54' u_I_54 => ?_)
      refine SsM (rl_nw u_L_47) (fun L_54 L_54' u_L_54 => ?_)
      refine SsE rfl (fun R_54 => ?_)
      refine Sc Iff.rfl (fun c8 => ?_) (fun _ => Sn)
      refine SsE rfl (fun R_56 => ?_)
      refine Sc Iff.rfl (fun c9 => ?_) (fun _ => Sn)
      refine SsJ (ri_up u_I_54 (rfl : ((8 : Nat) : Int) = 8) (rfl : Ui (0) (0))) (fun I_61 I_61' u_I_61 => ?_)
      refine Sc Iff.rfl (fun c10 => ?_) (fun _ => Sn)
      refine SsJ (ri_up u_I_61 (rfl : ((9 : Nat) : Int) = 9) (rfl : Ui (0) (0))) (fun I_66 I_66' u_I_66 => ?_)
      refine Sc Iff.rfl (fun c11 => ?_) (fun _ => Sn)
      refine SsE rfl (fun R_71 => ?_)
      exact Sr ⟨⟨rfl, rfl, u_I_66, u_L_54, rfl⟩, rfl⟩
    exact Sn
set_option maxHeartbeats 4000000 in
set_option maxRecDepth 100000 in
def kf_8 : Nat → Nat → Nat → Nat → (Nat → Nat × Nat) → JI → JI → (Nat → Nat → Option Nat) → Nat → Option (PSi × Nat × Nat)
  | 0, _, _, _, _, _, _, _, _ => none
  | n + 1, dp, lab, z, kd, I, L, R, a0 =>
    if lab = 0 then (if 1 ≤ dp then (adk 1 640 (stI (z + 1) (fun z_8 => (stI (va_up kd z (13, 640)) (fun kd_8 => (stI (nw2 I z) (fun I_8 => (stI (nw2 L z) (fun L_8 => (stI (va_up R z (fun _ => none)) (fun R_8 => (if (a0 < z_8) ∧ ((kd_8 a0).1 = 2) then (stI (u2 R_8 a0 0 (some z)) (fun R_10 => (adk 1 640 (stI (z_8 + 1) (fun z_17 => (stI (va_up kd_8 z_8 (13, 640)) (fun kd_17 => (stI (nw2 I_8 z_8) (fun I_17 => (stI (nw2 L_8 z_8) (fun L_17 => (stI (va_up R_10 z_8 (fun _ => none)) (fun R_17 => (if (a0 < z_17) ∧ ((kd_17 a0).1 = 2) then (stI (u2 R_17 a0 1 (some z_8)) (fun R_19 => (adk 1 10 (stI (z_17 + 1) (fun z_25 => (stI (va_up kd_17 z_17 (13, 10)) (fun kd_25 => (stI (nw2 I_17 z_17) (fun I_25 => (stI (nw2 L_17 z_17) (fun L_25 => (stI (va_up R_19 z_17 (fun _ => none)) (fun R_25 => (if (a0 < z_25) ∧ ((kd_25 a0).1 = 2) then (stI (u2 R_25 a0 2 (some z_17)) (fun R_27 => (adk 1 10 (stI (z_25 + 1) (fun z_33 => (stI (va_up kd_25 z_25 (13, 10)) (fun kd_33 => (stI (nw2 I_25 z_25) (fun I_33 => (stI (nw2 L_25 z_25) (fun L_33 => (stI (va_up R_27 z_25 (fun _ => none)) (fun R_33 => (if (a0 < z_33) ∧ ((kd_33 a0).1 = 2) then (stI (u2 R_33 a0 3 (some z_25)) (fun R_35 => (if (a0 < z_33) ∧ ((kd_33 a0).1 = 2) then (stI (w2 I_33 a0 4 0) (fun I_40 => (if (a0 < z_33) ∧ ((kd_33 a0).1 = 2) then (stI (w2 I_40 a0 5 (-1)) (fun I_45 => (if (a0 < z_33) ∧ ((kd_33 a0).1 = 2) then (stI (w2 I_45 a0 6 0) (fun I_50 => (some ((z_33, kd_33, I_50, L_33, R_35), 0, 0)))) else none))) else none))) else none))) else none)))))))))))))) else none)))))))))))))) else none)))))))))))))) else none)))))))))))) else none)
    else none
set_option maxRecDepth 100000 in
theorem ke_8_0 (n : Nat) (dp : Nat) (z : Nat) (kd : (Nat → Nat × Nat)) (I : JI) (L : JI) (R : (Nat → Nat → Option Nat)) (a0 : Nat) : kf_8 (n + 1) dp 0 z kd I L R a0 = (if 1 ≤ dp then (adk 1 640 (stI (z + 1) (fun z_8 => (stI (va_up kd z (13, 640)) (fun kd_8 => (stI (nw2 I z) (fun I_8 => (stI (nw2 L z) (fun L_8 => (stI (va_up R z (fun _ => none)) (fun R_8 => (if (a0 < z_8) ∧ ((kd_8 a0).1 = 2) then (stI (u2 R_8 a0 0 (some z)) (fun R_10 => (adk 1 640 (stI (z_8 + 1) (fun z_17 => (stI (va_up kd_8 z_8 (13, 640)) (fun kd_17 => (stI (nw2 I_8 z_8) (fun I_17 => (stI (nw2 L_8 z_8) (fun L_17 => (stI (va_up R_10 z_8 (fun _ => none)) (fun R_17 => (if (a0 < z_17) ∧ ((kd_17 a0).1 = 2) then (stI (u2 R_17 a0 1 (some z_8)) (fun R_19 => (adk 1 10 (stI (z_17 + 1) (fun z_25 => (stI (va_up kd_17 z_17 (13, 10)) (fun kd_25 => (stI (nw2 I_17 z_17) (fun I_25 => (stI (nw2 L_17 z_17) (fun L_25 => (stI (va_up R_19 z_17 (fun _ => none)) (fun R_25 => (if (a0 < z_25) ∧ ((kd_25 a0).1 = 2) then (stI (u2 R_25 a0 2 (some z_17)) (fun R_27 => (adk 1 10 (stI (z_25 + 1) (fun z_33 => (stI (va_up kd_25 z_25 (13, 10)) (fun kd_33 => (stI (nw2 I_25 z_25) (fun I_33 => (stI (nw2 L_25 z_25) (fun L_33 => (stI (va_up R_27 z_25 (fun _ => none)) (fun R_33 => (if (a0 < z_33) ∧ ((kd_33 a0).1 = 2) then (stI (u2 R_33 a0 3 (some z_25)) (fun R_35 => (if (a0 < z_33) ∧ ((kd_33 a0).1 = 2) then (stI (w2 I_33 a0 4 0) (fun I_40 => (if (a0 < z_33) ∧ ((kd_33 a0).1 = 2) then (stI (w2 I_40 a0 5 (-1)) (fun I_45 => (if (a0 < z_33) ∧ ((kd_33 a0).1 = 2) then (stI (w2 I_45 a0 6 0) (fun I_50 => (some ((z_33, kd_33, I_50, L_33, R_35), 0, 0)))) else none))) else none))) else none))) else none)))))))))))))) else none)))))))))))))) else none)))))))))))))) else none)))))))))))) else none) := by rw [kf_8.eq_2, if_pos (show (0 : Nat) = 0 from rfl)]
set_option maxHeartbeats 8000000 in
set_option maxRecDepth 100000 in
theorem ks_8 : ∀ (n : Nat) (dp : Nat) (lab : Nat) (z : Nat) (kd : (Nat → Nat × Nat)) (I : Nat → Nat → Int32) (I' : JI) (L : Nat → Nat → Int64) (L' : JI) (R : (Nat → Nat → Option Nat)) (a0 : Nat), Rli I I' → Rll L L' → Sim RPv (g_8 n dp lab z kd I L R a0) (kf_8 n dp lab z kd I' L' R a0) := by
  intro n
  induction n with
  | zero => intros; rw [kf_8.eq_1]; exact Sn
  | succ n ih =>
    intro dp lab z kd I I' L L' R a0 u_I u_L
    rw [g_8.eq_2, kf_8.eq_2]
    refine Sc Iff.rfl (fun _ => ?_) (fun _ => ?_)
    · refine Sc Iff.rfl (fun c1 => ?_) (fun _ => Sn)
      refine Sa_v rfl ?_
      refine SsE rfl (fun z_8 => ?_)
      refine SsE rfl (fun kd_8 => ?_)
      refine SsJ (ri_nw u_I) (fun I_8 I_8' u_I_8 => ?_)
      refine SsM (rl_nw u_L) (fun L_8 L_8' u_L_8 => ?_)
      refine SsE rfl (fun R_8 => ?_)
      refine Sc Iff.rfl (fun c2 => ?_) (fun _ => Sn)
      refine SsE rfl (fun R_10 => ?_)
      refine Sa_v rfl ?_
      refine SsE rfl (fun z_17 => ?_)
      refine SsE rfl (fun kd_17 => ?_)
      refine SsJ (ri_nw u_I_8) (fun I_17 I_17' u_I_17 => ?_)
      refine SsM (rl_nw u_L_8) (fun L_17 L_17' u_L_17 => ?_)
      refine SsE rfl (fun R_17 => ?_)
      refine Sc Iff.rfl (fun c3 => ?_) (fun _ => Sn)
      refine SsE rfl (fun R_19 => ?_)
      refine Sa_v rfl ?_
      refine SsE rfl (fun z_25 => ?_)
      refine SsE rfl (fun kd_25 => ?_)
      refine SsJ (ri_nw u_I_17) (fun I_25 I_25' u_I_25 => ?_)
      refine SsM (rl_nw u_L_17) (fun L_25 L_25' u_L_25 => ?_)
      refine SsE rfl (fun R_25 => ?_)
      refine Sc Iff.rfl (fun c4 => ?_) (fun _ => Sn)
      refine SsE rfl (fun R_27 => ?_)
      refine Sa_v rfl ?_
      refine SsE rfl (fun z_33 => ?_)
      refine SsE rfl (fun kd_33 => ?_)
      refine SsJ (ri_nw u_I_25) (fun I_33 I_33' u_I_33 => ?_)
      refine SsM (rl_nw u_L_25) (fun L_33 L_33' u_L_33 => ?_)
      refine SsE rfl (fun R_33 => ?_)
      refine Sc Iff.rfl (fun c5 => ?_) (fun _ => Sn)
      refine SsE rfl (fun R_35 => ?_)
      refine Sc Iff.rfl (fun c6 => ?_) (fun _ => Sn)
      refine SsJ (ri_up u_I_33 (rfl : ((4 : Nat) : Int) = 4) (rfl : Ui (0) (0))) (fun I_40 I_40' u_I_40 => ?_)
      refine Sc Iff.rfl (fun c7 => ?_) (fun _ => Sn)
      refine SsJ (ri_up u_I_40 (rfl : ((5 : Nat) : Int) = 5) (rfl : Ui (-1) (-1))) (fun I_45 I_45' u_I_45 => ?_)
      refine Sc Iff.rfl (fun c8 => ?_) (fun _ => Sn)
      refine SsJ (ri_up u_I_45 (rfl : ((6 : Nat) : Int) = 6) (rfl : Ui (0) (0))) (fun I_50 I_50' u_I_50 => ?_)
      exact Sr ⟨⟨rfl, rfl, u_I_50, u_L_33, rfl⟩, rfl⟩
    exact Sn
set_option maxHeartbeats 4000000 in
set_option maxRecDepth 100000 in
def kf_5 : Nat → Nat → Nat → Nat → (Nat → Nat × Nat) → JI → JI → (Nat → Nat → Option Nat) → Int → Nat → Nat → Nat → Option (PSi × Nat × Nat)
  | 0, _, _, _, _, _, _, _, _, _, _, _ => none
  | n + 1, dp, lab, z, kd, I, L, R, i3, a0, a1, a2 =>
    if lab = 0 then (if 1 ≤ dp then (adk 1 3 (stI (z + 1) (fun z_6 => (stI (va_up kd z (16, 3)) (fun kd_6 => (stI (nw2 I z) (fun I_6 => (stI (nw2 L z) (fun L_6 => (stI (va_up R z (fun _ => none)) (fun R_6 => (if (a0 < z_6) ∧ ((kd_6 a0).1 = 7) then (stI (u2 R_6 a0 2 (some z)) (fun R_9 => (adk 1 (clN 6).2.2 (stI (z_6 + 1) (fun z_13 => (stI (va_up kd_6 z_6 (6, 0)) (fun kd_13 => (stI (nw2 I_6 z_6) (fun I_13 => (stI (nw2 L_6 z_6) (fun L_13 => (stI (va_up R_9 z_6 (fun _ => none)) (fun R_13 => (if 1 ≤ dp then (if (z_6 < z_13) ∧ ((kd_13 z_6).1 = 6) then ((kf_6 n (dp - 1) 0 z_13 kd_13 I_13 L_13 R_13 z_6).bind (fun ⟨⟨z_17, kd_17, I_17, L_17, R_17⟩, ck_17, cm_17⟩ => (adk ck_17 cm_17 (if (a0 < z_17) ∧ ((kd_17 a0).1 = 7) then (stI (u2 R_17 a0 3 (some z_6)) (fun R_20 => (adk 1 (clN 4).2.2 (stI (z_17 + 1) (fun z_24 => (stI (va_up kd_17 z_17 (4, 0)) (fun kd_24 => (stI (nw2 I_17 z_17) (fun I_24 => (stI (nw2 L_17 z_17) (fun L_24 => (stI (va_up R_20 z_17 (fun _ => none)) (fun R_24 => (if (a0 < z_24) ∧ ((kd_24 a0).1 = 7) then ((R_24 a0 3).bind (fun b_29 => (if 1 ≤ dp then (if (z_17 < z_24) ∧ ((kd_24 z_17).1 = 4) then ((kf_7 n (dp - 1) 0 z_24 kd_24 I_24 L_24 R_24 z_17 b_29).bind (fun ⟨⟨z_32, kd_32, I_32, L_32, R_32⟩, ck_32, cm_32⟩ => (adk ck_32 cm_32 (if (a0 < z_32) ∧ ((kd_32 a0).1 = 7) then (stI (u2 R_32 a0 4 (some z_17)) (fun R_35 => (adk 1 729 (stI (z_32 + 1) (fun z_42 => (stI (va_up kd_32 z_32 (13, 729)) (fun kd_42 => (stI (nw2 I_32 z_32) (fun I_42 => (stI (nw2 L_32 z_32) (fun L_42 => (stI (va_up R_35 z_32 (fun _ => none)) (fun R_42 => (if (a0 < z_42) ∧ ((kd_42 a0).1 = 7) then (stI (u2 R_42 a0 5 (some z_32)) (fun R_44 => (adk 1 729 (stI (z_42 + 1) (fun z_51 => (stI (va_up kd_42 z_42 (13, 729)) (fun kd_51 => (stI (nw2 I_42 z_42) (fun I_51 => (stI (nw2 L_42 z_42) (fun L_51 => (stI (va_up R_44 z_42 (fun _ => none)) (fun R_51 => (if (a0 < z_51) ∧ ((kd_51 a0).1 = 7) then (stI (u2 R_51 a0 6 (some z_42)) (fun R_53 => (adk 1 729 (stI (z_51 + 1) (fun z_60 => (stI (va_up kd_51 z_51 (13, 729)) (fun kd_60 => (stI (nw2 I_51 z_51) (fun I_60 => (stI (nw2 L_51 z_51) (fun L_60 => (stI (va_up R_53 z_51 (fun _ => none)) (fun R_60 => (if (a0 < z_60) ∧ ((kd_60 a0).1 = 7) then (stI (u2 R_60 a0 7 (some z_51)) (fun R_62 => (adk 1 8 (stI (z_60 + 1) (fun z_68 => (stI (va_up kd_60 z_60 (13, 8)) (fun kd_68 => (stI (nw2 I_60 z_60) (fun I_68 => (stI (nw2 L_60 z_60) (fun L_68 => (stI (va_up R_62 z_60 (fun _ => none)) (fun R_68 => (if (a0 < z_68) ∧ ((kd_68 a0).1 = 7) then (stI (u2 R_68 a0 8 (some z_60)) (fun R_70 => (adk 1 8 (stI (z_68 + 1) (fun z_76 => (stI (va_up kd_68 z_68 (13, 8)) (fun kd_76 => (stI (nw2 I_68 z_68) (fun I_76 => (stI (nw2 L_68 z_68) (fun L_76 => (stI (va_up R_70 z_68 (fun _ => none)) (fun R_76 => (if (a0 < z_76) ∧ ((kd_76 a0).1 = 7) then (stI (u2 R_76 a0 9 (some z_68)) (fun R_78 => (adk 1 3 (stI (z_76 + 1) (fun z_83 => (stI (va_up kd_76 z_76 (13, 3)) (fun kd_83 => (stI (nw2 I_76 z_76) (fun I_83 => (stI (nw2 L_76 z_76) (fun L_83 => (stI (va_up R_78 z_76 (fun _ => none)) (fun R_83 => (if (a0 < z_83) ∧ ((kd_83 a0).1 = 7) then (stI (u2 R_83 a0 10 (some z_76)) (fun R_85 => (adk 1 3 (stI (z_83 + 1) (fun z_90 => (stI (va_up kd_83 z_83 (13, 3)) (fun kd_90 => (stI (nw2 I_83 z_83) (fun I_90 => (stI (nw2 L_83 z_83) (fun L_90 => (stI (va_up R_85 z_83 (fun _ => none)) (fun R_90 => (if (a0 < z_90) ∧ ((kd_90 a0).1 = 7) then (stI (u2 R_90 a0 11 (some z_83)) (fun R_92 => (if (a0 < z_90) ∧ ((kd_90 a0).1 = 7) then (stI (w2 I_90 a0 12 1) (fun I_97 => (if (a0 < z_90) ∧ ((kd_90 a0).1 = 7) then (stI (w2 I_97 a0 13 1) (fun I_102 => (if (a0 < z_90) ∧ ((kd_90 a0).1 = 7) then (stI (w2 I_102 a0 14 1) (fun I_107 => (if (a0 < z_90) ∧ ((kd_90 a0).1 = 7) then (stI (w2 I_107 a0 15 1) (fun I_112 => (if (a0 < z_90) ∧ ((kd_90 a0).1 = 7) then (stI (u2 R_92 a0 0 (some a1)) (fun R_117 => (if (a0 < z_90) ∧ ((kd_90 a0).1 = 7) then (stI (u2 R_117 a0 1 (some a2)) (fun R_122 => (kf_5 n dp 1 z_90 kd_90 I_112 L_90 R_122 0 a0 a1 a2))) else none))) else none))) else none))) else none))) else none))) else none))) else none)))))))))))))) else none)))))))))))))) else none)))))))))))))) else none)))))))))))))) else none)))))))))))))) else none)))))))))))))) else none)))))))))))))) else none)))) else none) else none))) else none)))))))))))))) else none)))) else none) else none)))))))))))))) else none)))))))))))) else none)
    else if lab = 1 then (if 3 ≤ i3 then (some ((z, kd, I, L, R), 0, 0)) else (if (a0 < z) ∧ ((kd a0).1 = 7) then ((R a0 2).bind (fun b_133 => (adk 1 (clN 2).2.2 (stI (z + 1) (fun z_137 => (stI (va_up kd z (2, 0)) (fun kd_137 => (stI (nw2 I z) (fun I_137 => (stI (nw2 L z) (fun L_137 => (stI (va_up R z (fun _ => none)) (fun R_137 => (if 1 ≤ dp then (if (z < z_137) ∧ ((kd_137 z).1 = 2) then ((kf_8 n (dp - 1) 0 z_137 kd_137 I_137 L_137 R_137 z).bind (fun ⟨⟨z_141, kd_141, I_141, L_141, R_141⟩, ck_141, cm_141⟩ => (adk ck_141 cm_141 (if ((z < z_141) ∧ ((kd_141 z).1 = 2)) ∧ (((b_133 < z_141) ∧ ((kd_141 b_133).1 = 16)) ∧ (0 ≤ i3 ∧ i3 < (((kd_141 b_133).2 : Nat) : Int))) then (stI (u2 R_141 b_133 (Int.toNat i3) (some z)) (fun R_144 => (if -2147483648 ≤ i3 + 1 ∧ i3 + 1 ≤ 2147483647 then (kf_5 n dp 1 z_141 kd_141 I_141 L_141 R_144 (i3 + 1) a0 a1 a2) else none))) else none)))) else none) else none)))))))))))))) else none))
    else none
set_option maxRecDepth 100000 in
theorem ke_5_0 (n : Nat) (dp : Nat) (z : Nat) (kd : (Nat → Nat × Nat)) (I : JI) (L : JI) (R : (Nat → Nat → Option Nat)) (i3 : Int) (a0 : Nat) (a1 : Nat) (a2 : Nat) : kf_5 (n + 1) dp 0 z kd I L R i3 a0 a1 a2 = (if 1 ≤ dp then (adk 1 3 (stI (z + 1) (fun z_6 => (stI (va_up kd z (16, 3)) (fun kd_6 => (stI (nw2 I z) (fun I_6 => (stI (nw2 L z) (fun L_6 => (stI (va_up R z (fun _ => none)) (fun R_6 => (if (a0 < z_6) ∧ ((kd_6 a0).1 = 7) then (stI (u2 R_6 a0 2 (some z)) (fun R_9 => (adk 1 (clN 6).2.2 (stI (z_6 + 1) (fun z_13 => (stI (va_up kd_6 z_6 (6, 0)) (fun kd_13 => (stI (nw2 I_6 z_6) (fun I_13 => (stI (nw2 L_6 z_6) (fun L_13 => (stI (va_up R_9 z_6 (fun _ => none)) (fun R_13 => (if 1 ≤ dp then (if (z_6 < z_13) ∧ ((kd_13 z_6).1 = 6) then ((kf_6 n (dp - 1) 0 z_13 kd_13 I_13 L_13 R_13 z_6).bind (fun ⟨⟨z_17, kd_17, I_17, L_17, R_17⟩, ck_17, cm_17⟩ => (adk ck_17 cm_17 (if (a0 < z_17) ∧ ((kd_17 a0).1 = 7) then (stI (u2 R_17 a0 3 (some z_6)) (fun R_20 => (adk 1 (clN 4).2.2 (stI (z_17 + 1) (fun z_24 => (stI (va_up kd_17 z_17 (4, 0)) (fun kd_24 => (stI (nw2 I_17 z_17) (fun I_24 => (stI (nw2 L_17 z_17) (fun L_24 => (stI (va_up R_20 z_17 (fun _ => none)) (fun R_24 => (if (a0 < z_24) ∧ ((kd_24 a0).1 = 7) then ((R_24 a0 3).bind (fun b_29 => (if 1 ≤ dp then (if (z_17 < z_24) ∧ ((kd_24 z_17).1 = 4) then ((kf_7 n (dp - 1) 0 z_24 kd_24 I_24 L_24 R_24 z_17 b_29).bind (fun ⟨⟨z_32, kd_32, I_32, L_32, R_32⟩, ck_32, cm_32⟩ => (adk ck_32 cm_32 (if (a0 < z_32) ∧ ((kd_32 a0).1 = 7) then (stI (u2 R_32 a0 4 (some z_17)) (fun R_35 => (adk 1 729 (stI (z_32 + 1) (fun z_42 => (stI (va_up kd_32 z_32 (13, 729)) (fun kd_42 => (stI (nw2 I_32 z_32) (fun I_42 => (stI (nw2 L_32 z_32) (fun L_42 => (stI (va_up R_35 z_32 (fun _ => none)) (fun R_42 => (if (a0 < z_42) ∧ ((kd_42 a0).1 = 7) then (stI (u2 R_42 a0 5 (some z_32)) (fun R_44 => (adk 1 729 (stI (z_42 + 1) (fun z_51 => (stI (va_up kd_42 z_42 (13, 729)) (fun kd_51 => (stI (nw2 I_42 z_42) (fun I_51 => (stI (nw2 L_42 z_42) (fun L_51 => (stI (va_up R_44 z_42 (fun _ => none)) (fun R_51 => (if (a0 < z_51) ∧ ((kd_51 a0).1 = 7) then (stI (u2 R_51 a0 6 (some z_42)) (fun R_53 => (adk 1 729 (stI (z_51 + 1) (fun z_60 => (stI (va_up kd_51 z_51 (13, 729)) (fun kd_60 => (stI (nw2 I_51 z_51) (fun I_60 => (stI (nw2 L_51 z_51) (fun L_60 => (stI (va_up R_53 z_51 (fun _ => none)) (fun R_60 => (if (a0 < z_60) ∧ ((kd_60 a0).1 = 7) then (stI (u2 R_60 a0 7 (some z_51)) (fun R_62 => (adk 1 8 (stI (z_60 + 1) (fun z_68 => (stI (va_up kd_60 z_60 (13, 8)) (fun kd_68 => (stI (nw2 I_60 z_60) (fun I_68 => (stI (nw2 L_60 z_60) (fun L_68 => (stI (va_up R_62 z_60 (fun _ => none)) (fun R_68 => (if (a0 < z_68) ∧ ((kd_68 a0).1 = 7) then (stI (u2 R_68 a0 8 (some z_60)) (fun R_70 => (adk 1 8 (stI (z_68 + 1) (fun z_76 => (stI (va_up kd_68 z_68 (13, 8)) (fun kd_76 => (stI (nw2 I_68 z_68) (fun I_76 => (stI (nw2 L_68 z_68) (fun L_76 => (stI (va_up R_70 z_68 (fun _ => none)) (fun R_76 => (if (a0 < z_76) ∧ ((kd_76 a0).1 = 7) then (stI (u2 R_76 a0 9 (some z_68)) (fun R_78 => (adk 1 3 (stI (z_76 + 1) (fun z_83 => (stI (va_up kd_76 z_76 (13, 3)) (fun kd_83 => (stI (nw2 I_76 z_76) (fun I_83 => (stI (nw2 L_76 z_76) (fun L_83 => (stI (va_up R_78 z_76 (fun _ => none)) (fun R_83 => (if (a0 < z_83) ∧ ((kd_83 a0).1 = 7) then (stI (u2 R_83 a0 10 (some z_76)) (fun R_85 => (adk 1 3 (stI (z_83 + 1) (fun z_90 => (stI (va_up kd_83 z_83 (13, 3)) (fun kd_90 => (stI (nw2 I_83 z_83) (fun I_90 => (stI (nw2 L_83 z_83) (fun L_90 => (stI (va_up R_85 z_83 (fun _ => none)) (fun R_90 => (if (a0 < z_90) ∧ ((kd_90 a0).1 = 7) then (stI (u2 R_90 a0 11 (some z_83)) (fun R_92 => (if (a0 < z_90) ∧ ((kd_90 a0).1 = 7) then (stI (w2 I_90 a0 12 1) (fun I_97 => (if (a0 < z_90) ∧ ((kd_90 a0).1 = 7) then (stI (w2 I_97 a0 13 1) (fun I_102 => (if (a0 < z_90) ∧ ((kd_90 a0).1 = 7) then (stI (w2 I_102 a0 14 1) (fun I_107 => (if (a0 < z_90) ∧ ((kd_90 a0).1 = 7) then (stI (w2 I_107 a0 15 1) (fun I_112 => (if (a0 < z_90) ∧ ((kd_90 a0).1 = 7) then (stI (u2 R_92 a0 0 (some a1)) (fun R_117 => (if (a0 < z_90) ∧ ((kd_90 a0).1 = 7) then (stI (u2 R_117 a0 1 (some a2)) (fun R_122 => (kf_5 n dp 1 z_90 kd_90 I_112 L_90 R_122 0 a0 a1 a2))) else none))) else none))) else none))) else none))) else none))) else none))) else none)))))))))))))) else none)))))))))))))) else none)))))))))))))) else none)))))))))))))) else none)))))))))))))) else none)))))))))))))) else none)))))))))))))) else none)))) else none) else none))) else none)))))))))))))) else none)))) else none) else none)))))))))))))) else none)))))))))))) else none) := by rw [kf_5.eq_2, if_pos (show (0 : Nat) = 0 from rfl)]
set_option maxRecDepth 100000 in
theorem ke_5_1 (n : Nat) (dp : Nat) (z : Nat) (kd : (Nat → Nat × Nat)) (I : JI) (L : JI) (R : (Nat → Nat → Option Nat)) (i3 : Int) (a0 : Nat) (a1 : Nat) (a2 : Nat) : kf_5 (n + 1) dp 1 z kd I L R i3 a0 a1 a2 = (if 3 ≤ i3 then (some ((z, kd, I, L, R), 0, 0)) else (if (a0 < z) ∧ ((kd a0).1 = 7) then ((R a0 2).bind (fun b_133 => (adk 1 (clN 2).2.2 (stI (z + 1) (fun z_137 => (stI (va_up kd z (2, 0)) (fun kd_137 => (stI (nw2 I z) (fun I_137 => (stI (nw2 L z) (fun L_137 => (stI (va_up R z (fun _ => none)) (fun R_137 => (if 1 ≤ dp then (if (z < z_137) ∧ ((kd_137 z).1 = 2) then ((kf_8 n (dp - 1) 0 z_137 kd_137 I_137 L_137 R_137 z).bind (fun ⟨⟨z_141, kd_141, I_141, L_141, R_141⟩, ck_141, cm_141⟩ => (adk ck_141 cm_141 (if ((z < z_141) ∧ ((kd_141 z).1 = 2)) ∧ (((b_133 < z_141) ∧ ((kd_141 b_133).1 = 16)) ∧ (0 ≤ i3 ∧ i3 < (((kd_141 b_133).2 : Nat) : Int))) then (stI (u2 R_141 b_133 (Int.toNat i3) (some z)) (fun R_144 => (if -2147483648 ≤ i3 + 1 ∧ i3 + 1 ≤ 2147483647 then (kf_5 n dp 1 z_141 kd_141 I_141 L_141 R_144 (i3 + 1) a0 a1 a2) else none))) else none)))) else none) else none)))))))))))))) else none)) := by rw [kf_5.eq_2, if_neg (show ¬ ((1 : Nat) = 0) by decide), if_pos (show (1 : Nat) = 1 from rfl)]
set_option maxHeartbeats 8000000 in
set_option maxRecDepth 100000 in
theorem ks_5 : ∀ (n : Nat) (dp : Nat) (lab : Nat) (z : Nat) (kd : (Nat → Nat × Nat)) (I : Nat → Nat → Int32) (I' : JI) (L : Nat → Nat → Int64) (L' : JI) (R : (Nat → Nat → Option Nat)) (i3 : Int32) (i3' : Int) (a0 : Nat) (a1 : Nat) (a2 : Nat), Rli I I' → Rll L L' → Ui i3 i3' → Sim RPv (g_5 n dp lab z kd I L R i3 a0 a1 a2) (kf_5 n dp lab z kd I' L' R i3' a0 a1 a2) := by
  intro n
  induction n with
  | zero => intros; rw [kf_5.eq_1]; exact Sn
  | succ n ih =>
    intro dp lab z kd I I' L L' R i3 i3' a0 a1 a2 u_I u_L u_i3
    rw [g_5.eq_2, kf_5.eq_2]
    refine Sc Iff.rfl (fun _ => ?_) (fun _ => ?_)
    · refine Sc Iff.rfl (fun c1 => ?_) (fun _ => Sn)
      refine Sa_v rfl ?_
      refine SsE rfl (fun z_6 => ?_)
      refine SsE rfl (fun kd_6 => ?_)
      refine SsJ (ri_nw u_I) (fun I_6 I_6' u_I_6 => ?_)
      refine SsM (rl_nw u_L) (fun L_6 L_6' u_L_6 => ?_)
      refine SsE rfl (fun R_6 => ?_)
      refine Sc Iff.rfl (fun c2 => ?_) (fun _ => Sn)
      refine SsE rfl (fun R_9 => ?_)
      refine Sa_v rfl ?_
      refine SsE rfl (fun z_13 => ?_)
      refine SsE rfl (fun kd_13 => ?_)
      refine SsJ (ri_nw u_I_6) (fun I_13 I_13' u_I_13 => ?_)
      refine SsM (rl_nw u_L_6) (fun L_13 L_13' u_L_13 => ?_)
      refine SsE rfl (fun R_13 => ?_)
      refine Sc Iff.rfl (fun c3 => ?_) (fun _ => Sn)
      refine Sc Iff.rfl (fun c4 => ?_) (fun _ => Sn)
      refine SbPv (ks_6 n (dp - 1) 0 z_13 kd_13 _ _ _ _ R_13 z_6 u_I_13 u_L_13) (fun z_17 kd_17 I_17 I_17' L_17 L_17' R_17 ck_17 cm_17 u_I_17 u_L_17 => ?_)
      refine Sa_v rfl ?_
      refine Sc Iff.rfl (fun c5 => ?_) (fun _ => Sn)
      refine SsE rfl (fun R_20 => ?_)
      refine Sa_v rfl ?_
      refine SsE rfl (fun z_24 => ?_)
      refine SsE rfl (fun kd_24 => ?_)
      refine SsJ (ri_nw u_I_17) (fun I_24 I_24' u_I_24 => ?_)
      refine SsM (rl_nw u_L_17) (fun L_24 L_24' u_L_24 => ?_)
      refine SsE rfl (fun R_24 => ?_)
      refine Sc Iff.rfl (fun c6 => ?_) (fun _ => Sn)
      refine SbE rfl (fun b_29 => ?_)
      refine Sc Iff.rfl (fun c7 => ?_) (fun _ => Sn)
      refine Sc Iff.rfl (fun c8 => ?_) (fun _ => Sn)
      refine SbPv (ks_7 n (dp - 1) 0 z_24 kd_24 _ _ _ _ R_24 z_17 b_29 u_I_24 u_L_24) (fun z_32 kd_32 I_32 I_32' L_32 L_32' R_32 ck_32 cm_32 u_I_32 u_L_32 => ?_)
      refine Sa_v rfl ?_
      refine Sc Iff.rfl (fun c9 => ?_) (fun _ => Sn)
      refine SsE rfl (fun R_35 => ?_)
      refine Sa_v rfl ?_
      refine SsE rfl (fun z_42 => ?_)
      refine SsE rfl (fun kd_42 => ?_)
      refine SsJ (ri_nw u_I_32) (fun I_42 I_42' u_I_42 => ?_)
      refine SsM (rl_nw u_L_32) (fun L_42 L_42' u_L_42 => ?_)
      refine SsE rfl (fun R_42 => ?_)
      refine Sc Iff.rfl (fun c10 => ?_) (fun _ => Sn)
      refine SsE rfl (fun R_44 => ?_)
      refine Sa_v rfl ?_
      refine SsE rfl (fun z_51 => ?_)
      refine SsE rfl (fun kd_51 => ?_)
      refine SsJ (ri_nw u_I_42) (fun I_51 I_51' u_I_51 => ?_)
      refine SsM (rl_nw u_L_42) (fun L_51 L_51' u_L_51 => ?_)
      refine SsE rfl (fun R_51 => ?_)
      refine Sc Iff.rfl (fun c11 => ?_) (fun _ => Sn)
      refine SsE rfl (fun R_53 => ?_)
      refine Sa_v rfl ?_
      refine SsE rfl (fun z_60 => ?_)
      refine SsE rfl (fun kd_60 => ?_)
      refine SsJ (ri_nw u_I_51) (fun I_60 I_60' u_I_60 => ?_)
      refine SsM (rl_nw u_L_51) (fun L_60 L_60' u_L_60 => ?_)
      refine SsE rfl (fun R_60 => ?_)
      refine Sc Iff.rfl (fun c12 => ?_) (fun _ => Sn)
      refine SsE rfl (fun R_62 => ?_)
      refine Sa_v rfl ?_
      refine SsE rfl (fun z_68 => ?_)
      refine SsE rfl (fun kd_68 => ?_)
      refine SsJ (ri_nw u_I_60) (fun I_68 I_68' u_I_68 => ?_)
      refine SsM (rl_nw u_L_60) (fun L_68 L_68' u_L_68 => ?_)
      refine SsE rfl (fun R_68 => ?_)
      refine Sc Iff.rfl (fun c13 => ?_) (fun _ => Sn)
      refine SsE rfl (fun R_70 => ?_)
      refine Sa_v rfl ?_
      refine SsE rfl (fun z_76 => ?_)
      refine SsE rfl (fun kd_76 => ?_)
      refine SsJ (ri_nw u_I_68) (fun I_76 I_76' u_I_76 => ?_)
      refine SsM (rl_nw u_L_68) (fun L_76 L_76' u_L_76 => ?_)
      refine SsE rfl (fun R_76 => ?_)
      refine Sc Iff.rfl (fun c14 => ?_) (fun _ => Sn)
      refine SsE rfl (fun R_78 => ?_)
      refine Sa_v rfl ?_
      refine SsE rfl (fun z_83 => ?_)
      refine SsE rfl (fun kd_83 => ?_)
      refine SsJ (ri_nw u_I_76) (fun I_83 I_83' u_I_83 => ?_)
      refine SsM (rl_nw u_L_76) (fun L_83 L_83' u_L_83 => ?_)
      refine SsE rfl (fun R_83 => ?_)
      refine Sc Iff.rfl (fun c15 => ?_) (fun _ => Sn)
      refine SsE rfl (fun R_85 => ?_)
      refine Sa_v rfl ?_
      refine SsE rfl (fun z_90 => ?_)
      refine SsE rfl (fun kd_90 => ?_)
      refine SsJ (ri_nw u_I_83) (fun I_90 I_90' u_I_90 => ?_)
      refine SsM (rl_nw u_L_83) (fun L_90 L_90' u_L_90 => ?_)
      refine SsE rfl (fun R_90 => ?_)
      refine Sc Iff.rfl (fun c16 => ?_) (fun _ => Sn)
      refine SsE rfl (fun R_92 => ?_)
      refine Sc Iff.rfl (fun c17 => ?_) (fun _ => Sn)
      refine SsJ (ri_up u_I_90 (rfl : ((12 : Nat) : Int) = 12) (rfl : Ui (1) (1))) (fun I_97 I_97' u_I_97 => ?_)
      refine Sc Iff.rfl (fun c18 => ?_) (fun _ => Sn)
      refine SsJ (ri_up u_I_97 (rfl : ((13 : Nat) : Int) = 13) (rfl : Ui (1) (1))) (fun I_102 I_102' u_I_102 => ?_)
      refine Sc Iff.rfl (fun c19 => ?_) (fun _ => Sn)
      refine SsJ (ri_up u_I_102 (rfl : ((14 : Nat) : Int) = 14) (rfl : Ui (1) (1))) (fun I_107 I_107' u_I_107 => ?_)
      refine Sc Iff.rfl (fun c20 => ?_) (fun _ => Sn)
      refine SsJ (ri_up u_I_107 (rfl : ((15 : Nat) : Int) = 15) (rfl : Ui (1) (1))) (fun I_112 I_112' u_I_112 => ?_)
      refine Sc Iff.rfl (fun c21 => ?_) (fun _ => Sn)
      refine SsE rfl (fun R_117 => ?_)
      refine Sc Iff.rfl (fun c22 => ?_) (fun _ => Sn)
      refine SsE rfl (fun R_122 => ?_)
      exact (ih dp 1 z_90 kd_90 _ _ _ _ R_122 _ _ a0 a1 a2 u_I_112 u_L_90 (rfl : Ui (0) (0)))
    refine Sc Iff.rfl (fun _ => ?_) (fun _ => ?_)
    · refine Sc (le_up (rfl : Ui (3) (3)) u_i3) (fun c1 => ?_) (fun c1 => ?_)
      · exact Sr ⟨⟨rfl, rfl, u_I, u_L, rfl⟩, rfl⟩
      · refine Sc Iff.rfl (fun c2 => ?_) (fun _ => Sn)
        refine SbE rfl (fun b_133 => ?_)
        refine Sa_v rfl ?_
        refine SsE rfl (fun z_137 => ?_)
        refine SsE rfl (fun kd_137 => ?_)
        refine SsJ (ri_nw u_I) (fun I_137 I_137' u_I_137 => ?_)
        refine SsM (rl_nw u_L) (fun L_137 L_137' u_L_137 => ?_)
        refine SsE rfl (fun R_137 => ?_)
        refine Sc Iff.rfl (fun c3 => ?_) (fun _ => Sn)
        refine Sc Iff.rfl (fun c4 => ?_) (fun _ => Sn)
        refine SbPv (ks_8 n (dp - 1) 0 z_137 kd_137 _ _ _ _ R_137 z u_I_137 u_L_137) (fun z_141 kd_141 I_141 I_141' L_141 L_141' R_141 ck_141 cm_141 u_I_141 u_L_141 => ?_)
        refine Sa_v rfl ?_
        refine Sc (and_congr Iff.rfl (and_congr Iff.rfl (ix_up u_i3))) (fun c5 => ?_) (fun _ => Sn)
        refine SsE (by first | (rw [cl_up u_i3]; done) | (rw [cl_up u_i3]; rfl)) (fun R_144 => ?_)
        refine Sg (fun g6 => ?_)
        exact (ih dp 1 z_141 kd_141 _ _ _ _ R_144 _ _ a0 a1 a2 u_I_141 u_L_141 (ui_add u_i3 (rfl : Ui (Int32.ofInt (1)) (1)) g6))
    exact Sn
set_option maxHeartbeats 4000000 in
set_option maxRecDepth 100000 in
def kf_9 : Nat → Nat → Nat → Nat → (Nat → Nat × Nat) → JI → JI → (Nat → Nat → Option Nat) → Nat → Nat → Nat → Nat → Option (PSi × Nat × Nat)
  | 0, _, _, _, _, _, _, _, _, _, _, _ => none
  | n + 1, dp, lab, z, kd, I, L, R, a0, a1, a2, a3 =>
    if lab = 0 then (if 1 ≤ dp then (adk 1 16 (stI (z + 1) (fun z_7 => (stI (va_up kd z (13, 16)) (fun kd_7 => (stI (nw2 I z) (fun I_7 => (stI (nw2 L z) (fun L_7 => (stI (va_up R z (fun _ => none)) (fun R_7 => (if (a0 < z_7) ∧ ((kd_7 a0).1 = 1) then (stI (u2 R_7 a0 3 (some z)) (fun R_9 => (adk 1 16 (stI (z_7 + 1) (fun z_15 => (stI (va_up kd_7 z_7 (13, 16)) (fun kd_15 => (stI (nw2 I_7 z_7) (fun I_15 => (stI (nw2 L_7 z_7) (fun L_15 => (stI (va_up R_9 z_7 (fun _ => none)) (fun R_15 => (if (a0 < z_15) ∧ ((kd_15 a0).1 = 1) then (stI (u2 R_15 a0 4 (some z_7)) (fun R_17 => (adk 1 16 (stI (z_15 + 1) (fun z_23 => (stI (va_up kd_15 z_15 (13, 16)) (fun kd_23 => (stI (nw2 I_15 z_15) (fun I_23 => (stI (nw2 L_15 z_15) (fun L_23 => (stI (va_up R_17 z_15 (fun _ => none)) (fun R_23 => (if (a0 < z_23) ∧ ((kd_23 a0).1 = 1) then (stI (u2 R_23 a0 5 (some z_15)) (fun R_25 => (adk 1 10 (stI (z_23 + 1) (fun z_31 => (stI (va_up kd_23 z_23 (13, 10)) (fun kd_31 => (stI (nw2 I_23 z_23) (fun I_31 => (stI (nw2 L_23 z_23) (fun L_31 => (stI (va_up R_25 z_23 (fun _ => none)) (fun R_31 => (if (a0 < z_31) ∧ ((kd_31 a0).1 = 1) then (stI (u2 R_31 a0 6 (some z_23)) (fun R_33 => (adk 1 16 (stI (z_31 + 1) (fun z_39 => (stI (va_up kd_31 z_31 (13, 16)) (fun kd_39 => (stI (nw2 I_31 z_31) (fun I_39 => (stI (nw2 L_31 z_31) (fun L_39 => (stI (va_up R_33 z_31 (fun _ => none)) (fun R_39 => (if (a0 < z_39) ∧ ((kd_39 a0).1 = 1) then (stI (u2 R_39 a0 7 (some z_31)) (fun R_41 => (adk 1 16 (stI (z_39 + 1) (fun z_47 => (stI (va_up kd_39 z_39 (13, 16)) (fun kd_47 => (stI (nw2 I_39 z_39) (fun I_47 => (stI (nw2 L_39 z_39) (fun L_47 => (stI (va_up R_41 z_39 (fun _ => none)) (fun R_47 => (if (a0 < z_47) ∧ ((kd_47 a0).1 = 1) then (stI (u2 R_47 a0 8 (some z_39)) (fun R_49 => (adk 1 4 (stI (z_47 + 1) (fun z_54 => (stI (va_up kd_47 z_47 (13, 4)) (fun kd_54 => (stI (nw2 I_47 z_47) (fun I_54 => (stI (nw2 L_47 z_47) (fun L_54 => (stI (va_up R_49 z_47 (fun _ => none)) (fun R_54 => (if (a0 < z_54) ∧ ((kd_54 a0).1 = 1) then (stI (u2 R_54 a0 9 (some z_47)) (fun R_56 => (if (a0 < z_54) ∧ ((kd_54 a0).1 = 1) then (stI (w2 I_54 a0 10 0) (fun I_61 => (if (a0 < z_54) ∧ ((kd_54 a0).1 = 1) then (stI (w2 I_61 a0 11 0) (fun I_66 => (if (a0 < z_54) ∧ ((kd_54 a0).1 = 1) then (stI (w2 I_66 a0 12 (-1)) (fun I_71 => (if (a0 < z_54) ∧ ((kd_54 a0).1 = 1) then (stI (w2 I_71 a0 13 0) (fun I_76 => (if (a0 < z_54) ∧ ((kd_54 a0).1 = 1) then (stI (w2 I_76 a0 14 0) (fun I_81 => (if (a0 < z_54) ∧ ((kd_54 a0).1 = 1) then (stI (w2 I_81 a0 15 1) (fun I_86 => (if (a0 < z_54) ∧ ((kd_54 a0).1 = 1) then (stI (w2 I_86 a0 16 1) (fun I_91 => (if (a0 < z_54) ∧ ((kd_54 a0).1 = 1) then (stI (u2 R_56 a0 0 (some a1)) (fun R_96 => (if (a0 < z_54) ∧ ((kd_54 a0).1 = 1) then (stI (u2 R_96 a0 1 (some a2)) (fun R_101 => (if (a0 < z_54) ∧ ((kd_54 a0).1 = 1) then (stI (u2 R_101 a0 2 (some a3)) (fun R_106 => (some ((z_54, kd_54, I_91, L_54, R_106), 0, 0)))) else none))) else none))) else none))) else none))) else none))) else none))) else none))) else none))) else none))) else none))) else none)))))))))))))) else none)))))))))))))) else none)))))))))))))) else none)))))))))))))) else none)))))))))))))) else none)))))))))))))) else none)))))))))))) else none)
    else none
set_option maxRecDepth 100000 in
theorem ke_9_0 (n : Nat) (dp : Nat) (z : Nat) (kd : (Nat → Nat × Nat)) (I : JI) (L : JI) (R : (Nat → Nat → Option Nat)) (a0 : Nat) (a1 : Nat) (a2 : Nat) (a3 : Nat) : kf_9 (n + 1) dp 0 z kd I L R a0 a1 a2 a3 = (if 1 ≤ dp then (adk 1 16 (stI (z + 1) (fun z_7 => (stI (va_up kd z (13, 16)) (fun kd_7 => (stI (nw2 I z) (fun I_7 => (stI (nw2 L z) (fun L_7 => (stI (va_up R z (fun _ => none)) (fun R_7 => (if (a0 < z_7) ∧ ((kd_7 a0).1 = 1) then (stI (u2 R_7 a0 3 (some z)) (fun R_9 => (adk 1 16 (stI (z_7 + 1) (fun z_15 => (stI (va_up kd_7 z_7 (13, 16)) (fun kd_15 => (stI (nw2 I_7 z_7) (fun I_15 => (stI (nw2 L_7 z_7) (fun L_15 => (stI (va_up R_9 z_7 (fun _ => none)) (fun R_15 => (if (a0 < z_15) ∧ ((kd_15 a0).1 = 1) then (stI (u2 R_15 a0 4 (some z_7)) (fun R_17 => (adk 1 16 (stI (z_15 + 1) (fun z_23 => (stI (va_up kd_15 z_15 (13, 16)) (fun kd_23 => (stI (nw2 I_15 z_15) (fun I_23 => (stI (nw2 L_15 z_15) (fun L_23 => (stI (va_up R_17 z_15 (fun _ => none)) (fun R_23 => (if (a0 < z_23) ∧ ((kd_23 a0).1 = 1) then (stI (u2 R_23 a0 5 (some z_15)) (fun R_25 => (adk 1 10 (stI (z_23 + 1) (fun z_31 => (stI (va_up kd_23 z_23 (13, 10)) (fun kd_31 => (stI (nw2 I_23 z_23) (fun I_31 => (stI (nw2 L_23 z_23) (fun L_31 => (stI (va_up R_25 z_23 (fun _ => none)) (fun R_31 => (if (a0 < z_31) ∧ ((kd_31 a0).1 = 1) then (stI (u2 R_31 a0 6 (some z_23)) (fun R_33 => (adk 1 16 (stI (z_31 + 1) (fun z_39 => (stI (va_up kd_31 z_31 (13, 16)) (fun kd_39 => (stI (nw2 I_31 z_31) (fun I_39 => (stI (nw2 L_31 z_31) (fun L_39 => (stI (va_up R_33 z_31 (fun _ => none)) (fun R_39 => (if (a0 < z_39) ∧ ((kd_39 a0).1 = 1) then (stI (u2 R_39 a0 7 (some z_31)) (fun R_41 => (adk 1 16 (stI (z_39 + 1) (fun z_47 => (stI (va_up kd_39 z_39 (13, 16)) (fun kd_47 => (stI (nw2 I_39 z_39) (fun I_47 => (stI (nw2 L_39 z_39) (fun L_47 => (stI (va_up R_41 z_39 (fun _ => none)) (fun R_47 => (if (a0 < z_47) ∧ ((kd_47 a0).1 = 1) then (stI (u2 R_47 a0 8 (some z_39)) (fun R_49 => (adk 1 4 (stI (z_47 + 1) (fun z_54 => (stI (va_up kd_47 z_47 (13, 4)) (fun kd_54 => (stI (nw2 I_47 z_47) (fun I_54 => (stI (nw2 L_47 z_47) (fun L_54 => (stI (va_up R_49 z_47 (fun _ => none)) (fun R_54 => (if (a0 < z_54) ∧ ((kd_54 a0).1 = 1) then (stI (u2 R_54 a0 9 (some z_47)) (fun R_56 => (if (a0 < z_54) ∧ ((kd_54 a0).1 = 1) then (stI (w2 I_54 a0 10 0) (fun I_61 => (if (a0 < z_54) ∧ ((kd_54 a0).1 = 1) then (stI (w2 I_61 a0 11 0) (fun I_66 => (if (a0 < z_54) ∧ ((kd_54 a0).1 = 1) then (stI (w2 I_66 a0 12 (-1)) (fun I_71 => (if (a0 < z_54) ∧ ((kd_54 a0).1 = 1) then (stI (w2 I_71 a0 13 0) (fun I_76 => (if (a0 < z_54) ∧ ((kd_54 a0).1 = 1) then (stI (w2 I_76 a0 14 0) (fun I_81 => (if (a0 < z_54) ∧ ((kd_54 a0).1 = 1) then (stI (w2 I_81 a0 15 1) (fun I_86 => (if (a0 < z_54) ∧ ((kd_54 a0).1 = 1) then (stI (w2 I_86 a0 16 1) (fun I_91 => (if (a0 < z_54) ∧ ((kd_54 a0).1 = 1) then (stI (u2 R_56 a0 0 (some a1)) (fun R_96 => (if (a0 < z_54) ∧ ((kd_54 a0).1 = 1) then (stI (u2 R_96 a0 1 (some a2)) (fun R_101 => (if (a0 < z_54) ∧ ((kd_54 a0).1 = 1) then (stI (u2 R_101 a0 2 (some a3)) (fun R_106 => (some ((z_54, kd_54, I_91, L_54, R_106), 0, 0)))) else none))) else none))) else none))) else none))) else none))) else none))) else none))) else none))) else none))) else none))) else none)))))))))))))) else none)))))))))))))) else none)))))))))))))) else none)))))))))))))) else none)))))))))))))) else none)))))))))))))) else none)))))))))))) else none) := by rw [kf_9.eq_2, if_pos (show (0 : Nat) = 0 from rfl)]
set_option maxHeartbeats 8000000 in
set_option maxRecDepth 100000 in
theorem ks_9 : ∀ (n : Nat) (dp : Nat) (lab : Nat) (z : Nat) (kd : (Nat → Nat × Nat)) (I : Nat → Nat → Int32) (I' : JI) (L : Nat → Nat → Int64) (L' : JI) (R : (Nat → Nat → Option Nat)) (a0 : Nat) (a1 : Nat) (a2 : Nat) (a3 : Nat), Rli I I' → Rll L L' → Sim RPv (g_9 n dp lab z kd I L R a0 a1 a2 a3) (kf_9 n dp lab z kd I' L' R a0 a1 a2 a3) := by
  intro n
  induction n with
  | zero => intros; rw [kf_9.eq_1]; exact Sn
  | succ n ih =>
    intro dp lab z kd I I' L L' R a0 a1 a2 a3 u_I u_L
    rw [g_9.eq_2, kf_9.eq_2]
    refine Sc Iff.rfl (fun _ => ?_) (fun _ => ?_)
    · refine Sc Iff.rfl (fun c1 => ?_) (fun _ => Sn)
      refine Sa_v rfl ?_
      refine SsE rfl (fun z_7 => ?_)
      refine SsE rfl (fun kd_7 => ?_)
      refine SsJ (ri_nw u_I) (fun I_7 I_7' u_I_7 => ?_)
      refine SsM (rl_nw u_L) (fun L_7 L_7' u_L_7 => ?_)
      refine SsE rfl (fun R_7 => ?_)
      refine Sc Iff.rfl (fun c2 => ?_) (fun _ => Sn)
      refine SsE rfl (fun R_9 => ?_)
      refine Sa_v rfl ?_
      refine SsE rfl (fun z_15 => ?_)
      refine SsE rfl (fun kd_15 => ?_)
      refine SsJ (ri_nw u_I_7) (fun I_15 I_15' u_I_15 => ?_)
      refine SsM (rl_nw u_L_7) (fun L_15 L_15' u_L_15 => ?_)
      refine SsE rfl (fun R_15 => ?_)
      refine Sc Iff.rfl (fun c3 => ?_) (fun _ => Sn)
      refine SsE rfl (fun R_17 => ?_)
      refine Sa_v rfl ?_
      refine SsE rfl (fun z_23 => ?_)
      refine SsE rfl (fun kd_23 => ?_)
      refine SsJ (ri_nw u_I_15) (fun I_23 I_23' u_I_23 => ?_)
      refine SsM (rl_nw u_L_15) (fun L_23 L_23' u_L_23 => ?_)
      refine SsE rfl (fun R_23 => ?_)
      refine Sc Iff.rfl (fun c4 => ?_) (fun _ => Sn)
      refine SsE rfl (fun R_25 => ?_)
      refine Sa_v rfl ?_
      refine SsE rfl (fun z_31 => ?_)
      refine SsE rfl (fun kd_31 => ?_)
      refine SsJ (ri_nw u_I_23) (fun I_31 I_31' u_I_31 => ?_)
      refine SsM (rl_nw u_L_23) (fun L_31 L_31' u_L_31 => ?_)
      refine SsE rfl (fun R_31 => ?_)
      refine Sc Iff.rfl (fun c5 => ?_) (fun _ => Sn)
      refine SsE rfl (fun R_33 => ?_)
      refine Sa_v rfl ?_
      refine SsE rfl (fun z_39 => ?_)
      refine SsE rfl (fun kd_39 => ?_)
      refine SsJ (ri_nw u_I_31) (fun I_39 I_39' u_I_39 => ?_)
      refine SsM (rl_nw u_L_31) (fun L_39 L_39' u_L_39 => ?_)
      refine SsE rfl (fun R_39 => ?_)
      refine Sc Iff.rfl (fun c6 => ?_) (fun _ => Sn)
      refine SsE rfl (fun R_41 => ?_)
      refine Sa_v rfl ?_
      refine SsE rfl (fun z_47 => ?_)
      refine SsE rfl (fun kd_47 => ?_)
      refine SsJ (ri_nw u_I_39) (fun I_47 I_47' u_I_47 => ?_)
      refine SsM (rl_nw u_L_39) (fun L_47 L_47' u_L_47 => ?_)
      refine SsE rfl (fun R_47 => ?_)
      refine Sc Iff.rfl (fun c7 => ?_) (fun _ => Sn)
      refine SsE rfl (fun R_49 => ?_)
      refine Sa_v rfl ?_
      refine SsE rfl (fun z_54 => ?_)
      refine SsE rfl (fun kd_54 => ?_)
      refine SsJ (ri_nw u_I_47) (fun I_54 I_54' u_I_54 => ?_)
      refine SsM (rl_nw u_L_47) (fun L_54 L_54' u_L_54 => ?_)
      refine SsE rfl (fun R_54 => ?_)
      refine Sc Iff.rfl (fun c8 => ?_) (fun _ => Sn)
      refine SsE rfl (fun R_56 => ?_)
      refine Sc Iff.rfl (fun c9 => ?_) (fun _ => Sn)
      refine SsJ (ri_up u_I_54 (rfl : ((10 : Nat) : Int) = 10) (rfl : Ui (0) (0))) (fun I_61 I_61' u_I_61 => ?_)
      refine Sc Iff.rfl (fun c10 => ?_) (fun _ => Sn)
      refine SsJ (ri_up u_I_61 (rfl : ((11 : Nat) : Int) = 11) (rfl : Ui (0) (0))) (fun I_66 I_66' u_I_66 => ?_)
      refine Sc Iff.rfl (fun c11 => ?_) (fun _ => Sn)
      refine SsJ (ri_up u_I_66 (rfl : ((12 : Nat) : Int) = 12) (rfl : Ui (-1) (-1))) (fun I_71 I_71' u_I_71 => ?_)
      refine Sc Iff.rfl (fun c12 => ?_) (fun _ => Sn)
      refine SsJ (ri_up u_I_71 (rfl : ((13 : Nat) : Int) = 13) (rfl : Ui (0) (0))) (fun I_76 I_76' u_I_76 => ?_)
      refine Sc Iff.rfl (fun c13 => ?_) (fun _ => Sn)
      refine SsJ (ri_up u_I_76 (rfl : ((14 : Nat) : Int) = 14) (rfl : Ui (0) (0))) (fun I_81 I_81' u_I_81 => ?_)
      refine Sc Iff.rfl (fun c14 => ?_) (fun _ => Sn)
      refine SsJ (ri_up u_I_81 (rfl : ((15 : Nat) : Int) = 15) (rfl : Ui (1) (1))) (fun I_86 I_86' u_I_86 => ?_)
      refine Sc Iff.rfl (fun c15 => ?_) (fun _ => Sn)
      refine SsJ (ri_up u_I_86 (rfl : ((16 : Nat) : Int) = 16) (rfl : Ui (1) (1))) (fun I_91 I_91' u_I_91 => ?_)
      refine Sc Iff.rfl (fun c16 => ?_) (fun _ => Sn)
      refine SsE rfl (fun R_96 => ?_)
      refine Sc Iff.rfl (fun c17 => ?_) (fun _ => Sn)
      refine SsE rfl (fun R_101 => ?_)
      refine Sc Iff.rfl (fun c18 => ?_) (fun _ => Sn)
      refine SsE rfl (fun R_106 => ?_)
      exact Sr ⟨⟨rfl, rfl, u_I_91, u_L_54, rfl⟩, rfl⟩
    exact Sn
set_option maxHeartbeats 4000000 in
set_option maxRecDepth 100000 in
def kf_10 : Nat → Nat → Nat → Nat → (Nat → Nat × Nat) → JI → JI → (Nat → Nat → Option Nat) → Nat → Nat → Option (PSi × Nat × Nat)
  | 0, _, _, _, _, _, _, _, _, _ => none
  | n + 1, dp, lab, z, kd, I, L, R, a0, a1 =>
    if lab = 0 then (if 1 ≤ dp then (adk 1 16 (stI (z + 1) (fun z_7 => (stI (va_up kd z (13, 16)) (fun kd_7 => (stI (nw2 I z) (fun I_7 => (stI (nw2 L z) (fun L_7 => (stI (va_up R z (fun _ => none)) (fun R_7 => (if (a0 < z_7) ∧ ((kd_7 a0).1 = 5) then (stI (u2 R_7 a0 1 (some z)) (fun R_9 => (adk 1 256 (stI (z_7 + 1) (fun z_16 => (stI (va_up kd_7 z_7 (13, 256)) (fun kd_16 => (stI (nw2 I_7 z_7) (fun I_16 => (stI (nw2 L_7 z_7) (fun L_16 => (stI (va_up R_9 z_7 (fun _ => none)) (fun R_16 => (if (a0 < z_16) ∧ ((kd_16 a0).1 = 5) then (stI (u2 R_16 a0 2 (some z_7)) (fun R_18 => (adk 1 256 (stI (z_16 + 1) (fun z_25 => (stI (va_up kd_16 z_16 (13, 256)) (fun kd_25 => (stI (nw2 I_16 z_16) (fun I_25 => (stI (nw2 L_16 z_16) (fun L_25 => (stI (va_up R_18 z_16 (fun _ => none)) (fun R_25 => (if (a0 < z_25) ∧ ((kd_25 a0).1 = 5) then (stI (u2 R_25 a0 3 (some z_16)) (fun R_27 => (adk 1 256 (stI (z_25 + 1) (fun z_34 => (stI (va_up kd_25 z_25 (13, 256)) (fun kd_34 => (stI (nw2 I_25 z_25) (fun I_34 => (stI (nw2 L_25 z_25) (fun L_34 => (stI (va_up R_27 z_25 (fun _ => none)) (fun R_34 => (if (a0 < z_34) ∧ ((kd_34 a0).1 = 5) then (stI (u2 R_34 a0 4 (some z_25)) (fun R_36 => (adk 1 256 (stI (z_34 + 1) (fun z_43 => (stI (va_up kd_34 z_34 (13, 256)) (fun kd_43 => (stI (nw2 I_34 z_34) (fun I_43 => (stI (nw2 L_34 z_34) (fun L_43 => (stI (va_up R_36 z_34 (fun _ => none)) (fun R_43 => (if (a0 < z_43) ∧ ((kd_43 a0).1 = 5) then (stI (u2 R_43 a0 5 (some z_34)) (fun R_45 => (if (a0 < z_43) ∧ ((kd_43 a0).1 = 5) then (stI (w2 I_43 a0 6 0) (fun I_50 => (if (a0 < z_43) ∧ ((kd_43 a0).1 = 5) then (stI (w2 I_50 a0 7 0) (fun I_55 => (if (a0 < z_43) ∧ ((kd_43 a0).1 = 5) then (stI (w2 I_55 a0 8 (-1)) (fun I_60 => (if (a0 < z_43) ∧ ((kd_43 a0).1 = 5) then (stI (w2 I_60 a0 9 (-1)) (fun I_65 => (if (a0 < z_43) ∧ ((kd_43 a0).1 = 5) then (stI (w2 I_65 a0 10 (-1)) (fun I_70 => (if (a0 < z_43) ∧ ((kd_43 a0).1 = 5) then (stI (w2 I_70 a0 11 1) (fun I_75 => (if (a0 < z_43) ∧ ((kd_43 a0).1 = 5) then (stI (w2 I_75 a0 12 0) (fun I_80 => (if (a0 < z_43) ∧ ((kd_43 a0).1 = 5) then (stI (w2 I_80 a0 13 0) (fun I_85 => (if (a0 < z_43) ∧ ((kd_43 a0).1 = 5) then (stI (w2 I_85 a0 14 0) (fun I_90 => (if (a0 < z_43) ∧ ((kd_43 a0).1 = 5) then (stI (u2 R_45 a0 0 (some a1)) (fun R_95 => (some ((z_43, kd_43, I_90, L_43, R_95), 0, 0)))) else none))) else none))) else none))) else none))) else none))) else none))) else none))) else none))) else none))) else none))) else none)))))))))))))) else none)))))))))))))) else none)))))))))))))) else none)))))))))))))) else none)))))))))))) else none)
    else none
set_option maxRecDepth 100000 in
theorem ke_10_0 (n : Nat) (dp : Nat) (z : Nat) (kd : (Nat → Nat × Nat)) (I : JI) (L : JI) (R : (Nat → Nat → Option Nat)) (a0 : Nat) (a1 : Nat) : kf_10 (n + 1) dp 0 z kd I L R a0 a1 = (if 1 ≤ dp then (adk 1 16 (stI (z + 1) (fun z_7 => (stI (va_up kd z (13, 16)) (fun kd_7 => (stI (nw2 I z) (fun I_7 => (stI (nw2 L z) (fun L_7 => (stI (va_up R z (fun _ => none)) (fun R_7 => (if (a0 < z_7) ∧ ((kd_7 a0).1 = 5) then (stI (u2 R_7 a0 1 (some z)) (fun R_9 => (adk 1 256 (stI (z_7 + 1) (fun z_16 => (stI (va_up kd_7 z_7 (13, 256)) (fun kd_16 => (stI (nw2 I_7 z_7) (fun I_16 => (stI (nw2 L_7 z_7) (fun L_16 => (stI (va_up R_9 z_7 (fun _ => none)) (fun R_16 => (if (a0 < z_16) ∧ ((kd_16 a0).1 = 5) then (stI (u2 R_16 a0 2 (some z_7)) (fun R_18 => (adk 1 256 (stI (z_16 + 1) (fun z_25 => (stI (va_up kd_16 z_16 (13, 256)) (fun kd_25 => (stI (nw2 I_16 z_16) (fun I_25 => (stI (nw2 L_16 z_16) (fun L_25 => (stI (va_up R_18 z_16 (fun _ => none)) (fun R_25 => (if (a0 < z_25) ∧ ((kd_25 a0).1 = 5) then (stI (u2 R_25 a0 3 (some z_16)) (fun R_27 => (adk 1 256 (stI (z_25 + 1) (fun z_34 => (stI (va_up kd_25 z_25 (13, 256)) (fun kd_34 => (stI (nw2 I_25 z_25) (fun I_34 => (stI (nw2 L_25 z_25) (fun L_34 => (stI (va_up R_27 z_25 (fun _ => none)) (fun R_34 => (if (a0 < z_34) ∧ ((kd_34 a0).1 = 5) then (stI (u2 R_34 a0 4 (some z_25)) (fun R_36 => (adk 1 256 (stI (z_34 + 1) (fun z_43 => (stI (va_up kd_34 z_34 (13, 256)) (fun kd_43 => (stI (nw2 I_34 z_34) (fun I_43 => (stI (nw2 L_34 z_34) (fun L_43 => (stI (va_up R_36 z_34 (fun _ => none)) (fun R_43 => (if (a0 < z_43) ∧ ((kd_43 a0).1 = 5) then (stI (u2 R_43 a0 5 (some z_34)) (fun R_45 => (if (a0 < z_43) ∧ ((kd_43 a0).1 = 5) then (stI (w2 I_43 a0 6 0) (fun I_50 => (if (a0 < z_43) ∧ ((kd_43 a0).1 = 5) then (stI (w2 I_50 a0 7 0) (fun I_55 => (if (a0 < z_43) ∧ ((kd_43 a0).1 = 5) then (stI (w2 I_55 a0 8 (-1)) (fun I_60 => (if (a0 < z_43) ∧ ((kd_43 a0).1 = 5) then (stI (w2 I_60 a0 9 (-1)) (fun I_65 => (if (a0 < z_43) ∧ ((kd_43 a0).1 = 5) then (stI (w2 I_65 a0 10 (-1)) (fun I_70 => (if (a0 < z_43) ∧ ((kd_43 a0).1 = 5) then (stI (w2 I_70 a0 11 1) (fun I_75 => (if (a0 < z_43) ∧ ((kd_43 a0).1 = 5) then (stI (w2 I_75 a0 12 0) (fun I_80 => (if (a0 < z_43) ∧ ((kd_43 a0).1 = 5) then (stI (w2 I_80 a0 13 0) (fun I_85 => (if (a0 < z_43) ∧ ((kd_43 a0).1 = 5) then (stI (w2 I_85 a0 14 0) (fun I_90 => (if (a0 < z_43) ∧ ((kd_43 a0).1 = 5) then (stI (u2 R_45 a0 0 (some a1)) (fun R_95 => (some ((z_43, kd_43, I_90, L_43, R_95), 0, 0)))) else none))) else none))) else none))) else none))) else none))) else none))) else none))) else none))) else none))) else none))) else none)))))))))))))) else none)))))))))))))) else none)))))))))))))) else none)))))))))))))) else none)))))))))))) else none) := by rw [kf_10.eq_2, if_pos (show (0 : Nat) = 0 from rfl)]
set_option maxHeartbeats 8000000 in
set_option maxRecDepth 100000 in
theorem ks_10 : ∀ (n : Nat) (dp : Nat) (lab : Nat) (z : Nat) (kd : (Nat → Nat × Nat)) (I : Nat → Nat → Int32) (I' : JI) (L : Nat → Nat → Int64) (L' : JI) (R : (Nat → Nat → Option Nat)) (a0 : Nat) (a1 : Nat), Rli I I' → Rll L L' → Sim RPv (g_10 n dp lab z kd I L R a0 a1) (kf_10 n dp lab z kd I' L' R a0 a1) := by
  intro n
  induction n with
  | zero => intros; rw [kf_10.eq_1]; exact Sn
  | succ n ih =>
    intro dp lab z kd I I' L L' R a0 a1 u_I u_L
    rw [g_10.eq_2, kf_10.eq_2]
    refine Sc Iff.rfl (fun _ => ?_) (fun _ => ?_)
    · refine Sc Iff.rfl (fun c1 => ?_) (fun _ => Sn)
      refine Sa_v rfl ?_
      refine SsE rfl (fun z_7 => ?_)
      refine SsE rfl (fun kd_7 => ?_)
      refine SsJ (ri_nw u_I) (fun I_7 I_7' u_I_7 => ?_)
      refine SsM (rl_nw u_L) (fun L_7 L_7' u_L_7 => ?_)
      refine SsE rfl (fun R_7 => ?_)
      refine Sc Iff.rfl (fun c2 => ?_) (fun _ => Sn)
      refine SsE rfl (fun R_9 => ?_)
      refine Sa_v rfl ?_
      refine SsE rfl (fun z_16 => ?_)
      refine SsE rfl (fun kd_16 => ?_)
      refine SsJ (ri_nw u_I_7) (fun I_16 I_16' u_I_16 => ?_)
      refine SsM (rl_nw u_L_7) (fun L_16 L_16' u_L_16 => ?_)
      refine SsE rfl (fun R_16 => ?_)
      refine Sc Iff.rfl (fun c3 => ?_) (fun _ => Sn)
      refine SsE rfl (fun R_18 => ?_)
      refine Sa_v rfl ?_
      refine SsE rfl (fun z_25 => ?_)
      refine SsE rfl (fun kd_25 => ?_)
      refine SsJ (ri_nw u_I_16) (fun I_25 I_25' u_I_25 => ?_)
      refine SsM (rl_nw u_L_16) (fun L_25 L_25' u_L_25 => ?_)
      refine SsE rfl (fun R_25 => ?_)
      refine Sc Iff.rfl (fun c4 => ?_) (fun _ => Sn)
      refine SsE rfl (fun R_27 => ?_)
      refine Sa_v rfl ?_
      refine SsE rfl (fun z_34 => ?_)
      refine SsE rfl (fun kd_34 => ?_)
      refine SsJ (ri_nw u_I_25) (fun I_34 I_34' u_I_34 => ?_)
      refine SsM (rl_nw u_L_25) (fun L_34 L_34' u_L_34 => ?_)
      refine SsE rfl (fun R_34 => ?_)
      refine Sc Iff.rfl (fun c5 => ?_) (fun _ => Sn)
      refine SsE rfl (fun R_36 => ?_)
      refine Sa_v rfl ?_
      refine SsE rfl (fun z_43 => ?_)
      refine SsE rfl (fun kd_43 => ?_)
      refine SsJ (ri_nw u_I_34) (fun I_43 I_43' u_I_43 => ?_)
      refine SsM (rl_nw u_L_34) (fun L_43 L_43' u_L_43 => ?_)
      refine SsE rfl (fun R_43 => ?_)
      refine Sc Iff.rfl (fun c6 => ?_) (fun _ => Sn)
      refine SsE rfl (fun R_45 => ?_)
      refine Sc Iff.rfl (fun c7 => ?_) (fun _ => Sn)
      refine SsJ (ri_up u_I_43 (rfl : ((6 : Nat) : Int) = 6) (rfl : Ui (0) (0))) (fun I_50 I_50' u_I_50 => ?_)
      refine Sc Iff.rfl (fun c8 => ?_) (fun _ => Sn)
      refine SsJ (ri_up u_I_50 (rfl : ((7 : Nat) : Int) = 7) (rfl : Ui (0) (0))) (fun I_55 I_55' u_I_55 => ?_)
      refine Sc Iff.rfl (fun c9 => ?_) (fun _ => Sn)
      refine SsJ (ri_up u_I_55 (rfl : ((8 : Nat) : Int) = 8) (rfl : Ui (-1) (-1))) (fun I_60 I_60' u_I_60 => ?_)
      refine Sc Iff.rfl (fun c10 => ?_) (fun _ => Sn)
      refine SsJ (ri_up u_I_60 (rfl : ((9 : Nat) : Int) = 9) (rfl : Ui (-1) (-1))) (fun I_65 I_65' u_I_65 => ?_)
      refine Sc Iff.rfl (fun c11 => ?_) (fun _ => Sn)
      refine SsJ (ri_up u_I_65 (rfl : ((10 : Nat) : Int) = 10) (rfl : Ui (-1) (-1))) (fun I_70 I_70' u_I_70 => ?_)
      refine Sc Iff.rfl (fun c12 => ?_) (fun _ => Sn)
      refine SsJ (ri_up u_I_70 (rfl : ((11 : Nat) : Int) = 11) (rfl : Ui (1) (1))) (fun I_75 I_75' u_I_75 => ?_)
      refine Sc Iff.rfl (fun c13 => ?_) (fun _ => Sn)
      refine SsJ (ri_up u_I_75 (rfl : ((12 : Nat) : Int) = 12) (rfl : Ui (0) (0))) (fun I_80 I_80' u_I_80 => ?_)
      refine Sc Iff.rfl (fun c14 => ?_) (fun _ => Sn)
      refine SsJ (ri_up u_I_80 (rfl : ((13 : Nat) : Int) = 13) (rfl : Ui (0) (0))) (fun I_85 I_85' u_I_85 => ?_)
      refine Sc Iff.rfl (fun c15 => ?_) (fun _ => Sn)
      refine SsJ (ri_up u_I_85 (rfl : ((14 : Nat) : Int) = 14) (rfl : Ui (0) (0))) (fun I_90 I_90' u_I_90 => ?_)
      refine Sc Iff.rfl (fun c16 => ?_) (fun _ => Sn)
      refine SsE rfl (fun R_95 => ?_)
      exact Sr ⟨⟨rfl, rfl, u_I_90, u_L_43, rfl⟩, rfl⟩
    exact Sn
set_option maxHeartbeats 4000000 in
set_option maxRecDepth 100000 in
def kf_11 : Nat → Nat → Nat → Nat → (Nat → Nat × Nat) → JI → JI → (Nat → Nat → Option Nat) → Nat → Nat → Option (PSi × Nat × Nat)
  | 0, _, _, _, _, _, _, _, _, _ => none
  | n + 1, dp, lab, z, kd, I, L, R, a0, a1 =>
    if lab = 0 then (if 1 ≤ dp then (adk 1 16 (stI (z + 1) (fun z_7 => (stI (va_up kd z (13, 16)) (fun kd_7 => (stI (nw2 I z) (fun I_7 => (stI (nw2 L z) (fun L_7 => (stI (va_up R z (fun _ => none)) (fun R_7 => (if (a0 < z_7) ∧ ((kd_7 a0).1 = 9) then (stI (u2 R_7 a0 1 (some z)) (fun R_9 => (if (a0 < z_7) ∧ ((kd_7 a0).1 = 9) then (stI (u2 R_9 a0 0 (some a1)) (fun R_14 => (some ((z_7, kd_7, I_7, L_7, R_14), 0, 0)))) else none))) else none)))))))))))) else none)
    else none
set_option maxRecDepth 100000 in
theorem ke_11_0 (n : Nat) (dp : Nat) (z : Nat) (kd : (Nat → Nat × Nat)) (I : JI) (L : JI) (R : (Nat → Nat → Option Nat)) (a0 : Nat) (a1 : Nat) : kf_11 (n + 1) dp 0 z kd I L R a0 a1 = (if 1 ≤ dp then (adk 1 16 (stI (z + 1) (fun z_7 => (stI (va_up kd z (13, 16)) (fun kd_7 => (stI (nw2 I z) (fun I_7 => (stI (nw2 L z) (fun L_7 => (stI (va_up R z (fun _ => none)) (fun R_7 => (if (a0 < z_7) ∧ ((kd_7 a0).1 = 9) then (stI (u2 R_7 a0 1 (some z)) (fun R_9 => (if (a0 < z_7) ∧ ((kd_7 a0).1 = 9) then (stI (u2 R_9 a0 0 (some a1)) (fun R_14 => (some ((z_7, kd_7, I_7, L_7, R_14), 0, 0)))) else none))) else none)))))))))))) else none) := by rw [kf_11.eq_2, if_pos (show (0 : Nat) = 0 from rfl)]
set_option maxHeartbeats 8000000 in
set_option maxRecDepth 100000 in
theorem ks_11 : ∀ (n : Nat) (dp : Nat) (lab : Nat) (z : Nat) (kd : (Nat → Nat × Nat)) (I : Nat → Nat → Int32) (I' : JI) (L : Nat → Nat → Int64) (L' : JI) (R : (Nat → Nat → Option Nat)) (a0 : Nat) (a1 : Nat), Rli I I' → Rll L L' → Sim RPv (g_11 n dp lab z kd I L R a0 a1) (kf_11 n dp lab z kd I' L' R a0 a1) := by
  intro n
  induction n with
  | zero => intros; rw [kf_11.eq_1]; exact Sn
  | succ n ih =>
    intro dp lab z kd I I' L L' R a0 a1 u_I u_L
    rw [g_11.eq_2, kf_11.eq_2]
    refine Sc Iff.rfl (fun _ => ?_) (fun _ => ?_)
    · refine Sc Iff.rfl (fun c1 => ?_) (fun _ => Sn)
      refine Sa_v rfl ?_
      refine SsE rfl (fun z_7 => ?_)
      refine SsE rfl (fun kd_7 => ?_)
      refine SsJ (ri_nw u_I) (fun I_7 I_7' u_I_7 => ?_)
      refine SsM (rl_nw u_L) (fun L_7 L_7' u_L_7 => ?_)
      refine SsE rfl (fun R_7 => ?_)
      refine Sc Iff.rfl (fun c2 => ?_) (fun _ => Sn)
      refine SsE rfl (fun R_9 => ?_)
      refine Sc Iff.rfl (fun c3 => ?_) (fun _ => Sn)
      refine SsE rfl (fun R_14 => ?_)
      exact Sr ⟨⟨rfl, rfl, u_I_7, u_L_7, rfl⟩, rfl⟩
    exact Sn
set_option maxHeartbeats 4000000 in
set_option maxRecDepth 100000 in
def kf_12 : Nat → Nat → Nat → Nat → (Nat → Nat × Nat) → JI → JI → (Nat → Nat → Option Nat) → Nat → Nat → Nat → Option (PSi × Nat × Nat)
  | 0, _, _, _, _, _, _, _, _, _, _ => none
  | n + 1, dp, lab, z, kd, I, L, R, a0, a1, a2 =>
    if lab = 0 then (if 1 ≤ dp then (if (a0 < z) ∧ ((kd a0).1 = 8) then (stI (w2 I a0 2 0) (fun I_6 => (if (a0 < z) ∧ ((kd a0).1 = 8) then (stI (w2 I_6 a0 3 0) (fun I_11 => (if (a0 < z) ∧ ((kd a0).1 = 8) then (stI (w2 I_11 a0 4 0) (fun I_16 => (if (a0 < z) ∧ ((kd a0).1 = 8) then (stI (w2 I_16 a0 5 0) (fun I_21 => (if (a0 < z) ∧ ((kd a0).1 = 8) then (stI (w2 I_21 a0 6 0) (fun I_26 => (if (a0 < z) ∧ ((kd a0).1 = 8) then (stI (w2 I_26 a0 7 0) (fun I_31 => (if (a0 < z) ∧ ((kd a0).1 = 8) then (stI (u2 R a0 1 (some a1)) (fun R_36 => (if (a0 < z) ∧ ((kd a0).1 = 8) then (stI (u2 R_36 a0 0 (some a2)) (fun R_41 => (some ((z, kd, I_31, L, R_41), 0, 0)))) else none))) else none))) else none))) else none))) else none))) else none))) else none))) else none) else none)
    else none
set_option maxRecDepth 100000 in
theorem ke_12_0 (n : Nat) (dp : Nat) (z : Nat) (kd : (Nat → Nat × Nat)) (I : JI) (L : JI) (R : (Nat → Nat → Option Nat)) (a0 : Nat) (a1 : Nat) (a2 : Nat) : kf_12 (n + 1) dp 0 z kd I L R a0 a1 a2 = (if 1 ≤ dp then (if (a0 < z) ∧ ((kd a0).1 = 8) then (stI (w2 I a0 2 0) (fun I_6 => (if (a0 < z) ∧ ((kd a0).1 = 8) then (stI (w2 I_6 a0 3 0) (fun I_11 => (if (a0 < z) ∧ ((kd a0).1 = 8) then (stI (w2 I_11 a0 4 0) (fun I_16 => (if (a0 < z) ∧ ((kd a0).1 = 8) then (stI (w2 I_16 a0 5 0) (fun I_21 => (if (a0 < z) ∧ ((kd a0).1 = 8) then (stI (w2 I_21 a0 6 0) (fun I_26 => (if (a0 < z) ∧ ((kd a0).1 = 8) then (stI (w2 I_26 a0 7 0) (fun I_31 => (if (a0 < z) ∧ ((kd a0).1 = 8) then (stI (u2 R a0 1 (some a1)) (fun R_36 => (if (a0 < z) ∧ ((kd a0).1 = 8) then (stI (u2 R_36 a0 0 (some a2)) (fun R_41 => (some ((z, kd, I_31, L, R_41), 0, 0)))) else none))) else none))) else none))) else none))) else none))) else none))) else none))) else none) else none) := by rw [kf_12.eq_2, if_pos (show (0 : Nat) = 0 from rfl)]
set_option maxHeartbeats 8000000 in
set_option maxRecDepth 100000 in
theorem ks_12 : ∀ (n : Nat) (dp : Nat) (lab : Nat) (z : Nat) (kd : (Nat → Nat × Nat)) (I : Nat → Nat → Int32) (I' : JI) (L : Nat → Nat → Int64) (L' : JI) (R : (Nat → Nat → Option Nat)) (a0 : Nat) (a1 : Nat) (a2 : Nat), Rli I I' → Rll L L' → Sim RPv (g_12 n dp lab z kd I L R a0 a1 a2) (kf_12 n dp lab z kd I' L' R a0 a1 a2) := by
  intro n
  induction n with
  | zero => intros; rw [kf_12.eq_1]; exact Sn
  | succ n ih =>
    intro dp lab z kd I I' L L' R a0 a1 a2 u_I u_L
    rw [g_12.eq_2, kf_12.eq_2]
    refine Sc Iff.rfl (fun _ => ?_) (fun _ => ?_)
    · refine Sc Iff.rfl (fun c1 => ?_) (fun _ => Sn)
      refine Sc Iff.rfl (fun c2 => ?_) (fun _ => Sn)
      refine SsJ (ri_up u_I (rfl : ((2 : Nat) : Int) = 2) (rfl : Ui (0) (0))) (fun I_6 I_6' u_I_6 => ?_)
      refine Sc Iff.rfl (fun c3 => ?_) (fun _ => Sn)
      refine SsJ (ri_up u_I_6 (rfl : ((3 : Nat) : Int) = 3) (rfl : Ui (0) (0))) (fun I_11 I_11' u_I_11 => ?_)
      refine Sc Iff.rfl (fun c4 => ?_) (fun _ => Sn)
      refine SsJ (ri_up u_I_11 (rfl : ((4 : Nat) : Int) = 4) (rfl : Ui (0) (0))) (fun I_16 I_16' u_I_16 => ?_)
      refine Sc Iff.rfl (fun c5 => ?_) (fun _ => Sn)
      refine SsJ (ri_up u_I_16 (rfl : ((5 : Nat) : Int) = 5) (rfl : Ui (0) (0))) (fun I_21 I_21' u_I_21 => ?_)
      refine Sc Iff.rfl (fun c6 => ?_) (fun _ => Sn)
      refine SsJ (ri_up u_I_21 (rfl : ((6 : Nat) : Int) = 6) (rfl : Ui (0) (0))) (fun I_26 I_26' u_I_26 => ?_)
      refine Sc Iff.rfl (fun c7 => ?_) (fun _ => Sn)
      refine SsJ (ri_up u_I_26 (rfl : ((7 : Nat) : Int) = 7) (rfl : Ui (0) (0))) (fun I_31 I_31' u_I_31 => ?_)
      refine Sc Iff.rfl (fun c8 => ?_) (fun _ => Sn)
      refine SsE rfl (fun R_36 => ?_)
      refine Sc Iff.rfl (fun c9 => ?_) (fun _ => Sn)
      refine SsE rfl (fun R_41 => ?_)
      exact Sr ⟨⟨rfl, rfl, u_I_31, u_L, rfl⟩, rfl⟩
    exact Sn
set_option maxHeartbeats 4000000 in
set_option maxRecDepth 100000 in
def kf_0 : Nat → Nat → Nat → Nat → (Nat → Nat × Nat) → JI → JI → (Nat → Nat → Option Nat) → Nat → Option (PSi × Nat × Nat)
  | 0, _, _, _, _, _, _, _, _ => none
  | n + 1, dp, lab, z, kd, I, L, R, a0 =>
    if lab = 0 then (if 1 ≤ dp then (adk 1 (clN 3).2.2 (stI (z + 1) (fun z_5 => (stI (va_up kd z (3, 0)) (fun kd_5 => (stI (nw2 I z) (fun I_5 => (stI (nw2 L z) (fun L_5 => (stI (va_up R z (fun _ => none)) (fun R_5 => (if 1 ≤ dp then (if (z < z_5) ∧ ((kd_5 z).1 = 3) then ((kf_2 n (dp - 1) 0 z_5 kd_5 I_5 L_5 R_5 z).bind (fun ⟨⟨z_9, kd_9, I_9, L_9, R_9⟩, ck_9, cm_9⟩ => (adk ck_9 cm_9 (if (a0 < z_9) ∧ ((kd_9 a0).1 = 11) then (stI (u2 R_9 a0 0 (some z)) (fun R_12 => (adk 1 2 (stI (z_9 + 1) (fun z_17 => (stI (va_up kd_9 z_9 (17, 2)) (fun kd_17 => (stI (nw2 I_9 z_9) (fun I_17 => (stI (nw2 L_9 z_9) (fun L_17 => (stI (va_up R_12 z_9 (fun _ => none)) (fun R_17 => (if (a0 < z_17) ∧ ((kd_17 a0).1 = 11) then (stI (u2 R_17 a0 1 (some z_9)) (fun R_20 => (adk 1 (clN 0).2.2 (stI (z_17 + 1) (fun z_24 => (stI (va_up kd_17 z_17 (0, 0)) (fun kd_24 => (stI (nw2 I_17 z_17) (fun I_24 => (stI (nw2 L_17 z_17) (fun L_24 => (stI (va_up R_20 z_17 (fun _ => none)) (fun R_24 => (if (a0 < z_24) ∧ ((kd_24 a0).1 = 11) then ((R_24 a0 0).bind (fun b_29 => (if 1 ≤ dp then (if (z_17 < z_24) ∧ ((kd_24 z_17).1 = 0) then ((kf_4 n (dp - 1) 0 z_24 kd_24 I_24 L_24 R_24 z_17 b_29).bind (fun ⟨⟨z_32, kd_32, I_32, L_32, R_32⟩, ck_32, cm_32⟩ => (adk ck_32 cm_32 (if (a0 < z_32) ∧ ((kd_32 a0).1 = 11) then (stI (u2 R_32 a0 2 (some z_17)) (fun R_35 => (adk 1 (clN 7).2.2 (stI (z_32 + 1) (fun z_39 => (stI (va_up kd_32 z_32 (7, 0)) (fun kd_39 => (stI (nw2 I_32 z_32) (fun I_39 => (stI (nw2 L_32 z_32) (fun L_39 => (stI (va_up R_35 z_32 (fun _ => none)) (fun R_39 => (if (a0 < z_39) ∧ ((kd_39 a0).1 = 11) then ((R_39 a0 0).bind (fun b_44 => (if (a0 < z_39) ∧ ((kd_39 a0).1 = 11) then ((R_39 a0 2).bind (fun b_48 => (if 1 ≤ dp then (if (z_32 < z_39) ∧ ((kd_39 z_32).1 = 7) then ((kf_5 n (dp - 1) 0 z_39 kd_39 I_39 L_39 R_39 0 z_32 b_44 b_48).bind (fun ⟨⟨z_51, kd_51, I_51, L_51, R_51⟩, ck_51, cm_51⟩ => (adk ck_51 cm_51 (if (a0 < z_51) ∧ ((kd_51 a0).1 = 11) then (stI (u2 R_51 a0 3 (some z_32)) (fun R_54 => (adk 1 (clN 1).2.2 (stI (z_51 + 1) (fun z_58 => (stI (va_up kd_51 z_51 (1, 0)) (fun kd_58 => (stI (nw2 I_51 z_51) (fun I_58 => (stI (nw2 L_51 z_51) (fun L_58 => (stI (va_up R_54 z_51 (fun _ => none)) (fun R_58 => (if (a0 < z_58) ∧ ((kd_58 a0).1 = 11) then ((R_58 a0 0).bind (fun b_63 => (if (a0 < z_58) ∧ ((kd_58 a0).1 = 11) then ((R_58 a0 2).bind (fun b_67 => (if (a0 < z_58) ∧ ((kd_58 a0).1 = 11) then ((R_58 a0 3).bind (fun b_71 => (if 1 ≤ dp then (if (z_51 < z_58) ∧ ((kd_58 z_51).1 = 1) then ((kf_9 n (dp - 1) 0 z_58 kd_58 I_58 L_58 R_58 z_51 b_63 b_67 b_71).bind (fun ⟨⟨z_74, kd_74, I_74, L_74, R_74⟩, ck_74, cm_74⟩ => (adk ck_74 cm_74 (if (a0 < z_74) ∧ ((kd_74 a0).1 = 11) then (stI (u2 R_74 a0 4 (some z_51)) (fun R_77 => (adk 1 (clN 5).2.2 (stI (z_74 + 1) (fun z_81 => (stI (va_up kd_74 z_74 (5, 0)) (fun kd_81 => (stI (nw2 I_74 z_74) (fun I_81 => (stI (nw2 L_74 z_74) (fun L_81 => (stI (va_up R_77 z_74 (fun _ => none)) (fun R_81 => (if (a0 < z_81) ∧ ((kd_81 a0).1 = 11) then ((R_81 a0 0).bind (fun b_86 => (if 1 ≤ dp then (if (z_74 < z_81) ∧ ((kd_81 z_74).1 = 5) then ((kf_10 n (dp - 1) 0 z_81 kd_81 I_81 L_81 R_81 z_74 b_86).bind (fun ⟨⟨z_89, kd_89, I_89, L_89, R_89⟩, ck_89, cm_89⟩ => (adk ck_89 cm_89 (if (a0 < z_89) ∧ ((kd_89 a0).1 = 11) then (stI (u2 R_89 a0 5 (some z_74)) (fun R_92 => (adk 1 (clN 9).2.2 (stI (z_89 + 1) (fun z_96 => (stI (va_up kd_89 z_89 (9, 0)) (fun kd_96 => (stI (nw2 I_89 z_89) (fun I_96 => (stI (nw2 L_89 z_89) (fun L_96 => (stI (va_up R_92 z_89 (fun _ => none)) (fun R_96 => (if (a0 < z_96) ∧ ((kd_96 a0).1 = 11) then ((R_96 a0 0).bind (fun b_101 => (if 1 ≤ dp then (if (z_89 < z_96) ∧ ((kd_96 z_89).1 = 9) then ((kf_11 n (dp - 1) 0 z_96 kd_96 I_96 L_96 R_96 z_89 b_101).bind (fun ⟨⟨z_104, kd_104, I_104, L_104, R_104⟩, ck_104, cm_104⟩ => (adk ck_104 cm_104 (if (a0 < z_104) ∧ ((kd_104 a0).1 = 11) then (stI (u2 R_104 a0 6 (some z_89)) (fun R_107 => (adk 1 400 (stI (z_104 + 1) (fun z_114 => (stI (va_up kd_104 z_104 (13, 400)) (fun kd_114 => (stI (nw2 I_104 z_104) (fun I_114 => (stI (nw2 L_104 z_104) (fun L_114 => (stI (va_up R_107 z_104 (fun _ => none)) (fun R_114 => (if (a0 < z_114) ∧ ((kd_114 a0).1 = 11) then (stI (u2 R_114 a0 7 (some z_104)) (fun R_116 => (adk 1 15 (stI (z_114 + 1) (fun z_122 => (stI (va_up kd_114 z_114 (13, 15)) (fun kd_122 => (stI (nw2 I_114 z_114) (fun I_122 => (stI (nw2 L_114 z_114) (fun L_122 => (stI (va_up R_116 z_114 (fun _ => none)) (fun R_122 => (if (a0 < z_122) ∧ ((kd_122 a0).1 = 11) then (stI (u2 R_122 a0 8 (some z_114)) (fun R_124 => (adk 1 15 (stI (z_122 + 1) (fun z_130 => (stI (va_up kd_122 z_122 (13, 15)) (fun kd_130 => (stI (nw2 I_122 z_122) (fun I_130 => (stI (nw2 L_122 z_122) (fun L_130 => (stI (va_up R_124 z_122 (fun _ => none)) (fun R_130 => (if (a0 < z_130) ∧ ((kd_130 a0).1 = 11) then (stI (u2 R_130 a0 9 (some z_122)) (fun R_132 => (adk 1 5 (stI (z_130 + 1) (fun z_137 => (stI (va_up kd_130 z_130 (13, 5)) (fun kd_137 => (stI (nw2 I_130 z_130) (fun I_137 => (stI (nw2 L_130 z_130) (fun L_137 => (stI (va_up R_132 z_130 (fun _ => none)) (fun R_137 => (if (a0 < z_137) ∧ ((kd_137 a0).1 = 11) then (stI (u2 R_137 a0 10 (some z_130)) (fun R_139 => (adk 1 (clN 10).2.2 (stI (z_137 + 1) (fun z_143 => (stI (va_up kd_137 z_137 (10, 0)) (fun kd_143 => (stI (nw2 I_137 z_137) (fun I_143 => (stI (nw2 L_137 z_137) (fun L_143 => (stI (va_up R_139 z_137 (fun _ => none)) (fun R_143 => (if 1 ≤ dp then (if (z_137 < z_143) ∧ ((kd_143 z_137).1 = 10) then ((kf_3 n (dp - 1) 0 z_143 kd_143 I_143 L_143 R_143 z_137).bind (fun ⟨⟨z_147, kd_147, I_147, L_147, R_147⟩, ck_147, cm_147⟩ => (adk ck_147 cm_147 (if (a0 < z_147) ∧ ((kd_147 a0).1 = 11) then (stI (u2 R_147 a0 11 (some z_137)) (fun R_150 => (adk 1 (clN 8).2.2 (stI (z_147 + 1) (fun z_154 => (stI (va_up kd_147 z_147 (8, 0)) (fun kd_154 => (stI (nw2 I_147 z_147) (fun I_154 => (stI (nw2 L_147 z_147) (fun L_154 => (stI (va_up R_150 z_147 (fun _ => none)) (fun R_154 => (if (a0 < z_154) ∧ ((kd_154 a0).1 = 11) then ((R_154 a0 11).bind (fun b_159 => (if (a0 < z_154) ∧ ((kd_154 a0).1 = 11) then ((R_154 a0 7).bind (fun b_163 => (if 1 ≤ dp then (if (z_147 < z_154) ∧ ((kd_154 z_147).1 = 8) then ((kf_12 n (dp - 1) 0 z_154 kd_154 I_154 L_154 R_154 z_147 b_159 b_163).bind (fun ⟨⟨z_166, kd_166, I_166, L_166, R_166⟩, ck_166, cm_166⟩ => (adk ck_166 cm_166 (if (a0 < z_166) ∧ ((kd_166 a0).1 = 11) then (stI (u2 R_166 a0 12 (some z_147)) (fun R_169 => (if (a0 < z_166) ∧ ((kd_166 a0).1 = 11) then (stI (w2 I_166 a0 13 0) (fun I_174 => (if (a0 < z_166) ∧ ((kd_166 a0).1 = 11) then (stI (w2 I_174 a0 14 0) (fun I_179 => (if (a0 < z_166) ∧ ((kd_166 a0).1 = 11) then (stI (w2 I_179 a0 15 (-1)) (fun I_184 => (if (a0 < z_166) ∧ ((kd_166 a0).1 = 11) then (stI (w2 I_184 a0 16 0) (fun I_189 => (if (a0 < z_166) ∧ ((kd_166 a0).1 = 11) then (stI (w2 I_189 a0 17 0) (fun I_194 => (if (a0 < z_166) ∧ ((kd_166 a0).1 = 11) then (stI (w2 I_194 a0 18 0) (fun I_199 => (some ((z_166, kd_166, I_199, L_166, R_169), 0, 0)))) else none))) else none))) else none))) else none))) else none))) else none))) else none)))) else none) else none))) else none))) else none)))))))))))))) else none)))) else none) else none)))))))))))))) else none)))))))))))))) else none)))))))))))))) else none)))))))))))))) else none)))))))))))))) else none)))) else none) else none))) else none)))))))))))))) else none)))) else none) else none))) else none)))))))))))))) else none)))) else none) else none))) else none))) else none))) else none)))))))))))))) else none)))) else none) else none))) else none))) else none)))))))))))))) else none)))) else none) else none))) else none)))))))))))))) else none)))))))))))))) else none)))) else none) else none)))))))))))) else none)
    else none
set_option maxRecDepth 100000 in
theorem ke_0_0 (n : Nat) (dp : Nat) (z : Nat) (kd : (Nat → Nat × Nat)) (I : JI) (L : JI) (R : (Nat → Nat → Option Nat)) (a0 : Nat) : kf_0 (n + 1) dp 0 z kd I L R a0 = (if 1 ≤ dp then (adk 1 (clN 3).2.2 (stI (z + 1) (fun z_5 => (stI (va_up kd z (3, 0)) (fun kd_5 => (stI (nw2 I z) (fun I_5 => (stI (nw2 L z) (fun L_5 => (stI (va_up R z (fun _ => none)) (fun R_5 => (if 1 ≤ dp then (if (z < z_5) ∧ ((kd_5 z).1 = 3) then ((kf_2 n (dp - 1) 0 z_5 kd_5 I_5 L_5 R_5 z).bind (fun ⟨⟨z_9, kd_9, I_9, L_9, R_9⟩, ck_9, cm_9⟩ => (adk ck_9 cm_9 (if (a0 < z_9) ∧ ((kd_9 a0).1 = 11) then (stI (u2 R_9 a0 0 (some z)) (fun R_12 => (adk 1 2 (stI (z_9 + 1) (fun z_17 => (stI (va_up kd_9 z_9 (17, 2)) (fun kd_17 => (stI (nw2 I_9 z_9) (fun I_17 => (stI (nw2 L_9 z_9) (fun L_17 => (stI (va_up R_12 z_9 (fun _ => none)) (fun R_17 => (if (a0 < z_17) ∧ ((kd_17 a0).1 = 11) then (stI (u2 R_17 a0 1 (some z_9)) (fun R_20 => (adk 1 (clN 0).2.2 (stI (z_17 + 1) (fun z_24 => (stI (va_up kd_17 z_17 (0, 0)) (fun kd_24 => (stI (nw2 I_17 z_17) (fun I_24 => (stI (nw2 L_17 z_17) (fun L_24 => (stI (va_up R_20 z_17 (fun _ => none)) (fun R_24 => (if (a0 < z_24) ∧ ((kd_24 a0).1 = 11) then ((R_24 a0 0).bind (fun b_29 => (if 1 ≤ dp then (if (z_17 < z_24) ∧ ((kd_24 z_17).1 = 0) then ((kf_4 n (dp - 1) 0 z_24 kd_24 I_24 L_24 R_24 z_17 b_29).bind (fun ⟨⟨z_32, kd_32, I_32, L_32, R_32⟩, ck_32, cm_32⟩ => (adk ck_32 cm_32 (if (a0 < z_32) ∧ ((kd_32 a0).1 = 11) then (stI (u2 R_32 a0 2 (some z_17)) (fun R_35 => (adk 1 (clN 7).2.2 (stI (z_32 + 1) (fun z_39 => (stI (va_up kd_32 z_32 (7, 0)) (fun kd_39 => (stI (nw2 I_32 z_32) (fun I_39 => (stI (nw2 L_32 z_32) (fun L_39 => (stI (va_up R_35 z_32 (fun _ => none)) (fun R_39 => (if (a0 < z_39) ∧ ((kd_39 a0).1 = 11) then ((R_39 a0 0).bind (fun b_44 => (if (a0 < z_39) ∧ ((kd_39 a0).1 = 11) then ((R_39 a0 2).bind (fun b_48 => (if 1 ≤ dp then (if (z_32 < z_39) ∧ ((kd_39 z_32).1 = 7) then ((kf_5 n (dp - 1) 0 z_39 kd_39 I_39 L_39 R_39 0 z_32 b_44 b_48).bind (fun ⟨⟨z_51, kd_51, I_51, L_51, R_51⟩, ck_51, cm_51⟩ => (adk ck_51 cm_51 (if (a0 < z_51) ∧ ((kd_51 a0).1 = 11) then (stI (u2 R_51 a0 3 (some z_32)) (fun R_54 => (adk 1 (clN 1).2.2 (stI (z_51 + 1) (fun z_58 => (stI (va_up kd_51 z_51 (1, 0)) (fun kd_58 => (stI (nw2 I_51 z_51) (fun I_58 => (stI (nw2 L_51 z_51) (fun L_58 => (stI (va_up R_54 z_51 (fun _ => none)) (fun R_58 => (if (a0 < z_58) ∧ ((kd_58 a0).1 = 11) then ((R_58 a0 0).bind (fun b_63 => (if (a0 < z_58) ∧ ((kd_58 a0).1 = 11) then ((R_58 a0 2).bind (fun b_67 => (if (a0 < z_58) ∧ ((kd_58 a0).1 = 11) then ((R_58 a0 3).bind (fun b_71 => (if 1 ≤ dp then (if (z_51 < z_58) ∧ ((kd_58 z_51).1 = 1) then ((kf_9 n (dp - 1) 0 z_58 kd_58 I_58 L_58 R_58 z_51 b_63 b_67 b_71).bind (fun ⟨⟨z_74, kd_74, I_74, L_74, R_74⟩, ck_74, cm_74⟩ => (adk ck_74 cm_74 (if (a0 < z_74) ∧ ((kd_74 a0).1 = 11) then (stI (u2 R_74 a0 4 (some z_51)) (fun R_77 => (adk 1 (clN 5).2.2 (stI (z_74 + 1) (fun z_81 => (stI (va_up kd_74 z_74 (5, 0)) (fun kd_81 => (stI (nw2 I_74 z_74) (fun I_81 => (stI (nw2 L_74 z_74) (fun L_81 => (stI (va_up R_77 z_74 (fun _ => none)) (fun R_81 => (if (a0 < z_81) ∧ ((kd_81 a0).1 = 11) then ((R_81 a0 0).bind (fun b_86 => (if 1 ≤ dp then (if (z_74 < z_81) ∧ ((kd_81 z_74).1 = 5) then ((kf_10 n (dp - 1) 0 z_81 kd_81 I_81 L_81 R_81 z_74 b_86).bind (fun ⟨⟨z_89, kd_89, I_89, L_89, R_89⟩, ck_89, cm_89⟩ => (adk ck_89 cm_89 (if (a0 < z_89) ∧ ((kd_89 a0).1 = 11) then (stI (u2 R_89 a0 5 (some z_74)) (fun R_92 => (adk 1 (clN 9).2.2 (stI (z_89 + 1) (fun z_96 => (stI (va_up kd_89 z_89 (9, 0)) (fun kd_96 => (stI (nw2 I_89 z_89) (fun I_96 => (stI (nw2 L_89 z_89) (fun L_96 => (stI (va_up R_92 z_89 (fun _ => none)) (fun R_96 => (if (a0 < z_96) ∧ ((kd_96 a0).1 = 11) then ((R_96 a0 0).bind (fun b_101 => (if 1 ≤ dp then (if (z_89 < z_96) ∧ ((kd_96 z_89).1 = 9) then ((kf_11 n (dp - 1) 0 z_96 kd_96 I_96 L_96 R_96 z_89 b_101).bind (fun ⟨⟨z_104, kd_104, I_104, L_104, R_104⟩, ck_104, cm_104⟩ => (adk ck_104 cm_104 (if (a0 < z_104) ∧ ((kd_104 a0).1 = 11) then (stI (u2 R_104 a0 6 (some z_89)) (fun R_107 => (adk 1 400 (stI (z_104 + 1) (fun z_114 => (stI (va_up kd_104 z_104 (13, 400)) (fun kd_114 => (stI (nw2 I_104 z_104) (fun I_114 => (stI (nw2 L_104 z_104) (fun L_114 => (stI (va_up R_107 z_104 (fun _ => none)) (fun R_114 => (if (a0 < z_114) ∧ ((kd_114 a0).1 = 11) then (stI (u2 R_114 a0 7 (some z_104)) (fun R_116 => (adk 1 15 (stI (z_114 + 1) (fun z_122 => (stI (va_up kd_114 z_114 (13, 15)) (fun kd_122 => (stI (nw2 I_114 z_114) (fun I_122 => (stI (nw2 L_114 z_114) (fun L_122 => (stI (va_up R_116 z_114 (fun _ => none)) (fun R_122 => (if (a0 < z_122) ∧ ((kd_122 a0).1 = 11) then (stI (u2 R_122 a0 8 (some z_114)) (fun R_124 => (adk 1 15 (stI (z_122 + 1) (fun z_130 => (stI (va_up kd_122 z_122 (13, 15)) (fun kd_130 => (stI (nw2 I_122 z_122) (fun I_130 => (stI (nw2 L_122 z_122) (fun L_130 => (stI (va_up R_124 z_122 (fun _ => none)) (fun R_130 => (if (a0 < z_130) ∧ ((kd_130 a0).1 = 11) then (stI (u2 R_130 a0 9 (some z_122)) (fun R_132 => (adk 1 5 (stI (z_130 + 1) (fun z_137 => (stI (va_up kd_130 z_130 (13, 5)) (fun kd_137 => (stI (nw2 I_130 z_130) (fun I_137 => (stI (nw2 L_130 z_130) (fun L_137 => (stI (va_up R_132 z_130 (fun _ => none)) (fun R_137 => (if (a0 < z_137) ∧ ((kd_137 a0).1 = 11) then (stI (u2 R_137 a0 10 (some z_130)) (fun R_139 => (adk 1 (clN 10).2.2 (stI (z_137 + 1) (fun z_143 => (stI (va_up kd_137 z_137 (10, 0)) (fun kd_143 => (stI (nw2 I_137 z_137) (fun I_143 => (stI (nw2 L_137 z_137) (fun L_143 => (stI (va_up R_139 z_137 (fun _ => none)) (fun R_143 => (if 1 ≤ dp then (if (z_137 < z_143) ∧ ((kd_143 z_137).1 = 10) then ((kf_3 n (dp - 1) 0 z_143 kd_143 I_143 L_143 R_143 z_137).bind (fun ⟨⟨z_147, kd_147, I_147, L_147, R_147⟩, ck_147, cm_147⟩ => (adk ck_147 cm_147 (if (a0 < z_147) ∧ ((kd_147 a0).1 = 11) then (stI (u2 R_147 a0 11 (some z_137)) (fun R_150 => (adk 1 (clN 8).2.2 (stI (z_147 + 1) (fun z_154 => (stI (va_up kd_147 z_147 (8, 0)) (fun kd_154 => (stI (nw2 I_147 z_147) (fun I_154 => (stI (nw2 L_147 z_147) (fun L_154 => (stI (va_up R_150 z_147 (fun _ => none)) (fun R_154 => (if (a0 < z_154) ∧ ((kd_154 a0).1 = 11) then ((R_154 a0 11).bind (fun b_159 => (if (a0 < z_154) ∧ ((kd_154 a0).1 = 11) then ((R_154 a0 7).bind (fun b_163 => (if 1 ≤ dp then (if (z_147 < z_154) ∧ ((kd_154 z_147).1 = 8) then ((kf_12 n (dp - 1) 0 z_154 kd_154 I_154 L_154 R_154 z_147 b_159 b_163).bind (fun ⟨⟨z_166, kd_166, I_166, L_166, R_166⟩, ck_166, cm_166⟩ => (adk ck_166 cm_166 (if (a0 < z_166) ∧ ((kd_166 a0).1 = 11) then (stI (u2 R_166 a0 12 (some z_147)) (fun R_169 => (if (a0 < z_166) ∧ ((kd_166 a0).1 = 11) then (stI (w2 I_166 a0 13 0) (fun I_174 => (if (a0 < z_166) ∧ ((kd_166 a0).1 = 11) then (stI (w2 I_174 a0 14 0) (fun I_179 => (if (a0 < z_166) ∧ ((kd_166 a0).1 = 11) then (stI (w2 I_179 a0 15 (-1)) (fun I_184 => (if (a0 < z_166) ∧ ((kd_166 a0).1 = 11) then (stI (w2 I_184 a0 16 0) (fun I_189 => (if (a0 < z_166) ∧ ((kd_166 a0).1 = 11) then (stI (w2 I_189 a0 17 0) (fun I_194 => (if (a0 < z_166) ∧ ((kd_166 a0).1 = 11) then (stI (w2 I_194 a0 18 0) (fun I_199 => (some ((z_166, kd_166, I_199, L_166, R_169), 0, 0)))) else none))) else none))) else none))) else none))) else none))) else none))) else none)))) else none) else none))) else none))) else none)))))))))))))) else none)))) else none) else none)))))))))))))) else none)))))))))))))) else none)))))))))))))) else none)))))))))))))) else none)))))))))))))) else none)))) else none) else none))) else none)))))))))))))) else none)))) else none) else none))) else none)))))))))))))) else none)))) else none) else none))) else none))) else none))) else none)))))))))))))) else none)))) else none) else none))) else none))) else none)))))))))))))) else none)))) else none) else none))) else none)))))))))))))) else none)))))))))))))) else none)))) else none) else none)))))))))))) else none) := by rw [kf_0.eq_2, if_pos (show (0 : Nat) = 0 from rfl)]
set_option maxHeartbeats 8000000 in
set_option maxRecDepth 100000 in
theorem ks_0 : ∀ (n : Nat) (dp : Nat) (lab : Nat) (z : Nat) (kd : (Nat → Nat × Nat)) (I : Nat → Nat → Int32) (I' : JI) (L : Nat → Nat → Int64) (L' : JI) (R : (Nat → Nat → Option Nat)) (a0 : Nat), Rli I I' → Rll L L' → Sim RPv (g_0 n dp lab z kd I L R a0) (kf_0 n dp lab z kd I' L' R a0) := by
  intro n
  induction n with
  | zero => intros; rw [kf_0.eq_1]; exact Sn
  | succ n ih =>
    intro dp lab z kd I I' L L' R a0 u_I u_L
    rw [g_0.eq_2, kf_0.eq_2]
    refine Sc Iff.rfl (fun _ => ?_) (fun _ => ?_)
    · refine Sc Iff.rfl (fun c1 => ?_) (fun _ => Sn)
      refine Sa_v rfl ?_
      refine SsE rfl (fun z_5 => ?_)
      refine SsE rfl (fun kd_5 => ?_)
      refine SsJ (ri_nw u_I) (fun I_5 I_5' u_I_5 => ?_)
      refine SsM (rl_nw u_L) (fun L_5 L_5' u_L_5 => ?_)
      refine SsE rfl (fun R_5 => ?_)
      refine Sc Iff.rfl (fun c2 => ?_) (fun _ => Sn)
      refine Sc Iff.rfl (fun c3 => ?_) (fun _ => Sn)
      refine SbPv (ks_2 n (dp - 1) 0 z_5 kd_5 _ _ _ _ R_5 z u_I_5 u_L_5) (fun z_9 kd_9 I_9 I_9' L_9 L_9' R_9 ck_9 cm_9 u_I_9 u_L_9 => ?_)
      refine Sa_v rfl ?_
      refine Sc Iff.rfl (fun c4 => ?_) (fun _ => Sn)
      refine SsE rfl (fun R_12 => ?_)
      refine Sa_v rfl ?_
      refine SsE rfl (fun z_17 => ?_)
      refine SsE rfl (fun kd_17 => ?_)
      refine SsJ (ri_nw u_I_9) (fun I_17 I_17' u_I_17 => ?_)
      refine SsM (rl_nw u_L_9) (fun L_17 L_17' u_L_17 => ?_)
      refine SsE rfl (fun R_17 => ?_)
      refine Sc Iff.rfl (fun c5 => ?_) (fun _ => Sn)
      refine SsE rfl (fun R_20 => ?_)
      refine Sa_v rfl ?_
      refine SsE rfl (fun z_24 => ?_)
      refine SsE rfl (fun kd_24 => ?_)
      refine SsJ (ri_nw u_I_17) (fun I_24 I_24' u_I_24 => ?_)
      refine SsM (rl_nw u_L_17) (fun L_24 L_24' u_L_24 => ?_)
      refine SsE rfl (fun R_24 => ?_)
      refine Sc Iff.rfl (fun c6 => ?_) (fun _ => Sn)
      refine SbE rfl (fun b_29 => ?_)
      refine Sc Iff.rfl (fun c7 => ?_) (fun _ => Sn)
      refine Sc Iff.rfl (fun c8 => ?_) (fun _ => Sn)
      refine SbPv (ks_4 n (dp - 1) 0 z_24 kd_24 _ _ _ _ R_24 z_17 b_29 u_I_24 u_L_24) (fun z_32 kd_32 I_32 I_32' L_32 L_32' R_32 ck_32 cm_32 u_I_32 u_L_32 => ?_)
      refine Sa_v rfl ?_
      refine Sc Iff.rfl (fun c9 => ?_) (fun _ => Sn)
      refine SsE rfl (fun R_35 => ?_)
      refine Sa_v rfl ?_
      refine SsE rfl (fun z_39 => ?_)
      refine SsE rfl (fun kd_39 => ?_)
      refine SsJ (ri_nw u_I_32) (fun I_39 I_39' u_I_39 => ?_)
      refine SsM (rl_nw u_L_32) (fun L_39 L_39' u_L_39 => ?_)
      refine SsE rfl (fun R_39 => ?_)
      refine Sc Iff.rfl (fun c10 => ?_) (fun _ => Sn)
      refine SbE rfl (fun b_44 => ?_)
      refine Sc Iff.rfl (fun c11 => ?_) (fun _ => Sn)
      refine SbE rfl (fun b_48 => ?_)
      refine Sc Iff.rfl (fun c12 => ?_) (fun _ => Sn)
      refine Sc Iff.rfl (fun c13 => ?_) (fun _ => Sn)
      refine SbPv (ks_5 n (dp - 1) 0 z_39 kd_39 _ _ _ _ R_39 _ _ z_32 b_44 b_48 u_I_39 u_L_39 (rfl : Ui 0 0)) (fun z_51 kd_51 I_51 I_51' L_51 L_51' R_51 ck_51 cm_51 u_I_51 u_L_51 => ?_)
      refine Sa_v rfl ?_
      refine Sc Iff.rfl (fun c14 => ?_) (fun _ => Sn)
      refine SsE rfl (fun R_54 => ?_)
      refine Sa_v rfl ?_
      refine SsE rfl (fun z_58 => ?_)
      refine SsE rfl (fun kd_58 => ?_)
      refine SsJ (ri_nw u_I_51) (fun I_58 I_58' u_I_58 => ?_)
      refine SsM (rl_nw u_L_51) (fun L_58 L_58' u_L_58 => ?_)
      refine SsE rfl (fun R_58 => ?_)
      refine Sc Iff.rfl (fun c15 => ?_) (fun _ => Sn)
      refine SbE rfl (fun b_63 => ?_)
      refine Sc Iff.rfl (fun c16 => ?_) (fun _ => Sn)
      refine SbE rfl (fun b_67 => ?_)
      refine Sc Iff.rfl (fun c17 => ?_) (fun _ => Sn)
      refine SbE rfl (fun b_71 => ?_)
      refine Sc Iff.rfl (fun c18 => ?_) (fun _ => Sn)
      refine Sc Iff.rfl (fun c19 => ?_) (fun _ => Sn)
      refine SbPv (ks_9 n (dp - 1) 0 z_58 kd_58 _ _ _ _ R_58 z_51 b_63 b_67 b_71 u_I_58 u_L_58) (fun z_74 kd_74 I_74 I_74' L_74 L_74' R_74 ck_74 cm_74 u_I_74 u_L_74 => ?_)
      refine Sa_v rfl ?_
      refine Sc Iff.rfl (fun c20 => ?_) (fun _ => Sn)
      refine SsE rfl (fun R_77 => ?_)
      refine Sa_v rfl ?_
      refine SsE rfl (fun z_81 => ?_)
      refine SsE rfl (fun kd_81 => ?_)
      refine SsJ (ri_nw u_I_74) (fun I_81 I_81' u_I_81 => ?_)
      refine SsM (rl_nw u_L_74) (fun L_81 L_81' u_L_81 => ?_)
      refine SsE rfl (fun R_81 => ?_)
      refine Sc Iff.rfl (fun c21 => ?_) (fun _ => Sn)
      refine SbE rfl (fun b_86 => ?_)
      refine Sc Iff.rfl (fun c22 => ?_) (fun _ => Sn)
      refine Sc Iff.rfl (fun c23 => ?_) (fun _ => Sn)
      refine SbPv (ks_10 n (dp - 1) 0 z_81 kd_81 _ _ _ _ R_81 z_74 b_86 u_I_81 u_L_81) (fun z_89 kd_89 I_89 I_89' L_89 L_89' R_89 ck_89 cm_89 u_I_89 u_L_89 => ?_)
      refine Sa_v rfl ?_
      refine Sc Iff.rfl (fun c24 => ?_) (fun _ => Sn)
      refine SsE rfl (fun R_92 => ?_)
      refine Sa_v rfl ?_
      refine SsE rfl (fun z_96 => ?_)
      refine SsE rfl (fun kd_96 => ?_)
      refine SsJ (ri_nw u_I_89) (fun I_96 I_96' u_I_96 => ?_)
      refine SsM (rl_nw u_L_89) (fun L_96 L_96' u_L_96 => ?_)
      refine SsE rfl (fun R_96 => ?_)
      refine Sc Iff.rfl (fun c25 => ?_) (fun _ => Sn)
      refine SbE rfl (fun b_101 => ?_)
      refine Sc Iff.rfl (fun c26 => ?_) (fun _ => Sn)
      refine Sc Iff.rfl (fun c27 => ?_) (fun _ => Sn)
      refine SbPv (ks_11 n (dp - 1) 0 z_96 kd_96 _ _ _ _ R_96 z_89 b_101 u_I_96 u_L_96) (fun z_104 kd_104 I_104 I_104' L_104 L_104' R_104 ck_104 cm_104 u_I_104 u_L_104 => ?_)
      refine Sa_v rfl ?_
      refine Sc Iff.rfl (fun c28 => ?_) (fun _ => Sn)
      refine SsE rfl (fun R_107 => ?_)
      refine Sa_v rfl ?_
      refine SsE rfl (fun z_114 => ?_)
      refine SsE rfl (fun kd_114 => ?_)
      refine SsJ (ri_nw u_I_104) (fun I_114 I_114' u_I_114 => ?_)
      refine SsM (rl_nw u_L_104) (fun L_114 L_114' u_L_114 => ?_)
      refine SsE rfl (fun R_114 => ?_)
      refine Sc Iff.rfl (fun c29 => ?_) (fun _ => Sn)
      refine SsE rfl (fun R_116 => ?_)
      refine Sa_v rfl ?_
      refine SsE rfl (fun z_122 => ?_)
      refine SsE rfl (fun kd_122 => ?_)
      refine SsJ (ri_nw u_I_114) (fun I_122 I_122' u_I_122 => ?_)
      refine SsM (rl_nw u_L_114) (fun L_122 L_122' u_L_122 => ?_)
      refine SsE rfl (fun R_122 => ?_)
      refine Sc Iff.rfl (fun c30 => ?_) (fun _ => Sn)
      refine SsE rfl (fun R_124 => ?_)
      refine Sa_v rfl ?_
      refine SsE rfl (fun z_130 => ?_)
      refine SsE rfl (fun kd_130 => ?_)
      refine SsJ (ri_nw u_I_122) (fun I_130 I_130' u_I_130 => ?_)
      refine SsM (rl_nw u_L_122) (fun L_130 L_130' u_L_130 => ?_)
      refine SsE rfl (fun R_130 => ?_)
      refine Sc Iff.rfl (fun c31 => ?_) (fun _ => Sn)
      refine SsE rfl (fun R_132 => ?_)
      refine Sa_v rfl ?_
      refine SsE rfl (fun z_137 => ?_)
      refine SsE rfl (fun kd_137 => ?_)
      refine SsJ (ri_nw u_I_130) (fun I_137 I_137' u_I_137 => ?_)
      refine SsM (rl_nw u_L_130) (fun L_137 L_137' u_L_137 => ?_)
      refine SsE rfl (fun R_137 => ?_)
      refine Sc Iff.rfl (fun c32 => ?_) (fun _ => Sn)
      refine SsE rfl (fun R_139 => ?_)
      refine Sa_v rfl ?_
      refine SsE rfl (fun z_143 => ?_)
      refine SsE rfl (fun kd_143 => ?_)
      refine SsJ (ri_nw u_I_137) (fun I_143 I_143' u_I_143 => ?_)
      refine SsM (rl_nw u_L_137) (fun L_143 L_143' u_L_143 => ?_)
      refine SsE rfl (fun R_143 => ?_)
      refine Sc Iff.rfl (fun c33 => ?_) (fun _ => Sn)
      refine Sc Iff.rfl (fun c34 => ?_) (fun _ => Sn)
      refine SbPv (ks_3 n (dp - 1) 0 z_143 kd_143 _ _ _ _ R_143 z_137 u_I_143 u_L_143) (fun z_147 kd_147 I_147 I_147' L_147 L_147' R_147 ck_147 cm_147 u_I_147 u_L_147 => ?_)
      refine Sa_v rfl ?_
      refine Sc Iff.rfl (fun c35 => ?_) (fun _ => Sn)
      refine SsE rfl (fun R_150 => ?_)
      refine Sa_v rfl ?_
      refine SsE rfl (fun z_154 => ?_)
      refine SsE rfl (fun kd_154 => ?_)
      refine SsJ (ri_nw u_I_147) (fun I_154 I_154' u_I_154 => ?_)
      refine SsM (rl_nw u_L_147) (fun L_154 L_154' u_L_154 => ?_)
      refine SsE rfl (fun R_154 => ?_)
      refine Sc Iff.rfl (fun c36 => ?_) (fun _ => Sn)
      refine SbE rfl (fun b_159 => ?_)
      refine Sc Iff.rfl (fun c37 => ?_) (fun _ => Sn)
      refine SbE rfl (fun b_163 => ?_)
      refine Sc Iff.rfl (fun c38 => ?_) (fun _ => Sn)
      refine Sc Iff.rfl (fun c39 => ?_) (fun _ => Sn)
      refine SbPv (ks_12 n (dp - 1) 0 z_154 kd_154 _ _ _ _ R_154 z_147 b_159 b_163 u_I_154 u_L_154) (fun z_166 kd_166 I_166 I_166' L_166 L_166' R_166 ck_166 cm_166 u_I_166 u_L_166 => ?_)
      refine Sa_v rfl ?_
      refine Sc Iff.rfl (fun c40 => ?_) (fun _ => Sn)
      refine SsE rfl (fun R_169 => ?_)
      refine Sc Iff.rfl (fun c41 => ?_) (fun _ => Sn)
      refine SsJ (ri_up u_I_166 (rfl : ((13 : Nat) : Int) = 13) (rfl : Ui (0) (0))) (fun I_174 I_174' u_I_174 => ?_)
      refine Sc Iff.rfl (fun c42 => ?_) (fun _ => Sn)
      refine SsJ (ri_up u_I_174 (rfl : ((14 : Nat) : Int) = 14) (rfl : Ui (0) (0))) (fun I_179 I_179' u_I_179 => ?_)
      refine Sc Iff.rfl (fun c43 => ?_) (fun _ => Sn)
      refine SsJ (ri_up u_I_179 (rfl : ((15 : Nat) : Int) = 15) (rfl : Ui (-1) (-1))) (fun I_184 I_184' u_I_184 => ?_)
      refine Sc Iff.rfl (fun c44 => ?_) (fun _ => Sn)
      refine SsJ (ri_up u_I_184 (rfl : ((16 : Nat) : Int) = 16) (rfl : Ui (0) (0))) (fun I_189 I_189' u_I_189 => ?_)
      refine Sc Iff.rfl (fun c45 => ?_) (fun _ => Sn)
      refine SsJ (ri_up u_I_189 (rfl : ((17 : Nat) : Int) = 17) (rfl : Ui (0) (0))) (fun I_194 I_194' u_I_194 => ?_)
      refine Sc Iff.rfl (fun c46 => ?_) (fun _ => Sn)
      refine SsJ (ri_up u_I_194 (rfl : ((18 : Nat) : Int) = 18) (rfl : Ui (0) (0))) (fun I_199 I_199' u_I_199 => ?_)
      exact Sr ⟨⟨rfl, rfl, u_I_199, u_L_166, rfl⟩, rfl⟩
    exact Sn
