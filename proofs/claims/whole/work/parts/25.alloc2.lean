/-! 128 CutFloor$Planner.bestWith(II)I -/
set_option maxHeartbeats 4000000 in
set_option maxRecDepth 100000 in
def g_128 : Nat → Nat → Nat → Nat → (Nat → Nat × Nat) → (Nat → Nat → Int32) → (Nat → Nat → Int64) → (Nat → Nat → Option Nat) → Int32 → Int32 →  Option ((Int32 × PS) × Nat × Nat)
  | 0, _, _, _, _, _, _, _, _, _ => none
  | n + 1, dp, lab, z, kd, I, L, R, i1, i2 =>
    if lab = 0 then (if i1 = 0 then (if i1 = (1 : Int32) then (if i1 = (2 : Int32) then (if 1 ≤ dp then (g_92 n (dp - 1) 0 z kd I L R ((I 2 0) + i2) ((I 2 1) + i2) ((I 2 2) + i2) 0).bind (fun ⟨⟨x_60, z_60, kd_60, I_60, L_60, R_60⟩, ck_60, cm_60⟩ => (adk ck_60 cm_60 (some ((x_60, z_60, kd_60, I_60, L_60, R_60), 0, 0)))) else none) else (if 1 ≤ dp then (g_92 n (dp - 1) 0 z kd I L R ((I 2 0) + i2) ((I 2 1) + i2) ((I 2 2) + (0 : Int32)) 0).bind (fun ⟨⟨x_60, z_60, kd_60, I_60, L_60, R_60⟩, ck_60, cm_60⟩ => (adk ck_60 cm_60 (some ((x_60, z_60, kd_60, I_60, L_60, R_60), 0, 0)))) else none)) else (if i1 = (2 : Int32) then (if 1 ≤ dp then (g_92 n (dp - 1) 0 z kd I L R ((I 2 0) + i2) ((I 2 1) + (0 : Int32)) ((I 2 2) + i2) 0).bind (fun ⟨⟨x_60, z_60, kd_60, I_60, L_60, R_60⟩, ck_60, cm_60⟩ => (adk ck_60 cm_60 (some ((x_60, z_60, kd_60, I_60, L_60, R_60), 0, 0)))) else none) else (if 1 ≤ dp then (g_92 n (dp - 1) 0 z kd I L R ((I 2 0) + i2) ((I 2 1) + (0 : Int32)) ((I 2 2) + (0 : Int32)) 0).bind (fun ⟨⟨x_60, z_60, kd_60, I_60, L_60, R_60⟩, ck_60, cm_60⟩ => (adk ck_60 cm_60 (some ((x_60, z_60, kd_60, I_60, L_60, R_60), 0, 0)))) else none))) else (if i1 = (1 : Int32) then (if i1 = (2 : Int32) then (if 1 ≤ dp then (g_92 n (dp - 1) 0 z kd I L R ((I 2 0) + (0 : Int32)) ((I 2 1) + i2) ((I 2 2) + i2) 0).bind (fun ⟨⟨x_60, z_60, kd_60, I_60, L_60, R_60⟩, ck_60, cm_60⟩ => (adk ck_60 cm_60 (some ((x_60, z_60, kd_60, I_60, L_60, R_60), 0, 0)))) else none) else (if 1 ≤ dp then (g_92 n (dp - 1) 0 z kd I L R ((I 2 0) + (0 : Int32)) ((I 2 1) + i2) ((I 2 2) + (0 : Int32)) 0).bind (fun ⟨⟨x_60, z_60, kd_60, I_60, L_60, R_60⟩, ck_60, cm_60⟩ => (adk ck_60 cm_60 (some ((x_60, z_60, kd_60, I_60, L_60, R_60), 0, 0)))) else none)) else (if i1 = (2 : Int32) then (if 1 ≤ dp then (g_92 n (dp - 1) 0 z kd I L R ((I 2 0) + (0 : Int32)) ((I 2 1) + (0 : Int32)) ((I 2 2) + i2) 0).bind (fun ⟨⟨x_60, z_60, kd_60, I_60, L_60, R_60⟩, ck_60, cm_60⟩ => (adk ck_60 cm_60 (some ((x_60, z_60, kd_60, I_60, L_60, R_60), 0, 0)))) else none) else (if 1 ≤ dp then (g_92 n (dp - 1) 0 z kd I L R ((I 2 0) + (0 : Int32)) ((I 2 1) + (0 : Int32)) ((I 2 2) + (0 : Int32)) 0).bind (fun ⟨⟨x_60, z_60, kd_60, I_60, L_60, R_60⟩, ck_60, cm_60⟩ => (adk ck_60 cm_60 (some ((x_60, z_60, kd_60, I_60, L_60, R_60), 0, 0)))) else none))))
    else none
set_option maxRecDepth 100000 in
theorem e_128_0 (n dp : Nat) (z : Nat) (kd : (Nat → Nat × Nat)) (I : (Nat → Nat → Int32)) (L : (Nat → Nat → Int64)) (R : (Nat → Nat → Option Nat)) (i1 : Int32) (i2 : Int32) : g_128 (n + 1) dp 0 z kd I L R i1 i2 = (if i1 = 0 then (if i1 = (1 : Int32) then (if i1 = (2 : Int32) then (if 1 ≤ dp then (g_92 n (dp - 1) 0 z kd I L R ((I 2 0) + i2) ((I 2 1) + i2) ((I 2 2) + i2) 0).bind (fun ⟨⟨x_60, z_60, kd_60, I_60, L_60, R_60⟩, ck_60, cm_60⟩ => (adk ck_60 cm_60 (some ((x_60, z_60, kd_60, I_60, L_60, R_60), 0, 0)))) else none) else (if 1 ≤ dp then (g_92 n (dp - 1) 0 z kd I L R ((I 2 0) + i2) ((I 2 1) + i2) ((I 2 2) + (0 : Int32)) 0).bind (fun ⟨⟨x_60, z_60, kd_60, I_60, L_60, R_60⟩, ck_60, cm_60⟩ => (adk ck_60 cm_60 (some ((x_60, z_60, kd_60, I_60, L_60, R_60), 0, 0)))) else none)) else (if i1 = (2 : Int32) then (if 1 ≤ dp then (g_92 n (dp - 1) 0 z kd I L R ((I 2 0) + i2) ((I 2 1) + (0 : Int32)) ((I 2 2) + i2) 0).bind (fun ⟨⟨x_60, z_60, kd_60, I_60, L_60, R_60⟩, ck_60, cm_60⟩ => (adk ck_60 cm_60 (some ((x_60, z_60, kd_60, I_60, L_60, R_60), 0, 0)))) else none) else (if 1 ≤ dp then (g_92 n (dp - 1) 0 z kd I L R ((I 2 0) + i2) ((I 2 1) + (0 : Int32)) ((I 2 2) + (0 : Int32)) 0).bind (fun ⟨⟨x_60, z_60, kd_60, I_60, L_60, R_60⟩, ck_60, cm_60⟩ => (adk ck_60 cm_60 (some ((x_60, z_60, kd_60, I_60, L_60, R_60), 0, 0)))) else none))) else (if i1 = (1 : Int32) then (if i1 = (2 : Int32) then (if 1 ≤ dp then (g_92 n (dp - 1) 0 z kd I L R ((I 2 0) + (0 : Int32)) ((I 2 1) + i2) ((I 2 2) + i2) 0).bind (fun ⟨⟨x_60, z_60, kd_60, I_60, L_60, R_60⟩, ck_60, cm_60⟩ => (adk ck_60 cm_60 (some ((x_60, z_60, kd_60, I_60, L_60, R_60), 0, 0)))) else none) else (if 1 ≤ dp then (g_92 n (dp - 1) 0 z kd I L R ((I 2 0) + (0 : Int32)) ((I 2 1) + i2) ((I 2 2) + (0 : Int32)) 0).bind (fun ⟨⟨x_60, z_60, kd_60, I_60, L_60, R_60⟩, ck_60, cm_60⟩ => (adk ck_60 cm_60 (some ((x_60, z_60, kd_60, I_60, L_60, R_60), 0, 0)))) else none)) else (if i1 = (2 : Int32) then (if 1 ≤ dp then (g_92 n (dp - 1) 0 z kd I L R ((I 2 0) + (0 : Int32)) ((I 2 1) + (0 : Int32)) ((I 2 2) + i2) 0).bind (fun ⟨⟨x_60, z_60, kd_60, I_60, L_60, R_60⟩, ck_60, cm_60⟩ => (adk ck_60 cm_60 (some ((x_60, z_60, kd_60, I_60, L_60, R_60), 0, 0)))) else none) else (if 1 ≤ dp then (g_92 n (dp - 1) 0 z kd I L R ((I 2 0) + (0 : Int32)) ((I 2 1) + (0 : Int32)) ((I 2 2) + (0 : Int32)) 0).bind (fun ⟨⟨x_60, z_60, kd_60, I_60, L_60, R_60⟩, ck_60, cm_60⟩ => (adk ck_60 cm_60 (some ((x_60, z_60, kd_60, I_60, L_60, R_60), 0, 0)))) else none)))) := by rw [g_128.eq_2, if_pos (show (0 : Nat) = 0 from rfl)]
set_option maxHeartbeats 8000000 in
set_option maxRecDepth 100000 in
theorem w_128 (X : GX) : ∀ (n dp d : Nat), dp ≤ d → ∀ (z : Nat) (kd : (Nat → Nat × Nat)) (I : (Nat → Nat → Int32)) (L : (Nat → Nat → Int64)) (R : (Nat → Nat → Option Nat)), Sh z kd R → ∀ (i1 : Int32) (i2 : Int32) (r : Int32) (z1 : Nat) (kd1 : (Nat → Nat × Nat)) (I1 : (Nat → Nat → Int32)) (L1 : (Nat → Nat → Int64)) (R1 : (Nat → Nat → Option Nat)) (k1 m1 : Nat), (g_128 n dp 0 z kd I L R i1 i2 = some ((r, z1, kd1, I1, L1, R1), k1, m1) → ∀ MC MS k m : Nat, k + k1 ≤ MC → m + m1 ≤ MS → K X d 128 MC MS (AI (fun x τ => x = r ∧ τ = (z1, kd1, I1, L1, R1))) 0 [some (.ref 24), some (.int i1), some (.int i2)] [] (z, kd, I, L, R) k m) := by
  intro n
  induction n with
  | zero => intro dp d hdp z kd I L R hS  i1 i2 r z1 kd1 I1 L1 R1 k1 m1; exact fun h => by cases h
  | succ n ih =>
    intro dp d hdp z kd I L R hS  i1 i2 r z1 kd1 I1 L1 R1 k1 m1
    · intro h MC MS k m hMC hMS
      rw [e_128_0] at h
      refine K_of b_128_0 h_128_0 ?_
      refine q_aload rfl ?_
      refine q_aload rfl ?_
      refine q_getRs (c0 := 7) (j := 0) rfl rfl (zl hS 24 (by decide)) (sk hS 24 (by decide) rfl) rfl (by decide) (r_24_0 hS) ?_
      refine q_getRs (c0 := 3) (j := 0) rfl rfl (zl hS 1 (by decide)) (sk hS 1 (by decide) rfl) rfl (by decide) (r_1_0 hS) ?_
      refine q_iconst (0) (by decide) ?_
      refine q_ialN (0) rfl (zl hS 2 (by decide)) (sk hS 2 (by decide) rfl) (by decide) (by decide) ?_
      refine q_iload rfl ?_
      refine q_if_ne (fun c_11 => ?_) (fun c_11 => ?_)
      · rw [if_neg c_11] at h
        refine K_of b_128_18 h_128_18 ?_
        refine q_iconst (0) (by decide) ?_
        refine q_end ?_
        refine K_of b_128_19 h_128_19 ?_
        refine q_iadd ?_
        refine q_aload rfl ?_
        refine q_getRs (c0 := 7) (j := 0) rfl rfl (zl hS 24 (by decide)) (sk hS 24 (by decide) rfl) rfl (by decide) (r_24_0 hS) ?_
        refine q_getRs (c0 := 3) (j := 0) rfl rfl (zl hS 1 (by decide)) (sk hS 1 (by decide) rfl) rfl (by decide) (r_1_0 hS) ?_
        refine q_iconst (1) (by decide) ?_
        refine q_ialN (1) rfl (zl hS 2 (by decide)) (sk hS 2 (by decide) rfl) (by decide) (by decide) ?_
        refine q_iload rfl ?_
        refine q_iconst (1) (by decide) ?_
        refine q_icmp_ne (fun c_31 => ?_) (fun c_31 => ?_)
        · rw [if_neg c_31] at h
          refine K_of b_128_38 h_128_38 ?_
          refine q_iconst (0) (by decide) ?_
          refine q_end ?_
          refine K_of b_128_39 h_128_39 ?_
          refine q_iadd ?_
          refine q_aload rfl ?_
          refine q_getRs (c0 := 7) (j := 0) rfl rfl (zl hS 24 (by decide)) (sk hS 24 (by decide) rfl) rfl (by decide) (r_24_0 hS) ?_
          refine q_getRs (c0 := 3) (j := 0) rfl rfl (zl hS 1 (by decide)) (sk hS 1 (by decide) rfl) rfl (by decide) (r_1_0 hS) ?_
          refine q_iconst (2) (by decide) ?_
          refine q_ialN (2) rfl (zl hS 2 (by decide)) (sk hS 2 (by decide) rfl) (by decide) (by decide) ?_
          refine q_iload rfl ?_
          refine q_iconst (2) (by decide) ?_
          refine q_icmp_ne (fun c_51 => ?_) (fun c_51 => ?_)
          · rw [if_neg c_51] at h
            refine K_of b_128_58 h_128_58 ?_
            refine q_iconst (0) (by decide) ?_
            refine q_end ?_
            refine K_of b_128_59 h_128_59 ?_
            refine q_iadd ?_
            obtain ⟨d_60, h⟩ := ite_some h
            obtain ⟨⟨⟨x_60, z_60, kd_60, I_60, L_60, R_60⟩, ck_60, cm_60⟩, e_60, h⟩ := Option.bind_eq_some_iff.mp h
            dsimp only at h
            obtain ⟨mk_60, ms_60, h, ek_60, em_60⟩ := adk_some h
            refine q_gv4I (a_92 X hS (d := d - 1) (by omega) e_60) (by omega) (by omega) (by omega) rfl (Nat.le_of_ble_eq_true rfl) ⟨(zl hS 24 (by decide)), congrArg Prod.fst (sk hS 24 (by decide) rfl), by decide⟩ ?_
            have hS_60 := s_92 hS e_60
            cases h
            exact q_iret rfl (by omega) (by omega) ⟨rfl, rfl⟩
          · rw [if_pos c_51] at h
            refine q_iload rfl ?_
            refine q_goto ?_
            refine K_of b_128_59 h_128_59 ?_
            refine q_iadd ?_
            obtain ⟨d_60, h⟩ := ite_some h
            obtain ⟨⟨⟨x_60, z_60, kd_60, I_60, L_60, R_60⟩, ck_60, cm_60⟩, e_60, h⟩ := Option.bind_eq_some_iff.mp h
            dsimp only at h
            obtain ⟨mk_60, ms_60, h, ek_60, em_60⟩ := adk_some h
            refine q_gv4I (a_92 X hS (d := d - 1) (by omega) e_60) (by omega) (by omega) (by omega) rfl (Nat.le_of_ble_eq_true rfl) ⟨(zl hS 24 (by decide)), congrArg Prod.fst (sk hS 24 (by decide) rfl), by decide⟩ ?_
            have hS_60 := s_92 hS e_60
            cases h
            exact q_iret rfl (by omega) (by omega) ⟨rfl, rfl⟩
        · rw [if_pos c_31] at h
          refine q_iload rfl ?_
          refine q_goto ?_
          refine K_of b_128_39 h_128_39 ?_
          refine q_iadd ?_
          refine q_aload rfl ?_
          refine q_getRs (c0 := 7) (j := 0) rfl rfl (zl hS 24 (by decide)) (sk hS 24 (by decide) rfl) rfl (by decide) (r_24_0 hS) ?_
          refine q_getRs (c0 := 3) (j := 0) rfl rfl (zl hS 1 (by decide)) (sk hS 1 (by decide) rfl) rfl (by decide) (r_1_0 hS) ?_
          refine q_iconst (2) (by decide) ?_
          refine q_ialN (2) rfl (zl hS 2 (by decide)) (sk hS 2 (by decide) rfl) (by decide) (by decide) ?_
          refine q_iload rfl ?_
          refine q_iconst (2) (by decide) ?_
          refine q_icmp_ne (fun c_51 => ?_) (fun c_51 => ?_)
          · rw [if_neg c_51] at h
            refine K_of b_128_58 h_128_58 ?_
            refine q_iconst (0) (by decide) ?_
            refine q_end ?_
            refine K_of b_128_59 h_128_59 ?_
            refine q_iadd ?_
            obtain ⟨d_60, h⟩ := ite_some h
            obtain ⟨⟨⟨x_60, z_60, kd_60, I_60, L_60, R_60⟩, ck_60, cm_60⟩, e_60, h⟩ := Option.bind_eq_some_iff.mp h
            dsimp only at h
            obtain ⟨mk_60, ms_60, h, ek_60, em_60⟩ := adk_some h
            refine q_gv4I (a_92 X hS (d := d - 1) (by omega) e_60) (by omega) (by omega) (by omega) rfl (Nat.le_of_ble_eq_true rfl) ⟨(zl hS 24 (by decide)), congrArg Prod.fst (sk hS 24 (by decide) rfl), by decide⟩ ?_
            have hS_60 := s_92 hS e_60
            cases h
            exact q_iret rfl (by omega) (by omega) ⟨rfl, rfl⟩
          · rw [if_pos c_51] at h
            refine q_iload rfl ?_
            refine q_goto ?_
            refine K_of b_128_59 h_128_59 ?_
            refine q_iadd ?_
            obtain ⟨d_60, h⟩ := ite_some h
            obtain ⟨⟨⟨x_60, z_60, kd_60, I_60, L_60, R_60⟩, ck_60, cm_60⟩, e_60, h⟩ := Option.bind_eq_some_iff.mp h
            dsimp only at h
            obtain ⟨mk_60, ms_60, h, ek_60, em_60⟩ := adk_some h
            refine q_gv4I (a_92 X hS (d := d - 1) (by omega) e_60) (by omega) (by omega) (by omega) rfl (Nat.le_of_ble_eq_true rfl) ⟨(zl hS 24 (by decide)), congrArg Prod.fst (sk hS 24 (by decide) rfl), by decide⟩ ?_
            have hS_60 := s_92 hS e_60
            cases h
            exact q_iret rfl (by omega) (by omega) ⟨rfl, rfl⟩
      · rw [if_pos c_11] at h
        refine q_iload rfl ?_
        refine q_goto ?_
        refine K_of b_128_19 h_128_19 ?_
        refine q_iadd ?_
        refine q_aload rfl ?_
        refine q_getRs (c0 := 7) (j := 0) rfl rfl (zl hS 24 (by decide)) (sk hS 24 (by decide) rfl) rfl (by decide) (r_24_0 hS) ?_
        refine q_getRs (c0 := 3) (j := 0) rfl rfl (zl hS 1 (by decide)) (sk hS 1 (by decide) rfl) rfl (by decide) (r_1_0 hS) ?_
        refine q_iconst (1) (by decide) ?_
        refine q_ialN (1) rfl (zl hS 2 (by decide)) (sk hS 2 (by decide) rfl) (by decide) (by decide) ?_
        refine q_iload rfl ?_
        refine q_iconst (1) (by decide) ?_
        refine q_icmp_ne (fun c_31 => ?_) (fun c_31 => ?_)
        · rw [if_neg c_31] at h
          refine K_of b_128_38 h_128_38 ?_
          refine q_iconst (0) (by decide) ?_
          refine q_end ?_
          refine K_of b_128_39 h_128_39 ?_
          refine q_iadd ?_
          refine q_aload rfl ?_
          refine q_getRs (c0 := 7) (j := 0) rfl rfl (zl hS 24 (by decide)) (sk hS 24 (by decide) rfl) rfl (by decide) (r_24_0 hS) ?_
          refine q_getRs (c0 := 3) (j := 0) rfl rfl (zl hS 1 (by decide)) (sk hS 1 (by decide) rfl) rfl (by decide) (r_1_0 hS) ?_
          refine q_iconst (2) (by decide) ?_
          refine q_ialN (2) rfl (zl hS 2 (by decide)) (sk hS 2 (by decide) rfl) (by decide) (by decide) ?_
          refine q_iload rfl ?_
          refine q_iconst (2) (by decide) ?_
          refine q_icmp_ne (fun c_51 => ?_) (fun c_51 => ?_)
          · rw [if_neg c_51] at h
            refine K_of b_128_58 h_128_58 ?_
            refine q_iconst (0) (by decide) ?_
            refine q_end ?_
            refine K_of b_128_59 h_128_59 ?_
            refine q_iadd ?_
            obtain ⟨d_60, h⟩ := ite_some h
            obtain ⟨⟨⟨x_60, z_60, kd_60, I_60, L_60, R_60⟩, ck_60, cm_60⟩, e_60, h⟩ := Option.bind_eq_some_iff.mp h
            dsimp only at h
            obtain ⟨mk_60, ms_60, h, ek_60, em_60⟩ := adk_some h
            refine q_gv4I (a_92 X hS (d := d - 1) (by omega) e_60) (by omega) (by omega) (by omega) rfl (Nat.le_of_ble_eq_true rfl) ⟨(zl hS 24 (by decide)), congrArg Prod.fst (sk hS 24 (by decide) rfl), by decide⟩ ?_
            have hS_60 := s_92 hS e_60
            cases h
            exact q_iret rfl (by omega) (by omega) ⟨rfl, rfl⟩
          · rw [if_pos c_51] at h
            refine q_iload rfl ?_
            refine q_goto ?_
            refine K_of b_128_59 h_128_59 ?_
            refine q_iadd ?_
            obtain ⟨d_60, h⟩ := ite_some h
            obtain ⟨⟨⟨x_60, z_60, kd_60, I_60, L_60, R_60⟩, ck_60, cm_60⟩, e_60, h⟩ := Option.bind_eq_some_iff.mp h
            dsimp only at h
            obtain ⟨mk_60, ms_60, h, ek_60, em_60⟩ := adk_some h
            refine q_gv4I (a_92 X hS (d := d - 1) (by omega) e_60) (by omega) (by omega) (by omega) rfl (Nat.le_of_ble_eq_true rfl) ⟨(zl hS 24 (by decide)), congrArg Prod.fst (sk hS 24 (by decide) rfl), by decide⟩ ?_
            have hS_60 := s_92 hS e_60
            cases h
            exact q_iret rfl (by omega) (by omega) ⟨rfl, rfl⟩
        · rw [if_pos c_31] at h
          refine q_iload rfl ?_
          refine q_goto ?_
          refine K_of b_128_39 h_128_39 ?_
          refine q_iadd ?_
          refine q_aload rfl ?_
          refine q_getRs (c0 := 7) (j := 0) rfl rfl (zl hS 24 (by decide)) (sk hS 24 (by decide) rfl) rfl (by decide) (r_24_0 hS) ?_
          refine q_getRs (c0 := 3) (j := 0) rfl rfl (zl hS 1 (by decide)) (sk hS 1 (by decide) rfl) rfl (by decide) (r_1_0 hS) ?_
          refine q_iconst (2) (by decide) ?_
          refine q_ialN (2) rfl (zl hS 2 (by decide)) (sk hS 2 (by decide) rfl) (by decide) (by decide) ?_
          refine q_iload rfl ?_
          refine q_iconst (2) (by decide) ?_
          refine q_icmp_ne (fun c_51 => ?_) (fun c_51 => ?_)
          · rw [if_neg c_51] at h
            refine K_of b_128_58 h_128_58 ?_
            refine q_iconst (0) (by decide) ?_
            refine q_end ?_
            refine K_of b_128_59 h_128_59 ?_
            refine q_iadd ?_
            obtain ⟨d_60, h⟩ := ite_some h
            obtain ⟨⟨⟨x_60, z_60, kd_60, I_60, L_60, R_60⟩, ck_60, cm_60⟩, e_60, h⟩ := Option.bind_eq_some_iff.mp h
            dsimp only at h
            obtain ⟨mk_60, ms_60, h, ek_60, em_60⟩ := adk_some h
            refine q_gv4I (a_92 X hS (d := d - 1) (by omega) e_60) (by omega) (by omega) (by omega) rfl (Nat.le_of_ble_eq_true rfl) ⟨(zl hS 24 (by decide)), congrArg Prod.fst (sk hS 24 (by decide) rfl), by decide⟩ ?_
            have hS_60 := s_92 hS e_60
            cases h
            exact q_iret rfl (by omega) (by omega) ⟨rfl, rfl⟩
          · rw [if_pos c_51] at h
            refine q_iload rfl ?_
            refine q_goto ?_
            refine K_of b_128_59 h_128_59 ?_
            refine q_iadd ?_
            obtain ⟨d_60, h⟩ := ite_some h
            obtain ⟨⟨⟨x_60, z_60, kd_60, I_60, L_60, R_60⟩, ck_60, cm_60⟩, e_60, h⟩ := Option.bind_eq_some_iff.mp h
            dsimp only at h
            obtain ⟨mk_60, ms_60, h, ek_60, em_60⟩ := adk_some h
            refine q_gv4I (a_92 X hS (d := d - 1) (by omega) e_60) (by omega) (by omega) (by omega) rfl (Nat.le_of_ble_eq_true rfl) ⟨(zl hS 24 (by decide)), congrArg Prod.fst (sk hS 24 (by decide) rfl), by decide⟩ ?_
            have hS_60 := s_92 hS e_60
            cases h
            exact q_iret rfl (by omega) (by omega) ⟨rfl, rfl⟩
set_option maxHeartbeats 8000000 in
set_option maxRecDepth 100000 in
theorem t_128 : ∀ (n dp : Nat) (z : Nat) (kd : (Nat → Nat × Nat)) (I : (Nat → Nat → Int32)) (L : (Nat → Nat → Int64)) (R : (Nat → Nat → Option Nat)), Sh z kd R → ∀ (i1 : Int32) (i2 : Int32) (r : Int32) (z1 : Nat) (kd1 : (Nat → Nat × Nat)) (I1 : (Nat → Nat → Int32)) (L1 : (Nat → Nat → Int64)) (R1 : (Nat → Nat → Option Nat)) (k1 m1 : Nat), (g_128 n dp 0 z kd I L R i1 i2 = some ((r, z1, kd1, I1, L1, R1), k1, m1) → Sh z1 kd1 R1) := by
  intro n
  induction n with
  | zero => intro dp z kd I L R hS i1 i2 r z1 kd1 I1 L1 R1 k1 m1; exact fun h => by cases h
  | succ n ih =>
    intro dp z kd I L R hS i1 i2 r z1 kd1 I1 L1 R1 k1 m1
    · intro h
      rw [e_128_0] at h
      by_cases c_11 : i1 = 0
      · rw [if_pos c_11] at h
        by_cases c_31 : i1 = (1 : Int32)
        · rw [if_pos c_31] at h
          by_cases c_51 : i1 = (2 : Int32)
          · rw [if_pos c_51] at h
            obtain ⟨d_60, h⟩ := ite_some h
            obtain ⟨⟨⟨x_60, z_60, kd_60, I_60, L_60, R_60⟩, ck_60, cm_60⟩, e_60, h⟩ := Option.bind_eq_some_iff.mp h
            dsimp only at h
            obtain ⟨mk_60, ms_60, h, ek_60, em_60⟩ := adk_some h
            have hS_60 := s_92 hS e_60
            cases h
            exact hS_60
          · rw [if_neg c_51] at h
            obtain ⟨d_60, h⟩ := ite_some h
            obtain ⟨⟨⟨x_60, z_60, kd_60, I_60, L_60, R_60⟩, ck_60, cm_60⟩, e_60, h⟩ := Option.bind_eq_some_iff.mp h
            dsimp only at h
            obtain ⟨mk_60, ms_60, h, ek_60, em_60⟩ := adk_some h
            have hS_60 := s_92 hS e_60
            cases h
            exact hS_60
        · rw [if_neg c_31] at h
          by_cases c_51 : i1 = (2 : Int32)
          · rw [if_pos c_51] at h
            obtain ⟨d_60, h⟩ := ite_some h
            obtain ⟨⟨⟨x_60, z_60, kd_60, I_60, L_60, R_60⟩, ck_60, cm_60⟩, e_60, h⟩ := Option.bind_eq_some_iff.mp h
            dsimp only at h
            obtain ⟨mk_60, ms_60, h, ek_60, em_60⟩ := adk_some h
            have hS_60 := s_92 hS e_60
            cases h
            exact hS_60
          · rw [if_neg c_51] at h
            obtain ⟨d_60, h⟩ := ite_some h
            obtain ⟨⟨⟨x_60, z_60, kd_60, I_60, L_60, R_60⟩, ck_60, cm_60⟩, e_60, h⟩ := Option.bind_eq_some_iff.mp h
            dsimp only at h
            obtain ⟨mk_60, ms_60, h, ek_60, em_60⟩ := adk_some h
            have hS_60 := s_92 hS e_60
            cases h
            exact hS_60
      · rw [if_neg c_11] at h
        by_cases c_31 : i1 = (1 : Int32)
        · rw [if_pos c_31] at h
          by_cases c_51 : i1 = (2 : Int32)
          · rw [if_pos c_51] at h
            obtain ⟨d_60, h⟩ := ite_some h
            obtain ⟨⟨⟨x_60, z_60, kd_60, I_60, L_60, R_60⟩, ck_60, cm_60⟩, e_60, h⟩ := Option.bind_eq_some_iff.mp h
            dsimp only at h
            obtain ⟨mk_60, ms_60, h, ek_60, em_60⟩ := adk_some h
            have hS_60 := s_92 hS e_60
            cases h
            exact hS_60
          · rw [if_neg c_51] at h
            obtain ⟨d_60, h⟩ := ite_some h
            obtain ⟨⟨⟨x_60, z_60, kd_60, I_60, L_60, R_60⟩, ck_60, cm_60⟩, e_60, h⟩ := Option.bind_eq_some_iff.mp h
            dsimp only at h
            obtain ⟨mk_60, ms_60, h, ek_60, em_60⟩ := adk_some h
            have hS_60 := s_92 hS e_60
            cases h
            exact hS_60
        · rw [if_neg c_31] at h
          by_cases c_51 : i1 = (2 : Int32)
          · rw [if_pos c_51] at h
            obtain ⟨d_60, h⟩ := ite_some h
            obtain ⟨⟨⟨x_60, z_60, kd_60, I_60, L_60, R_60⟩, ck_60, cm_60⟩, e_60, h⟩ := Option.bind_eq_some_iff.mp h
            dsimp only at h
            obtain ⟨mk_60, ms_60, h, ek_60, em_60⟩ := adk_some h
            have hS_60 := s_92 hS e_60
            cases h
            exact hS_60
          · rw [if_neg c_51] at h
            obtain ⟨d_60, h⟩ := ite_some h
            obtain ⟨⟨⟨x_60, z_60, kd_60, I_60, L_60, R_60⟩, ck_60, cm_60⟩, e_60, h⟩ := Option.bind_eq_some_iff.mp h
            dsimp only at h
            obtain ⟨mk_60, ms_60, h, ek_60, em_60⟩ := adk_some h
            have hS_60 := s_92 hS e_60
            cases h
            exact hS_60
theorem a_128 (X : GX) {z : Nat} {kd : (Nat → Nat × Nat)} {I : (Nat → Nat → Int32)} {L : (Nat → Nat → Int64)} {R : (Nat → Nat → Option Nat)} (hS : Sh z kd R) {n dp d : Nat} (hd : dp ≤ d) {i1 : Int32} {i2 : Int32} {r : Int32} {z1 : Nat} {kd1 : (Nat → Nat × Nat)} {I1 : (Nat → Nat → Int32)} {L1 : (Nat → Nat → Int64)} {R1 : (Nat → Nat → Option Nat)} {k1 m1 : Nat} (h : g_128 n dp 0 z kd I L R i1 i2 = some ((r, z1, kd1, I1, L1, R1), k1, m1)) : Ct X d 128 k1 m1 [.ref 24, .int i1, .int i2] (z, kd, I, L, R) (AI (fun x τ => x = r ∧ τ = (z1, kd1, I1, L1, R1))) :=
  Ct_of mu_128 (Nat.le_of_ble_eq_true rfl) ((w_128 X n dp d hd z kd I L R hS i1 i2 _ _ _ _ _ _ _ _) h k1 m1 0 0 (by omega) (by omega))
theorem s_128 {z : Nat} {kd : (Nat → Nat × Nat)} {I : (Nat → Nat → Int32)} {L : (Nat → Nat → Int64)} {R : (Nat → Nat → Option Nat)} (hS : Sh z kd R) {n dp : Nat} {i1 : Int32} {i2 : Int32} {r : Int32} {z1 : Nat} {kd1 : (Nat → Nat × Nat)} {I1 : (Nat → Nat → Int32)} {L1 : (Nat → Nat → Int64)} {R1 : (Nat → Nat → Option Nat)} {k1 m1 : Nat} (h : g_128 n dp 0 z kd I L R i1 i2 = some ((r, z1, kd1, I1, L1, R1), k1, m1)) : Sh z1 kd1 R1 := (t_128 n dp z kd I L R hS i1 i2 _ _ _ _ _ _ _ _) h

/-! 131 CutFloor$Planner.worthOf(I)I -/
set_option maxHeartbeats 4000000 in
set_option maxRecDepth 100000 in
def g_131 : Nat → Nat → Nat → Nat → (Nat → Nat × Nat) → (Nat → Nat → Int32) → (Nat → Nat → Int64) → (Nat → Nat → Option Nat) → Int32 → Int32 → Int32 → Int32 →  Option ((Int32 × PS) × Nat × Nat)
  | 0, _, _, _, _, _, _, _, _, _, _, _ => none
  | n + 1, dp, lab, z, kd, I, L, R, i1, i2, i3, i4 =>
    if lab = 0 then (if 0 ≤ ((20 : Int32) + i1) ∧ (Int32.toNatClampNeg ((20 : Int32) + i1)) < 30 then (stI (I 4 (Int32.toNatClampNeg ((20 : Int32) + i1))) (fun v_14 => (if 1 ≤ dp then (g_117 n (dp - 1) (z, kd, R) 0 I L).bind (fun ⟨x_16, I_16, L_16⟩ => (if (8 : Int32) ≤ v_14 then (some (((-1 : Int32), z, kd, I_16, L_16, R), 0, 0)) else (if v_14 = 0 then (if 1 ≤ dp then (g_24 n (dp - 1) (z, kd, R) 0 I_16 L_16 0 0).bind (fun ⟨x_35, I_35, L_35⟩ => (if x_35 < (5 : Int32) then (g_131 n dp 1 z kd I_35 L_35 R i1 ((20 : Int32) + i1) v_14 x_16) else (some (((-1 : Int32), z, kd, I_35, L_35, R), 0, 0)))) else none) else (g_131 n dp 1 z kd I_16 L_16 R i1 ((20 : Int32) + i1) v_14 x_16)))) else none))) else none)
    else if lab = 1 then (if 0 ≤ ((0 : Int32) + i1) ∧ (Int32.toNatClampNeg ((0 : Int32) + i1)) < 30 then (if 0 ≤ ((10 : Int32) + i1) ∧ (Int32.toNatClampNeg ((10 : Int32) + i1)) < 30 then (if (I 4 (Int32.toNatClampNeg ((0 : Int32) + i1))) = (I 4 (Int32.toNatClampNeg ((10 : Int32) + i1))) then (some (((0 : Int32), z, kd, I, L, R), 0, 0)) else (if 1 ≤ dp then (g_132 n (dp - 1) (z, kd, R) 0 I L i1 0 0 0 0).bind (fun ⟨x_73, I_73, L_73⟩ => (if i3 < x_73 then (if 0 ≤ i2 ∧ (Int32.toNatClampNeg i2) < 30 then (stI (u2 I_73 4 (Int32.toNatClampNeg i2) (i3 + (1 : Int32))) (fun I_92 => (stI (u2 I_92 24 14 (1 : Int32)) (fun I_95 => (if 1 ≤ dp then (g_95 n (dp - 1) 0 z kd I_95 L_73 R).bind (fun ⟨⟨z_99, kd_99, I_99, L_99, R_99⟩, ck_99, cm_99⟩ => (adk ck_99 cm_99 (if 1 ≤ dp then (g_104 n (dp - 1) 0 z_99 kd_99 I_99 L_99 R_99 (I_99 2 0) (I_99 2 1) (I_99 2 2)).bind (fun ⟨⟨z_130, kd_130, I_130, L_130, R_130⟩, ck_130, cm_130⟩ => (adk ck_130 cm_130 (if 0 ≤ i2 ∧ (Int32.toNatClampNeg i2) < 30 then (stI (u2 I_130 4 (Int32.toNatClampNeg i2) i3) (fun I_142 => (stI (u2 I_142 24 14 (1 : Int32)) (fun I_145 => (some (((((I_145 44 8) / (16 : Int32)) - i4), z_130, kd_130, I_145, L_130, R_130), 0, 0)))))) else none))) else none))) else none))))) else none) else (some (((0 : Int32), z, kd, I_73, L_73, R), 0, 0)))) else none)) else none) else none)
    else none
set_option maxRecDepth 100000 in
theorem e_131_0 (n dp : Nat) (z : Nat) (kd : (Nat → Nat × Nat)) (I : (Nat → Nat → Int32)) (L : (Nat → Nat → Int64)) (R : (Nat → Nat → Option Nat)) (i1 : Int32) (i2 : Int32) (i3 : Int32) (i4 : Int32) : g_131 (n + 1) dp 0 z kd I L R i1 i2 i3 i4 = (if 0 ≤ ((20 : Int32) + i1) ∧ (Int32.toNatClampNeg ((20 : Int32) + i1)) < 30 then (stI (I 4 (Int32.toNatClampNeg ((20 : Int32) + i1))) (fun v_14 => (if 1 ≤ dp then (g_117 n (dp - 1) (z, kd, R) 0 I L).bind (fun ⟨x_16, I_16, L_16⟩ => (if (8 : Int32) ≤ v_14 then (some (((-1 : Int32), z, kd, I_16, L_16, R), 0, 0)) else (if v_14 = 0 then (if 1 ≤ dp then (g_24 n (dp - 1) (z, kd, R) 0 I_16 L_16 0 0).bind (fun ⟨x_35, I_35, L_35⟩ => (if x_35 < (5 : Int32) then (g_131 n dp 1 z kd I_35 L_35 R i1 ((20 : Int32) + i1) v_14 x_16) else (some (((-1 : Int32), z, kd, I_35, L_35, R), 0, 0)))) else none) else (g_131 n dp 1 z kd I_16 L_16 R i1 ((20 : Int32) + i1) v_14 x_16)))) else none))) else none) := by rw [g_131.eq_2, if_pos (show (0 : Nat) = 0 from rfl)]
set_option maxRecDepth 100000 in
theorem e_131_1 (n dp : Nat) (z : Nat) (kd : (Nat → Nat × Nat)) (I : (Nat → Nat → Int32)) (L : (Nat → Nat → Int64)) (R : (Nat → Nat → Option Nat)) (i1 : Int32) (i2 : Int32) (i3 : Int32) (i4 : Int32) : g_131 (n + 1) dp 1 z kd I L R i1 i2 i3 i4 = (if 0 ≤ ((0 : Int32) + i1) ∧ (Int32.toNatClampNeg ((0 : Int32) + i1)) < 30 then (if 0 ≤ ((10 : Int32) + i1) ∧ (Int32.toNatClampNeg ((10 : Int32) + i1)) < 30 then (if (I 4 (Int32.toNatClampNeg ((0 : Int32) + i1))) = (I 4 (Int32.toNatClampNeg ((10 : Int32) + i1))) then (some (((0 : Int32), z, kd, I, L, R), 0, 0)) else (if 1 ≤ dp then (g_132 n (dp - 1) (z, kd, R) 0 I L i1 0 0 0 0).bind (fun ⟨x_73, I_73, L_73⟩ => (if i3 < x_73 then (if 0 ≤ i2 ∧ (Int32.toNatClampNeg i2) < 30 then (stI (u2 I_73 4 (Int32.toNatClampNeg i2) (i3 + (1 : Int32))) (fun I_92 => (stI (u2 I_92 24 14 (1 : Int32)) (fun I_95 => (if 1 ≤ dp then (g_95 n (dp - 1) 0 z kd I_95 L_73 R).bind (fun ⟨⟨z_99, kd_99, I_99, L_99, R_99⟩, ck_99, cm_99⟩ => (adk ck_99 cm_99 (if 1 ≤ dp then (g_104 n (dp - 1) 0 z_99 kd_99 I_99 L_99 R_99 (I_99 2 0) (I_99 2 1) (I_99 2 2)).bind (fun ⟨⟨z_130, kd_130, I_130, L_130, R_130⟩, ck_130, cm_130⟩ => (adk ck_130 cm_130 (if 0 ≤ i2 ∧ (Int32.toNatClampNeg i2) < 30 then (stI (u2 I_130 4 (Int32.toNatClampNeg i2) i3) (fun I_142 => (stI (u2 I_142 24 14 (1 : Int32)) (fun I_145 => (some (((((I_145 44 8) / (16 : Int32)) - i4), z_130, kd_130, I_145, L_130, R_130), 0, 0)))))) else none))) else none))) else none))))) else none) else (some (((0 : Int32), z, kd, I_73, L_73, R), 0, 0)))) else none)) else none) else none) := by rw [g_131.eq_2, if_neg (show ¬ ((1 : Nat) = 0) by decide), if_pos (show (1 : Nat) = 1 from rfl)]
set_option maxHeartbeats 8000000 in
set_option maxRecDepth 100000 in
theorem w_131 (X : GX) : ∀ (n dp d : Nat), dp ≤ d → ∀ (z : Nat) (kd : (Nat → Nat × Nat)) (I : (Nat → Nat → Int32)) (L : (Nat → Nat → Int64)) (R : (Nat → Nat → Option Nat)), Sh z kd R → ∀ (i1 : Int32) (i2 : Int32) (i3 : Int32) (i4 : Int32) (r : Int32) (z1 : Nat) (kd1 : (Nat → Nat × Nat)) (I1 : (Nat → Nat → Int32)) (L1 : (Nat → Nat → Int64)) (R1 : (Nat → Nat → Option Nat)) (k1 m1 : Nat), (g_131 n dp 0 z kd I L R i1 i2 i3 i4 = some ((r, z1, kd1, I1, L1, R1), k1, m1) → ∀ MC MS k m : Nat, k + k1 ≤ MC → m + m1 ≤ MS → K X d 131 MC MS (AI (fun x τ => x = r ∧ τ = (z1, kd1, I1, L1, R1))) 0 [some (.ref 24), some (.int i1), none, none, none] [] (z, kd, I, L, R) k m) ∧
    (g_131 n dp 1 z kd I L R i1 i2 i3 i4 = some ((r, z1, kd1, I1, L1, R1), k1, m1) → ∀ MC MS k m : Nat, k + k1 ≤ MC → m + m1 ≤ MS → K X d 131 MC MS (AI (fun x τ => x = r ∧ τ = (z1, kd1, I1, L1, R1))) 44 [some (.ref 24), some (.int i1), some (.int i2), some (.int i3), some (.int i4)] [] (z, kd, I, L, R) k m) := by
  intro n
  induction n with
  | zero => intro dp d hdp z kd I L R hS  i1 i2 i3 i4 r z1 kd1 I1 L1 R1 k1 m1; exact ⟨(fun h => by cases h), (fun h => by cases h)⟩
  | succ n ih =>
    intro dp d hdp z kd I L R hS  i1 i2 i3 i4 r z1 kd1 I1 L1 R1 k1 m1
    refine ⟨?_, ?_⟩
    · intro h MC MS k m hMC hMS
      rw [e_131_0] at h
      refine K_of b_131_0 h_131_0 ?_
      refine q_iconst (20) (by decide) ?_
      refine q_iload rfl ?_
      refine q_iadd ?_
      refine q_istore (ls1 := [some (.ref 24), some (.int i1), some (.int ((20 : Int32) + i1)), none, none]) (Nat.le_of_ble_eq_true rfl) rfl ?_
      refine q_aload rfl ?_
      refine q_getRs (c0 := 7) (j := 0) rfl rfl (zl hS 24 (by decide)) (sk hS 24 (by decide) rfl) rfl (by decide) (r_24_0 hS) ?_
      refine q_getRs (c0 := 3) (j := 2) rfl rfl (zl hS 1 (by decide)) (sk hS 1 (by decide) rfl) rfl (by decide) (r_1_2 hS) ?_
      refine q_iload rfl ?_
      obtain ⟨⟨u_13, v_13⟩, h⟩ := ite_some h
      refine q_ialN (Int32.toNatClampNeg ((20 : Int32) + i1)) (nx u_13) (zl hS 4 (by decide)) (sk hS 4 (by decide) rfl) v_13 (by decide) ?_
      obtain ⟨v_14, nv_14, h⟩ := stI_some h
      refine q_eqi nv_14.symm ?_
      refine q_istore (ls1 := [some (.ref 24), some (.int i1), some (.int ((20 : Int32) + i1)), some (.int v_14), none]) (Nat.le_of_ble_eq_true rfl) rfl ?_
      refine q_aload rfl ?_
      obtain ⟨d_16, h⟩ := ite_some h
      obtain ⟨⟨x_16, I_16, L_16⟩, e_16, h⟩ := Option.bind_eq_some_iff.mp h
      dsimp only at h
      refine q_fv1I (a_117 X hS (d := d - 1) (by omega) e_16) (by omega) (by omega) (by omega) rfl (Nat.le_of_ble_eq_true rfl) ⟨(zl hS 24 (by decide)), congrArg Prod.fst (sk hS 24 (by decide) rfl), by decide⟩ ?_
      refine q_istore (ls1 := [some (.ref 24), some (.int i1), some (.int ((20 : Int32) + i1)), some (.int v_14), some (.int x_16)]) (Nat.le_of_ble_eq_true rfl) rfl ?_
      refine q_iload rfl ?_
      refine q_iconst (8) (by decide) ?_
      refine q_icmp_ge (fun c_24 => ?_) (fun c_24 => ?_)
      · rw [if_pos c_24] at h
        refine K_of b_131_42 h_131_42 ?_
        refine q_iconst (-1) (by decide) ?_
        cases h
        exact q_iret rfl (by omega) (by omega) ⟨rfl, rfl⟩
      · rw [if_neg c_24] at h
        refine q_iload rfl ?_
        refine q_if_ne (fun c_28 => ?_) (fun c_28 => ?_)
        · rw [if_neg c_28] at h
          exact (ih dp d hdp _ _ _ _ _ hS i1 ((20 : Int32) + i1) v_14 x_16 _ _ _ _ _ _ _ _).2 h MC MS _ _ (by omega) (by omega)
        · rw [if_pos c_28] at h
          refine q_aload rfl ?_
          refine q_getRs (c0 := 7) (j := 0) rfl rfl (zl hS 24 (by decide)) (sk hS 24 (by decide) rfl) rfl (by decide) (r_24_0 hS) ?_
          obtain ⟨d_35, h⟩ := ite_some h
          obtain ⟨⟨x_35, I_35, L_35⟩, e_35, h⟩ := Option.bind_eq_some_iff.mp h
          dsimp only at h
          refine q_fv1I (a_24 X hS (d := d - 1) (by omega) e_35) (by omega) (by omega) (by omega) rfl (Nat.le_of_ble_eq_true rfl) ⟨(zl hS 1 (by decide)), congrArg Prod.fst (sk hS 1 (by decide) rfl), by decide⟩ ?_
          refine q_iconst (5) (by decide) ?_
          refine q_icmp_lt (fun c_39 => ?_) (fun c_39 => ?_)
          · rw [if_pos c_39] at h
            exact (ih dp d hdp _ _ _ _ _ hS i1 ((20 : Int32) + i1) v_14 x_16 _ _ _ _ _ _ _ _).2 h MC MS _ _ (by omega) (by omega)
          · rw [if_neg c_39] at h
            refine q_end ?_
            refine K_of b_131_42 h_131_42 ?_
            refine q_iconst (-1) (by decide) ?_
            cases h
            exact q_iret rfl (by omega) (by omega) ⟨rfl, rfl⟩
    · intro h MC MS k m hMC hMS
      rw [e_131_1] at h
      refine K_of b_131_44 h_131_44 ?_
      refine q_aload rfl ?_
      refine q_getRs (c0 := 7) (j := 0) rfl rfl (zl hS 24 (by decide)) (sk hS 24 (by decide) rfl) rfl (by decide) (r_24_0 hS) ?_
      refine q_getRs (c0 := 3) (j := 2) rfl rfl (zl hS 1 (by decide)) (sk hS 1 (by decide) rfl) rfl (by decide) (r_1_2 hS) ?_
      refine q_iconst (0) (by decide) ?_
      refine q_iload rfl ?_
      refine q_iadd ?_
      obtain ⟨⟨u_54, v_54⟩, h⟩ := ite_some h
      refine q_ialN (Int32.toNatClampNeg ((0 : Int32) + i1)) (nx u_54) (zl hS 4 (by decide)) (sk hS 4 (by decide) rfl) v_54 (by decide) ?_
      refine q_aload rfl ?_
      refine q_getRs (c0 := 7) (j := 0) rfl rfl (zl hS 24 (by decide)) (sk hS 24 (by decide) rfl) rfl (by decide) (r_24_0 hS) ?_
      refine q_getRs (c0 := 3) (j := 2) rfl rfl (zl hS 1 (by decide)) (sk hS 1 (by decide) rfl) rfl (by decide) (r_1_2 hS) ?_
      refine q_iconst (10) (by decide) ?_
      refine q_iload rfl ?_
      refine q_iadd ?_
      obtain ⟨⟨u_66, v_66⟩, h⟩ := ite_some h
      refine q_ialN (Int32.toNatClampNeg ((10 : Int32) + i1)) (nx u_66) (zl hS 4 (by decide)) (sk hS 4 (by decide) rfl) v_66 (by decide) ?_
      refine q_icmp_eq (fun c_67 => ?_) (fun c_67 => ?_)
      · rw [if_pos c_67] at h
        refine K_of b_131_79 h_131_79 ?_
        refine q_iconst (0) (by decide) ?_
        cases h
        exact q_iret rfl (by omega) (by omega) ⟨rfl, rfl⟩
      · rw [if_neg c_67] at h
        refine q_iload rfl ?_
        refine q_aload rfl ?_
        refine q_iload rfl ?_
        obtain ⟨d_73, h⟩ := ite_some h
        obtain ⟨⟨x_73, I_73, L_73⟩, e_73, h⟩ := Option.bind_eq_some_iff.mp h
        dsimp only at h
        refine q_fv2I (a_132 X hS (d := d - 1) (by omega) e_73) (by omega) (by omega) (by omega) rfl (Nat.le_of_ble_eq_true rfl) ⟨(zl hS 24 (by decide)), congrArg Prod.fst (sk hS 24 (by decide) rfl), by decide⟩ ?_
        refine q_icmp_lt (fun c_76 => ?_) (fun c_76 => ?_)
        · rw [if_pos c_76] at h
          refine K_of b_131_81 h_131_81 ?_
          refine q_aload rfl ?_
          refine q_getRs (c0 := 7) (j := 0) rfl rfl (zl hS 24 (by decide)) (sk hS 24 (by decide) rfl) rfl (by decide) (r_24_0 hS) ?_
          refine q_getRs (c0 := 3) (j := 2) rfl rfl (zl hS 1 (by decide)) (sk hS 1 (by decide) rfl) rfl (by decide) (r_1_2 hS) ?_
          refine q_iload rfl ?_
          refine q_iload rfl ?_
          refine q_iconst (1) (by decide) ?_
          refine q_iadd ?_
          obtain ⟨⟨u_92, v_92⟩, h⟩ := ite_some h
          refine q_iasN (Int32.toNatClampNeg i2) (nx u_92) (zl hS 4 (by decide)) (sk hS 4 (by decide) rfl) v_92 (by decide) ?_
          obtain ⟨I_92, nI_92, h⟩ := stI_some h
          refine q_nI nI_92 ?_
          refine q_aload rfl ?_
          refine q_iconst (1) (by decide) ?_
          refine q_putZ (c0 := 7) (j := 14) rfl rfl (zl hS 24 (by decide)) (sk hS 24 (by decide) rfl) rfl (Or.inr rfl) ?_
          obtain ⟨I_95, nI_95, h⟩ := stI_some h
          refine q_nI nI_95 ?_
          refine q_aload rfl ?_
          obtain ⟨d_99, h⟩ := ite_some h
          obtain ⟨⟨⟨z_99, kd_99, I_99, L_99, R_99⟩, ck_99, cm_99⟩, e_99, h⟩ := Option.bind_eq_some_iff.mp h
          dsimp only at h
          obtain ⟨mk_99, ms_99, h, ek_99, em_99⟩ := adk_some h
          refine q_gv1V (a_95 X hS (d := d - 1) (by omega) e_99) (by omega) (by omega) (by omega) rfl (Nat.le_of_ble_eq_true rfl) ⟨(zl hS 24 (by decide)), congrArg Prod.fst (sk hS 24 (by decide) rfl), by decide⟩ ?_
          have hS_99 := s_95 hS e_99
          refine q_aload rfl ?_
          refine q_aload rfl ?_
          refine q_getRs (c0 := 7) (j := 0) rfl rfl (zl hS_99 24 (by decide)) (sk hS_99 24 (by decide) rfl) rfl (by decide) (r_24_0 hS_99) ?_
          refine q_getRs (c0 := 3) (j := 0) rfl rfl (zl hS_99 1 (by decide)) (sk hS_99 1 (by decide) rfl) rfl (by decide) (r_1_0 hS_99) ?_
          refine q_iconst (0) (by decide) ?_
          refine q_ialN (0) rfl (zl hS_99 2 (by decide)) (sk hS_99 2 (by decide) rfl) (by decide) (by decide) ?_
          refine q_aload rfl ?_
          refine q_getRs (c0 := 7) (j := 0) rfl rfl (zl hS_99 24 (by decide)) (sk hS_99 24 (by decide) rfl) rfl (by decide) (r_24_0 hS_99) ?_
          refine q_getRs (c0 := 3) (j := 0) rfl rfl (zl hS_99 1 (by decide)) (sk hS_99 1 (by decide) rfl) rfl (by decide) (r_1_0 hS_99) ?_
          refine q_iconst (1) (by decide) ?_
          refine q_ialN (1) rfl (zl hS_99 2 (by decide)) (sk hS_99 2 (by decide) rfl) (by decide) (by decide) ?_
          refine q_aload rfl ?_
          refine q_getRs (c0 := 7) (j := 0) rfl rfl (zl hS_99 24 (by decide)) (sk hS_99 24 (by decide) rfl) rfl (by decide) (r_24_0 hS_99) ?_
          refine q_getRs (c0 := 3) (j := 0) rfl rfl (zl hS_99 1 (by decide)) (sk hS_99 1 (by decide) rfl) rfl (by decide) (r_1_0 hS_99) ?_
          refine q_iconst (2) (by decide) ?_
          refine q_ialN (2) rfl (zl hS_99 2 (by decide)) (sk hS_99 2 (by decide) rfl) (by decide) (by decide) ?_
          obtain ⟨d_130, h⟩ := ite_some h
          obtain ⟨⟨⟨z_130, kd_130, I_130, L_130, R_130⟩, ck_130, cm_130⟩, e_130, h⟩ := Option.bind_eq_some_iff.mp h
          dsimp only at h
          obtain ⟨mk_130, ms_130, h, ek_130, em_130⟩ := adk_some h
          refine q_gv4V (a_104 X hS_99 (d := d - 1) (by omega) e_130) (by omega) (by omega) (by omega) rfl (Nat.le_of_ble_eq_true rfl) ⟨(zl hS_99 24 (by decide)), congrArg Prod.fst (sk hS_99 24 (by decide) rfl), by decide⟩ ?_
          have hS_130 := s_104 hS_99 e_130
          refine q_aload rfl ?_
          refine q_getRs (c0 := 7) (j := 0) rfl rfl (zl hS_130 24 (by decide)) (sk hS_130 24 (by decide) rfl) rfl (by decide) (r_24_0 hS_130) ?_
          refine q_getRs (c0 := 3) (j := 2) rfl rfl (zl hS_130 1 (by decide)) (sk hS_130 1 (by decide) rfl) rfl (by decide) (r_1_2 hS_130) ?_
          refine q_iload rfl ?_
          refine q_iload rfl ?_
          obtain ⟨⟨u_142, v_142⟩, h⟩ := ite_some h
          refine q_iasN (Int32.toNatClampNeg i2) (nx u_142) (zl hS_130 4 (by decide)) (sk hS_130 4 (by decide) rfl) v_142 (by decide) ?_
          obtain ⟨I_142, nI_142, h⟩ := stI_some h
          refine q_nI nI_142 ?_
          refine q_aload rfl ?_
          refine q_iconst (1) (by decide) ?_
          refine q_putZ (c0 := 7) (j := 14) rfl rfl (zl hS_130 24 (by decide)) (sk hS_130 24 (by decide) rfl) rfl (Or.inr rfl) ?_
          obtain ⟨I_145, nI_145, h⟩ := stI_some h
          refine q_nI nI_145 ?_
          refine q_aload rfl ?_
          refine q_getRs (c0 := 7) (j := 4) rfl rfl (zl hS_130 24 (by decide)) (sk hS_130 24 (by decide) rfl) rfl (by decide) (r_24_4 hS_130) ?_
          refine q_getI (c0 := 4) (j := 8) rfl rfl (zl hS_130 44 (by decide)) (sk hS_130 44 (by decide) rfl) (Or.inl rfl) (by decide) ?_
          refine q_iconst (16) (by decide) ?_
          refine q_idiv (by decide) ?_
          refine q_iload rfl ?_
          refine q_isub ?_
          cases h
          exact q_iret rfl (by omega) (by omega) ⟨rfl, rfl⟩
        · rw [if_neg c_76] at h
          refine q_end ?_
          refine K_of b_131_79 h_131_79 ?_
          refine q_iconst (0) (by decide) ?_
          cases h
          exact q_iret rfl (by omega) (by omega) ⟨rfl, rfl⟩
set_option maxHeartbeats 8000000 in
set_option maxRecDepth 100000 in
theorem t_131 : ∀ (n dp : Nat) (z : Nat) (kd : (Nat → Nat × Nat)) (I : (Nat → Nat → Int32)) (L : (Nat → Nat → Int64)) (R : (Nat → Nat → Option Nat)), Sh z kd R → ∀ (i1 : Int32) (i2 : Int32) (i3 : Int32) (i4 : Int32) (r : Int32) (z1 : Nat) (kd1 : (Nat → Nat × Nat)) (I1 : (Nat → Nat → Int32)) (L1 : (Nat → Nat → Int64)) (R1 : (Nat → Nat → Option Nat)) (k1 m1 : Nat), (g_131 n dp 0 z kd I L R i1 i2 i3 i4 = some ((r, z1, kd1, I1, L1, R1), k1, m1) → Sh z1 kd1 R1) ∧
    (g_131 n dp 1 z kd I L R i1 i2 i3 i4 = some ((r, z1, kd1, I1, L1, R1), k1, m1) → Sh z1 kd1 R1) := by
  intro n
  induction n with
  | zero => intro dp z kd I L R hS i1 i2 i3 i4 r z1 kd1 I1 L1 R1 k1 m1; exact ⟨(fun h => by cases h), (fun h => by cases h)⟩
  | succ n ih =>
    intro dp z kd I L R hS i1 i2 i3 i4 r z1 kd1 I1 L1 R1 k1 m1
    refine ⟨?_, ?_⟩
    · intro h
      rw [e_131_0] at h
      obtain ⟨⟨u_13, v_13⟩, h⟩ := ite_some h
      obtain ⟨v_14, nv_14, h⟩ := stI_some h
      obtain ⟨d_16, h⟩ := ite_some h
      obtain ⟨⟨x_16, I_16, L_16⟩, e_16, h⟩ := Option.bind_eq_some_iff.mp h
      dsimp only at h
      by_cases c_24 : (8 : Int32) ≤ v_14
      · rw [if_pos c_24] at h
        cases h
        exact hS
      · rw [if_neg c_24] at h
        by_cases c_28 : v_14 = 0
        · rw [if_pos c_28] at h
          obtain ⟨d_35, h⟩ := ite_some h
          obtain ⟨⟨x_35, I_35, L_35⟩, e_35, h⟩ := Option.bind_eq_some_iff.mp h
          dsimp only at h
          by_cases c_39 : x_35 < (5 : Int32)
          · rw [if_pos c_39] at h
            exact (ih dp _ _ _ _ _ hS i1 ((20 : Int32) + i1) v_14 x_16 _ _ _ _ _ _ _ _).2 h
          · rw [if_neg c_39] at h
            cases h
            exact hS
        · rw [if_neg c_28] at h
          exact (ih dp _ _ _ _ _ hS i1 ((20 : Int32) + i1) v_14 x_16 _ _ _ _ _ _ _ _).2 h
    · intro h
      rw [e_131_1] at h
      obtain ⟨⟨u_54, v_54⟩, h⟩ := ite_some h
      obtain ⟨⟨u_66, v_66⟩, h⟩ := ite_some h
      by_cases c_67 : (I 4 (Int32.toNatClampNeg ((0 : Int32) + i1))) = (I 4 (Int32.toNatClampNeg ((10 : Int32) + i1)))
      · rw [if_pos c_67] at h
        cases h
        exact hS
      · rw [if_neg c_67] at h
        obtain ⟨d_73, h⟩ := ite_some h
        obtain ⟨⟨x_73, I_73, L_73⟩, e_73, h⟩ := Option.bind_eq_some_iff.mp h
        dsimp only at h
        by_cases c_76 : i3 < x_73
        · rw [if_pos c_76] at h
          obtain ⟨⟨u_92, v_92⟩, h⟩ := ite_some h
          obtain ⟨I_92, nI_92, h⟩ := stI_some h
          obtain ⟨I_95, nI_95, h⟩ := stI_some h
          obtain ⟨d_99, h⟩ := ite_some h
          obtain ⟨⟨⟨z_99, kd_99, I_99, L_99, R_99⟩, ck_99, cm_99⟩, e_99, h⟩ := Option.bind_eq_some_iff.mp h
          dsimp only at h
          obtain ⟨mk_99, ms_99, h, ek_99, em_99⟩ := adk_some h
          have hS_99 := s_95 hS e_99
          obtain ⟨d_130, h⟩ := ite_some h
          obtain ⟨⟨⟨z_130, kd_130, I_130, L_130, R_130⟩, ck_130, cm_130⟩, e_130, h⟩ := Option.bind_eq_some_iff.mp h
          dsimp only at h
          obtain ⟨mk_130, ms_130, h, ek_130, em_130⟩ := adk_some h
          have hS_130 := s_104 hS_99 e_130
          obtain ⟨⟨u_142, v_142⟩, h⟩ := ite_some h
          obtain ⟨I_142, nI_142, h⟩ := stI_some h
          obtain ⟨I_145, nI_145, h⟩ := stI_some h
          cases h
          exact hS_130
        · rw [if_neg c_76] at h
          cases h
          exact hS
theorem a_131 (X : GX) {z : Nat} {kd : (Nat → Nat × Nat)} {I : (Nat → Nat → Int32)} {L : (Nat → Nat → Int64)} {R : (Nat → Nat → Option Nat)} (hS : Sh z kd R) {n dp d : Nat} (hd : dp ≤ d) {i1 : Int32} {r : Int32} {z1 : Nat} {kd1 : (Nat → Nat × Nat)} {I1 : (Nat → Nat → Int32)} {L1 : (Nat → Nat → Int64)} {R1 : (Nat → Nat → Option Nat)} {k1 m1 : Nat} (h : g_131 n dp 0 z kd I L R i1 0 0 0 = some ((r, z1, kd1, I1, L1, R1), k1, m1)) : Ct X d 131 k1 m1 [.ref 24, .int i1] (z, kd, I, L, R) (AI (fun x τ => x = r ∧ τ = (z1, kd1, I1, L1, R1))) :=
  Ct_of mu_131 (Nat.le_of_ble_eq_true rfl) ((w_131 X n dp d hd z kd I L R hS i1 0 0 0 _ _ _ _ _ _ _ _).1 h k1 m1 0 0 (by omega) (by omega))
theorem s_131 {z : Nat} {kd : (Nat → Nat × Nat)} {I : (Nat → Nat → Int32)} {L : (Nat → Nat → Int64)} {R : (Nat → Nat → Option Nat)} (hS : Sh z kd R) {n dp : Nat} {i1 : Int32} {r : Int32} {z1 : Nat} {kd1 : (Nat → Nat × Nat)} {I1 : (Nat → Nat → Int32)} {L1 : (Nat → Nat → Int64)} {R1 : (Nat → Nat → Option Nat)} {k1 m1 : Nat} (h : g_131 n dp 0 z kd I L R i1 0 0 0 = some ((r, z1, kd1, I1, L1, R1), k1, m1)) : Sh z1 kd1 R1 := (t_131 n dp z kd I L R hS i1 0 0 0 _ _ _ _ _ _ _ _).1 h

/-! 120 CutFloor$Planner.findFirst()V -/
set_option maxHeartbeats 4000000 in
set_option maxRecDepth 100000 in
def g_120 : Nat → Nat → Nat → Nat → (Nat → Nat × Nat) → (Nat → Nat → Int32) → (Nat → Nat → Int64) → (Nat → Nat → Option Nat) → Int32 → Int32 → Int32 → Int32 →  Option ((PS) × Nat × Nat)
  | 0, _, _, _, _, _, _, _, _, _, _, _ => none
  | n + 1, dp, lab, z, kd, I, L, R, i1, i2, i3, i4 =>
    if lab = 0 then (if (I 24 15) = 0 then (some ((z, kd, I, L, R), 0, 0)) else (if 1 ≤ dp then (g_117 n (dp - 1) (z, kd, R) 0 I L).bind (fun ⟨x_9, I_9, L_9⟩ => (if 1 ≤ dp then (g_95 n (dp - 1) 0 z kd I_9 L_9 R).bind (fun ⟨⟨z_17, kd_17, I_17, L_17, R_17⟩, ck_17, cm_17⟩ => (adk ck_17 cm_17 (if 1 ≤ dp then (g_105 n (dp - 1) (z_17, kd_17, R_17) 0 I_17 L_17 (I_17 2 0) (I_17 2 1) (I_17 2 2) 0 0).bind (fun ⟨x_48, I_48, L_48⟩ => (if 1 ≤ dp then (g_106 n (dp - 1) 0 z_17 kd_17 I_48 L_48 R_17 (x_48 - (1 : Int32)) 0 0).bind (fun ⟨⟨z_63, kd_63, I_63, L_63, R_63⟩, ck_63, cm_63⟩ => (adk ck_63 cm_63 (g_120 n dp 1 z_63 kd_63 I_63 L_63 R_63 (x_9 * (16 : Int32)) x_48 (I_63 26 18) (0 : Int32)))) else none)) else none))) else none)) else none))
    else if lab = 1 then (if i2 ≤ i4 then (if 1 ≤ dp then (g_36 n (dp - 1) (z, kd, R) 0 I L (-1 : Int32) 0 0 56).bind (fun ⟨I_162, L_162⟩ => (stI (u2 I_162 24 15 (0 : Int32)) (fun I_167 => (some ((z, kd, I_167, L_162, R), 0, 0))))) else none) else (if 1 ≤ dp then (g_121 n (dp - 1) (z, kd, R) 0 I L i4).bind (fun ⟨x_90, I_90, L_90⟩ => (if 1 ≤ dp then (g_122 n (dp - 1) (z, kd, R) 0 I_90 L_90 x_90 ((i2 - (1 : Int32)) - i4) i3 i1 0 0 0).bind (fun ⟨x_101, I_101, L_101⟩ => (if 0 ≤ x_101 ∧ (Int32.toNatClampNeg x_101) < 192 then (if 0 ≤ i4 ∧ (Int32.toNatClampNeg i4) < 8 then (stI (u2 I_101 55 (Int32.toNatClampNeg i4) (I_101 30 (Int32.toNatClampNeg x_101))) (fun I_122 => (if 0 ≤ x_101 ∧ (Int32.toNatClampNeg x_101) < 192 then (if 1 ≤ dp then (g_111 n (dp - 1) (z, kd, R) 0 I_122 L_101 i3 (I_122 27 (Int32.toNatClampNeg x_101))).bind (fun ⟨x_134, I_134, L_134⟩ => (if 0 ≤ x_101 ∧ (Int32.toNatClampNeg x_101) < 192 then (stI (i1 - (I_134 28 (Int32.toNatClampNeg x_101))) (fun v_150 => (g_120 n dp 1 z kd I_134 L_134 R v_150 i2 x_134 (i4 + Int32.ofInt (1))))) else none)) else none) else none))) else none) else none)) else none)) else none))
    else none
set_option maxRecDepth 100000 in
theorem e_120_0 (n dp : Nat) (z : Nat) (kd : (Nat → Nat × Nat)) (I : (Nat → Nat → Int32)) (L : (Nat → Nat → Int64)) (R : (Nat → Nat → Option Nat)) (i1 : Int32) (i2 : Int32) (i3 : Int32) (i4 : Int32) : g_120 (n + 1) dp 0 z kd I L R i1 i2 i3 i4 = (if (I 24 15) = 0 then (some ((z, kd, I, L, R), 0, 0)) else (if 1 ≤ dp then (g_117 n (dp - 1) (z, kd, R) 0 I L).bind (fun ⟨x_9, I_9, L_9⟩ => (if 1 ≤ dp then (g_95 n (dp - 1) 0 z kd I_9 L_9 R).bind (fun ⟨⟨z_17, kd_17, I_17, L_17, R_17⟩, ck_17, cm_17⟩ => (adk ck_17 cm_17 (if 1 ≤ dp then (g_105 n (dp - 1) (z_17, kd_17, R_17) 0 I_17 L_17 (I_17 2 0) (I_17 2 1) (I_17 2 2) 0 0).bind (fun ⟨x_48, I_48, L_48⟩ => (if 1 ≤ dp then (g_106 n (dp - 1) 0 z_17 kd_17 I_48 L_48 R_17 (x_48 - (1 : Int32)) 0 0).bind (fun ⟨⟨z_63, kd_63, I_63, L_63, R_63⟩, ck_63, cm_63⟩ => (adk ck_63 cm_63 (g_120 n dp 1 z_63 kd_63 I_63 L_63 R_63 (x_9 * (16 : Int32)) x_48 (I_63 26 18) (0 : Int32)))) else none)) else none))) else none)) else none)) := by rw [g_120.eq_2, if_pos (show (0 : Nat) = 0 from rfl)]
set_option maxRecDepth 100000 in
theorem e_120_1 (n dp : Nat) (z : Nat) (kd : (Nat → Nat × Nat)) (I : (Nat → Nat → Int32)) (L : (Nat → Nat → Int64)) (R : (Nat → Nat → Option Nat)) (i1 : Int32) (i2 : Int32) (i3 : Int32) (i4 : Int32) : g_120 (n + 1) dp 1 z kd I L R i1 i2 i3 i4 = (if i2 ≤ i4 then (if 1 ≤ dp then (g_36 n (dp - 1) (z, kd, R) 0 I L (-1 : Int32) 0 0 56).bind (fun ⟨I_162, L_162⟩ => (stI (u2 I_162 24 15 (0 : Int32)) (fun I_167 => (some ((z, kd, I_167, L_162, R), 0, 0))))) else none) else (if 1 ≤ dp then (g_121 n (dp - 1) (z, kd, R) 0 I L i4).bind (fun ⟨x_90, I_90, L_90⟩ => (if 1 ≤ dp then (g_122 n (dp - 1) (z, kd, R) 0 I_90 L_90 x_90 ((i2 - (1 : Int32)) - i4) i3 i1 0 0 0).bind (fun ⟨x_101, I_101, L_101⟩ => (if 0 ≤ x_101 ∧ (Int32.toNatClampNeg x_101) < 192 then (if 0 ≤ i4 ∧ (Int32.toNatClampNeg i4) < 8 then (stI (u2 I_101 55 (Int32.toNatClampNeg i4) (I_101 30 (Int32.toNatClampNeg x_101))) (fun I_122 => (if 0 ≤ x_101 ∧ (Int32.toNatClampNeg x_101) < 192 then (if 1 ≤ dp then (g_111 n (dp - 1) (z, kd, R) 0 I_122 L_101 i3 (I_122 27 (Int32.toNatClampNeg x_101))).bind (fun ⟨x_134, I_134, L_134⟩ => (if 0 ≤ x_101 ∧ (Int32.toNatClampNeg x_101) < 192 then (stI (i1 - (I_134 28 (Int32.toNatClampNeg x_101))) (fun v_150 => (g_120 n dp 1 z kd I_134 L_134 R v_150 i2 x_134 (i4 + Int32.ofInt (1))))) else none)) else none) else none))) else none) else none)) else none)) else none)) := by rw [g_120.eq_2, if_neg (show ¬ ((1 : Nat) = 0) by decide), if_pos (show (1 : Nat) = 1 from rfl)]
set_option maxHeartbeats 8000000 in
set_option maxRecDepth 100000 in
theorem w_120 (X : GX) : ∀ (n dp d : Nat), dp ≤ d → ∀ (z : Nat) (kd : (Nat → Nat × Nat)) (I : (Nat → Nat → Int32)) (L : (Nat → Nat → Int64)) (R : (Nat → Nat → Option Nat)), Sh z kd R → ∀ (i1 : Int32) (i2 : Int32) (i3 : Int32) (i4 : Int32) (z1 : Nat) (kd1 : (Nat → Nat × Nat)) (I1 : (Nat → Nat → Int32)) (L1 : (Nat → Nat → Int64)) (R1 : (Nat → Nat → Option Nat)) (k1 m1 : Nat), (g_120 n dp 0 z kd I L R i1 i2 i3 i4 = some ((z1, kd1, I1, L1, R1), k1, m1) → ∀ MC MS k m : Nat, k + k1 ≤ MC → m + m1 ≤ MS → K X d 120 MC MS (AV (fun τ => τ = (z1, kd1, I1, L1, R1))) 0 [some (.ref 24), none, none, none, none, none] [] (z, kd, I, L, R) k m) ∧
    (g_120 n dp 1 z kd I L R i1 i2 i3 i4 = some ((z1, kd1, I1, L1, R1), k1, m1) → ∀ MC MS k m : Nat, k + k1 ≤ MC → m + m1 ≤ MS → K X d 120 MC MS (AV (fun τ => τ = (z1, kd1, I1, L1, R1))) 77 [some (.ref 24), some (.int i1), some (.int i2), some (.int i3), some (.int i4), none] [] (z, kd, I, L, R) k m) := by
  intro n
  induction n with
  | zero => intro dp d hdp z kd I L R hS  i1 i2 i3 i4 z1 kd1 I1 L1 R1 k1 m1; exact ⟨(fun h => by cases h), (fun h => by cases h)⟩
  | succ n ih =>
    intro dp d hdp z kd I L R hS  i1 i2 i3 i4 z1 kd1 I1 L1 R1 k1 m1
    refine ⟨?_, ?_⟩
    · intro h MC MS k m hMC hMS
      rw [e_120_0] at h
      refine K_of b_120_0 h_120_0 ?_
      refine q_aload rfl ?_
      refine q_getI (c0 := 7) (j := 15) rfl rfl (zl hS 24 (by decide)) (sk hS 24 (by decide) rfl) (Or.inr rfl) (by decide) ?_
      refine q_if_ne (fun c_4 => ?_) (fun c_4 => ?_)
      · rw [if_neg c_4] at h
        refine K_of b_120_8 h_120_8 ?_
        refine q_aload rfl ?_
        obtain ⟨d_9, h⟩ := ite_some h
        obtain ⟨⟨x_9, I_9, L_9⟩, e_9, h⟩ := Option.bind_eq_some_iff.mp h
        dsimp only at h
        refine q_fv1I (a_117 X hS (d := d - 1) (by omega) e_9) (by omega) (by omega) (by omega) rfl (Nat.le_of_ble_eq_true rfl) ⟨(zl hS 24 (by decide)), congrArg Prod.fst (sk hS 24 (by decide) rfl), by decide⟩ ?_
        refine q_iconst (16) (by decide) ?_
        refine q_imul ?_
        refine q_istore (ls1 := [some (.ref 24), some (.int (x_9 * (16 : Int32))), none, none, none, none]) (Nat.le_of_ble_eq_true rfl) rfl ?_
        refine q_aload rfl ?_
        obtain ⟨d_17, h⟩ := ite_some h
        obtain ⟨⟨⟨z_17, kd_17, I_17, L_17, R_17⟩, ck_17, cm_17⟩, e_17, h⟩ := Option.bind_eq_some_iff.mp h
        dsimp only at h
        obtain ⟨mk_17, ms_17, h, ek_17, em_17⟩ := adk_some h
        refine q_gv1V (a_95 X hS (d := d - 1) (by omega) e_17) (by omega) (by omega) (by omega) rfl (Nat.le_of_ble_eq_true rfl) ⟨(zl hS 24 (by decide)), congrArg Prod.fst (sk hS 24 (by decide) rfl), by decide⟩ ?_
        have hS_17 := s_95 hS e_17
        refine q_aload rfl ?_
        refine q_aload rfl ?_
        refine q_getRs (c0 := 7) (j := 0) rfl rfl (zl hS_17 24 (by decide)) (sk hS_17 24 (by decide) rfl) rfl (by decide) (r_24_0 hS_17) ?_
        refine q_getRs (c0 := 3) (j := 0) rfl rfl (zl hS_17 1 (by decide)) (sk hS_17 1 (by decide) rfl) rfl (by decide) (r_1_0 hS_17) ?_
        refine q_iconst (0) (by decide) ?_
        refine q_ialN (0) rfl (zl hS_17 2 (by decide)) (sk hS_17 2 (by decide) rfl) (by decide) (by decide) ?_
        refine q_aload rfl ?_
        refine q_getRs (c0 := 7) (j := 0) rfl rfl (zl hS_17 24 (by decide)) (sk hS_17 24 (by decide) rfl) rfl (by decide) (r_24_0 hS_17) ?_
        refine q_getRs (c0 := 3) (j := 0) rfl rfl (zl hS_17 1 (by decide)) (sk hS_17 1 (by decide) rfl) rfl (by decide) (r_1_0 hS_17) ?_
        refine q_iconst (1) (by decide) ?_
        refine q_ialN (1) rfl (zl hS_17 2 (by decide)) (sk hS_17 2 (by decide) rfl) (by decide) (by decide) ?_
        refine q_aload rfl ?_
        refine q_getRs (c0 := 7) (j := 0) rfl rfl (zl hS_17 24 (by decide)) (sk hS_17 24 (by decide) rfl) rfl (by decide) (r_24_0 hS_17) ?_
        refine q_getRs (c0 := 3) (j := 0) rfl rfl (zl hS_17 1 (by decide)) (sk hS_17 1 (by decide) rfl) rfl (by decide) (r_1_0 hS_17) ?_
        refine q_iconst (2) (by decide) ?_
        refine q_ialN (2) rfl (zl hS_17 2 (by decide)) (sk hS_17 2 (by decide) rfl) (by decide) (by decide) ?_
        obtain ⟨d_48, h⟩ := ite_some h
        obtain ⟨⟨x_48, I_48, L_48⟩, e_48, h⟩ := Option.bind_eq_some_iff.mp h
        dsimp only at h
        refine q_fv4I (a_105 X hS_17 (d := d - 1) (by omega) e_48) (by omega) (by omega) (by omega) rfl (Nat.le_of_ble_eq_true rfl) ⟨(zl hS_17 24 (by decide)), congrArg Prod.fst (sk hS_17 24 (by decide) rfl), by decide⟩ ?_
        refine q_istore (ls1 := [some (.ref 24), some (.int (x_9 * (16 : Int32))), some (.int x_48), none, none, none]) (Nat.le_of_ble_eq_true rfl) rfl ?_
        refine q_aload rfl ?_
        refine q_getRs (c0 := 7) (j := 4) rfl rfl (zl hS_17 24 (by decide)) (sk hS_17 24 (by decide) rfl) rfl (by decide) (r_24_4 hS_17) ?_
        refine q_aload rfl ?_
        refine q_getRs (c0 := 7) (j := 8) rfl rfl (zl hS_17 24 (by decide)) (sk hS_17 24 (by decide) rfl) rfl (by decide) (r_24_8 hS_17) ?_
        refine q_iload rfl ?_
        refine q_iconst (1) (by decide) ?_
        refine q_isub ?_
        obtain ⟨d_63, h⟩ := ite_some h
        obtain ⟨⟨⟨z_63, kd_63, I_63, L_63, R_63⟩, ck_63, cm_63⟩, e_63, h⟩ := Option.bind_eq_some_iff.mp h
        dsimp only at h
        obtain ⟨mk_63, ms_63, h, ek_63, em_63⟩ := adk_some h
        refine q_gv3V (a_106 X hS_17 (d := d - 1) (by omega) e_63) (by omega) (by omega) (by omega) rfl (Nat.le_of_ble_eq_true rfl) ⟨(zl hS_17 44 (by decide)), congrArg Prod.fst (sk hS_17 44 (by decide) rfl), by decide⟩ ?_
        have hS_63 := s_106 hS_17 e_63
        refine q_aload rfl ?_
        refine q_getRs (c0 := 7) (j := 3) rfl rfl (zl hS_63 24 (by decide)) (sk hS_63 24 (by decide) rfl) rfl (by decide) (r_24_3 hS_63) ?_
        refine q_getI (c0 := 6) (j := 18) rfl rfl (zl hS_63 26 (by decide)) (sk hS_63 26 (by decide) rfl) (Or.inl rfl) (by decide) ?_
        refine q_istore (ls1 := [some (.ref 24), some (.int (x_9 * (16 : Int32))), some (.int x_48), some (.int (I_63 26 18)), none, none]) (Nat.le_of_ble_eq_true rfl) rfl ?_
        refine q_iconst (0) (by decide) ?_
        refine q_istore (ls1 := [some (.ref 24), some (.int (x_9 * (16 : Int32))), some (.int x_48), some (.int (I_63 26 18)), some (.int (0 : Int32)), none]) (Nat.le_of_ble_eq_true rfl) rfl ?_
        refine q_end ?_
        exact (ih dp d hdp _ _ _ _ _ hS_63 (x_9 * (16 : Int32)) x_48 (I_63 26 18) (0 : Int32) _ _ _ _ _ _ _).2 h MC MS _ _ (by omega) (by omega)
      · rw [if_pos c_4] at h
        cases h
        exact q_vret rfl (by omega) (by omega) rfl
    · intro h MC MS k m hMC hMS
      rw [e_120_1] at h
      refine K_of b_120_77 h_120_77 ?_
      refine q_iload rfl ?_
      refine q_iload rfl ?_
      refine q_icmp_ge (fun c_80 => ?_) (fun c_80 => ?_)
      · rw [if_pos c_80] at h
        refine K_of b_120_157 h_120_157 ?_
        refine q_aload rfl ?_
        refine q_getRs (c0 := 7) (j := 10) rfl rfl (zl hS 24 (by decide)) (sk hS 24 (by decide) rfl) rfl (by decide) (r_24_10 hS) ?_
        refine q_iconst (-1) (by decide) ?_
        obtain ⟨d_162, h⟩ := ite_some h
        obtain ⟨⟨I_162, L_162⟩, e_162, h⟩ := Option.bind_eq_some_iff.mp h
        dsimp only at h
        refine q_fs2V (a_36 X hS (d := d - 1) (by omega) e_162) (by omega) (by omega) (by omega) rfl (Nat.le_of_ble_eq_true rfl) ?_
        refine q_aload rfl ?_
        refine q_iconst (0) (by decide) ?_
        refine q_putZ (c0 := 7) (j := 15) rfl rfl (zl hS 24 (by decide)) (sk hS 24 (by decide) rfl) rfl (Or.inl rfl) ?_
        obtain ⟨I_167, nI_167, h⟩ := stI_some h
        refine q_nI nI_167 ?_
        cases h
        exact q_vret rfl (by omega) (by omega) rfl
      · rw [if_neg c_80] at h
        refine q_aload rfl ?_
        refine q_aload rfl ?_
        refine q_getRs (c0 := 7) (j := 0) rfl rfl (zl hS 24 (by decide)) (sk hS 24 (by decide) rfl) rfl (by decide) (r_24_0 hS) ?_
        refine q_iload rfl ?_
        obtain ⟨d_90, h⟩ := ite_some h
        obtain ⟨⟨x_90, I_90, L_90⟩, e_90, h⟩ := Option.bind_eq_some_iff.mp h
        dsimp only at h
        refine q_fv2I (a_121 X hS (d := d - 1) (by omega) e_90) (by omega) (by omega) (by omega) rfl (Nat.le_of_ble_eq_true rfl) ⟨(zl hS 1 (by decide)), congrArg Prod.fst (sk hS 1 (by decide) rfl), by decide⟩ ?_
        refine q_iload rfl ?_
        refine q_iconst (1) (by decide) ?_
        refine q_isub ?_
        refine q_iload rfl ?_
        refine q_isub ?_
        refine q_iload rfl ?_
        refine q_iload rfl ?_
        obtain ⟨d_101, h⟩ := ite_some h
        obtain ⟨⟨x_101, I_101, L_101⟩, e_101, h⟩ := Option.bind_eq_some_iff.mp h
        dsimp only at h
        refine q_fv5I (a_122 X hS (d := d - 1) (by omega) e_101) (by omega) (by omega) (by omega) rfl (Nat.le_of_ble_eq_true rfl) ⟨(zl hS 24 (by decide)), congrArg Prod.fst (sk hS 24 (by decide) rfl), by decide⟩ ?_
        refine q_istore (ls1 := [some (.ref 24), some (.int i1), some (.int i2), some (.int i3), some (.int i4), some (.int x_101)]) (Nat.le_of_ble_eq_true rfl) rfl ?_
        refine q_aload rfl ?_
        refine q_getRs (c0 := 7) (j := 9) rfl rfl (zl hS 24 (by decide)) (sk hS 24 (by decide) rfl) rfl (by decide) (r_24_9 hS) ?_
        refine q_iload rfl ?_
        refine q_aload rfl ?_
        refine q_getRs (c0 := 7) (j := 3) rfl rfl (zl hS 24 (by decide)) (sk hS 24 (by decide) rfl) rfl (by decide) (r_24_3 hS) ?_
        refine q_getRs (c0 := 6) (j := 3) rfl rfl (zl hS 26 (by decide)) (sk hS 26 (by decide) rfl) rfl (by decide) (r_26_3 hS) ?_
        refine q_iload rfl ?_
        obtain ⟨⟨u_121, v_121⟩, h⟩ := ite_some h
        refine q_ialN (Int32.toNatClampNeg x_101) (nx u_121) (zl hS 30 (by decide)) (sk hS 30 (by decide) rfl) v_121 (by decide) ?_
        obtain ⟨⟨u_122, v_122⟩, h⟩ := ite_some h
        refine q_iasN (Int32.toNatClampNeg i4) (nx u_122) (zl hS 55 (by decide)) (sk hS 55 (by decide) rfl) v_122 (by decide) ?_
        obtain ⟨I_122, nI_122, h⟩ := stI_some h
        refine q_nI nI_122 ?_
        refine q_iload rfl ?_
        refine q_aload rfl ?_
        refine q_getRs (c0 := 7) (j := 3) rfl rfl (zl hS 24 (by decide)) (sk hS 24 (by decide) rfl) rfl (by decide) (r_24_3 hS) ?_
        refine q_getRs (c0 := 6) (j := 0) rfl rfl (zl hS 26 (by decide)) (sk hS 26 (by decide) rfl) rfl (by decide) (r_26_0 hS) ?_
        refine q_iload rfl ?_
        obtain ⟨⟨u_133, v_133⟩, h⟩ := ite_some h
        refine q_ialN (Int32.toNatClampNeg x_101) (nx u_133) (zl hS 27 (by decide)) (sk hS 27 (by decide) rfl) v_133 (by decide) ?_
        obtain ⟨d_134, h⟩ := ite_some h
        obtain ⟨⟨x_134, I_134, L_134⟩, e_134, h⟩ := Option.bind_eq_some_iff.mp h
        dsimp only at h
        refine q_fs2I (a_111 X hS (d := d - 1) (by omega) e_134) (by omega) (by omega) (by omega) rfl (Nat.le_of_ble_eq_true rfl) ?_
        refine q_istore (ls1 := [some (.ref 24), some (.int i1), some (.int i2), some (.int x_134), some (.int i4), some (.int x_101)]) (Nat.le_of_ble_eq_true rfl) rfl ?_
        refine q_iload rfl ?_
        refine q_aload rfl ?_
        refine q_getRs (c0 := 7) (j := 3) rfl rfl (zl hS 24 (by decide)) (sk hS 24 (by decide) rfl) rfl (by decide) (r_24_3 hS) ?_
        refine q_getRs (c0 := 6) (j := 1) rfl rfl (zl hS 26 (by decide)) (sk hS 26 (by decide) rfl) rfl (by decide) (r_26_1 hS) ?_
        refine q_iload rfl ?_
        obtain ⟨⟨u_148, v_148⟩, h⟩ := ite_some h
        refine q_ialN (Int32.toNatClampNeg x_101) (nx u_148) (zl hS 28 (by decide)) (sk hS 28 (by decide) rfl) v_148 (by decide) ?_
        refine q_isub ?_
        obtain ⟨v_150, nv_150, h⟩ := stI_some h
        refine q_eqi nv_150.symm ?_
        refine q_istore (ls1 := [some (.ref 24), some (.int v_150), some (.int i2), some (.int x_134), some (.int i4), some (.int x_101)]) (Nat.le_of_ble_eq_true rfl) rfl ?_
        refine q_iinc (ls1 := [some (.ref 24), some (.int v_150), some (.int i2), some (.int x_134), some (.int (i4 + Int32.ofInt (1))), some (.int x_101)]) rfl rfl ?_
        refine q_goto ?_
        refine K_mask [true, true, true, true, true, false] (Nat.le_of_ble_eq_true rfl) ?_
        exact (ih dp d hdp _ _ _ _ _ hS v_150 i2 x_134 (i4 + Int32.ofInt (1)) _ _ _ _ _ _ _).2 h MC MS _ _ (by omega) (by omega)
set_option maxHeartbeats 8000000 in
set_option maxRecDepth 100000 in
theorem t_120 : ∀ (n dp : Nat) (z : Nat) (kd : (Nat → Nat × Nat)) (I : (Nat → Nat → Int32)) (L : (Nat → Nat → Int64)) (R : (Nat → Nat → Option Nat)), Sh z kd R → ∀ (i1 : Int32) (i2 : Int32) (i3 : Int32) (i4 : Int32) (z1 : Nat) (kd1 : (Nat → Nat × Nat)) (I1 : (Nat → Nat → Int32)) (L1 : (Nat → Nat → Int64)) (R1 : (Nat → Nat → Option Nat)) (k1 m1 : Nat), (g_120 n dp 0 z kd I L R i1 i2 i3 i4 = some ((z1, kd1, I1, L1, R1), k1, m1) → Sh z1 kd1 R1) ∧
    (g_120 n dp 1 z kd I L R i1 i2 i3 i4 = some ((z1, kd1, I1, L1, R1), k1, m1) → Sh z1 kd1 R1) := by
  intro n
  induction n with
  | zero => intro dp z kd I L R hS i1 i2 i3 i4 z1 kd1 I1 L1 R1 k1 m1; exact ⟨(fun h => by cases h), (fun h => by cases h)⟩
  | succ n ih =>
    intro dp z kd I L R hS i1 i2 i3 i4 z1 kd1 I1 L1 R1 k1 m1
    refine ⟨?_, ?_⟩
    · intro h
      rw [e_120_0] at h
      by_cases c_4 : (I 24 15) = 0
      · rw [if_pos c_4] at h
        cases h
        exact hS
      · rw [if_neg c_4] at h
        obtain ⟨d_9, h⟩ := ite_some h
        obtain ⟨⟨x_9, I_9, L_9⟩, e_9, h⟩ := Option.bind_eq_some_iff.mp h
        dsimp only at h
        obtain ⟨d_17, h⟩ := ite_some h
        obtain ⟨⟨⟨z_17, kd_17, I_17, L_17, R_17⟩, ck_17, cm_17⟩, e_17, h⟩ := Option.bind_eq_some_iff.mp h
        dsimp only at h
        obtain ⟨mk_17, ms_17, h, ek_17, em_17⟩ := adk_some h
        have hS_17 := s_95 hS e_17
        obtain ⟨d_48, h⟩ := ite_some h
        obtain ⟨⟨x_48, I_48, L_48⟩, e_48, h⟩ := Option.bind_eq_some_iff.mp h
        dsimp only at h
        obtain ⟨d_63, h⟩ := ite_some h
        obtain ⟨⟨⟨z_63, kd_63, I_63, L_63, R_63⟩, ck_63, cm_63⟩, e_63, h⟩ := Option.bind_eq_some_iff.mp h
        dsimp only at h
        obtain ⟨mk_63, ms_63, h, ek_63, em_63⟩ := adk_some h
        have hS_63 := s_106 hS_17 e_63
        exact (ih dp _ _ _ _ _ hS_63 (x_9 * (16 : Int32)) x_48 (I_63 26 18) (0 : Int32) _ _ _ _ _ _ _).2 h
    · intro h
      rw [e_120_1] at h
      by_cases c_80 : i2 ≤ i4
      · rw [if_pos c_80] at h
        obtain ⟨d_162, h⟩ := ite_some h
        obtain ⟨⟨I_162, L_162⟩, e_162, h⟩ := Option.bind_eq_some_iff.mp h
        dsimp only at h
        obtain ⟨I_167, nI_167, h⟩ := stI_some h
        cases h
        exact hS
      · rw [if_neg c_80] at h
        obtain ⟨d_90, h⟩ := ite_some h
        obtain ⟨⟨x_90, I_90, L_90⟩, e_90, h⟩ := Option.bind_eq_some_iff.mp h
        dsimp only at h
        obtain ⟨d_101, h⟩ := ite_some h
        obtain ⟨⟨x_101, I_101, L_101⟩, e_101, h⟩ := Option.bind_eq_some_iff.mp h
        dsimp only at h
        obtain ⟨⟨u_121, v_121⟩, h⟩ := ite_some h
        obtain ⟨⟨u_122, v_122⟩, h⟩ := ite_some h
        obtain ⟨I_122, nI_122, h⟩ := stI_some h
        obtain ⟨⟨u_133, v_133⟩, h⟩ := ite_some h
        obtain ⟨d_134, h⟩ := ite_some h
        obtain ⟨⟨x_134, I_134, L_134⟩, e_134, h⟩ := Option.bind_eq_some_iff.mp h
        dsimp only at h
        obtain ⟨⟨u_148, v_148⟩, h⟩ := ite_some h
        obtain ⟨v_150, nv_150, h⟩ := stI_some h
        exact (ih dp _ _ _ _ _ hS v_150 i2 x_134 (i4 + Int32.ofInt (1)) _ _ _ _ _ _ _).2 h
theorem a_120 (X : GX) {z : Nat} {kd : (Nat → Nat × Nat)} {I : (Nat → Nat → Int32)} {L : (Nat → Nat → Int64)} {R : (Nat → Nat → Option Nat)} (hS : Sh z kd R) {n dp d : Nat} (hd : dp ≤ d) {z1 : Nat} {kd1 : (Nat → Nat × Nat)} {I1 : (Nat → Nat → Int32)} {L1 : (Nat → Nat → Int64)} {R1 : (Nat → Nat → Option Nat)} {k1 m1 : Nat} (h : g_120 n dp 0 z kd I L R 0 0 0 0 = some ((z1, kd1, I1, L1, R1), k1, m1)) : Ct X d 120 k1 m1 [.ref 24] (z, kd, I, L, R) (AV (fun τ => τ = (z1, kd1, I1, L1, R1))) :=
  Ct_of mu_120 (Nat.le_of_ble_eq_true rfl) ((w_120 X n dp d hd z kd I L R hS 0 0 0 0 _ _ _ _ _ _ _).1 h k1 m1 0 0 (by omega) (by omega))
theorem s_120 {z : Nat} {kd : (Nat → Nat × Nat)} {I : (Nat → Nat → Int32)} {L : (Nat → Nat → Int64)} {R : (Nat → Nat → Option Nat)} (hS : Sh z kd R) {n dp : Nat} {z1 : Nat} {kd1 : (Nat → Nat × Nat)} {I1 : (Nat → Nat → Int32)} {L1 : (Nat → Nat → Int64)} {R1 : (Nat → Nat → Option Nat)} {k1 m1 : Nat} (h : g_120 n dp 0 z kd I L R 0 0 0 0 = some ((z1, kd1, I1, L1, R1), k1, m1)) : Sh z1 kd1 R1 := (t_120 n dp z kd I L R hS 0 0 0 0 _ _ _ _ _ _ _).1 h

/-! 134 CutFloor$Planner.findChange(I)V -/
set_option maxHeartbeats 4000000 in
set_option maxRecDepth 100000 in
def g_134 : Nat → Nat → Nat → Nat → (Nat → Nat × Nat) → (Nat → Nat → Int32) → (Nat → Nat → Int64) → (Nat → Nat → Option Nat) → Int32 → Int32 → Int32 → Int32 → Int32 →  Option ((PS) × Nat × Nat)
  | 0, _, _, _, _, _, _, _, _, _, _, _, _ => none
  | n + 1, dp, lab, z, kd, I, L, R, i1, i2, i3, i4, i5 =>
    if lab = 0 then (if 0 ≤ i1 ∧ (Int32.toNatClampNeg i1) < 3 then (if (I 56 (Int32.toNatClampNeg i1)) = (-1 : Int32) then (if 1 ≤ dp then (g_16 n (dp - 1) (z, kd, R) 0 I L).bind (fun ⟨x_15, I_15, L_15⟩ => (if i1 = 0 then (stI ((I_15 2 0) - (1 : Int32)) (fun v_65 => (if v_65 = 0 then (if 0 ≤ i1 ∧ (Int32.toNatClampNeg i1) < 3 then (stI (u2 I_15 56 (Int32.toNatClampNeg i1) (0 : Int32)) (fun I_83 => (if 0 ≤ i1 ∧ (Int32.toNatClampNeg i1) < 3 then (stI (u2 I_83 57 (Int32.toNatClampNeg i1) (0 : Int32)) (fun I_90 => (if (2 : Int32) ≤ x_15 then (if 1 ≤ dp then (g_95 n (dp - 1) 0 z kd I_90 L_15 R).bind (fun ⟨⟨z_98, kd_98, I_98, L_98, R_98⟩, ck_98, cm_98⟩ => (adk ck_98 cm_98 (if 1 ≤ dp then (g_103 n (dp - 1) 0 z_98 kd_98 I_98 L_98 R_98).bind (fun ⟨⟨z_105, kd_105, I_105, L_105, R_105⟩, ck_105, cm_105⟩ => (adk ck_105 cm_105 (g_134 n dp 1 z_105 kd_105 I_105 L_105 R_105 i1 x_15 v_65 (1 : Int32) (x_15 - (1 : Int32))))) else none))) else none) else (some ((z, kd, I_90, L_15, R), 0, 0))))) else none))) else none) else (if 0 ≤ i1 ∧ (Int32.toNatClampNeg i1) < 3 then (stI (u2 I_15 56 (Int32.toNatClampNeg i1) (0 : Int32)) (fun I_83 => (if 0 ≤ i1 ∧ (Int32.toNatClampNeg i1) < 3 then (stI (u2 I_83 57 (Int32.toNatClampNeg i1) (0 : Int32)) (fun I_90 => (if (2 : Int32) ≤ x_15 then (if 1 ≤ dp then (g_95 n (dp - 1) 0 z kd I_90 L_15 R).bind (fun ⟨⟨z_98, kd_98, I_98, L_98, R_98⟩, ck_98, cm_98⟩ => (adk ck_98 cm_98 (if 1 ≤ dp then (g_103 n (dp - 1) 0 z_98 kd_98 I_98 L_98 R_98).bind (fun ⟨⟨z_105, kd_105, I_105, L_105, R_105⟩, ck_105, cm_105⟩ => (adk ck_105 cm_105 (g_134 n dp 1 z_105 kd_105 I_105 L_105 R_105 i1 x_15 v_65 (0 : Int32) (x_15 - (1 : Int32))))) else none))) else none) else (some ((z, kd, I_90, L_15, R), 0, 0))))) else none))) else none)))) else (if i1 = (1 : Int32) then (stI (((I_15 2 0) + (I_15 2 1)) - (1 : Int32)) (fun v_65 => (if v_65 = 0 then (if 0 ≤ i1 ∧ (Int32.toNatClampNeg i1) < 3 then (stI (u2 I_15 56 (Int32.toNatClampNeg i1) (0 : Int32)) (fun I_83 => (if 0 ≤ i1 ∧ (Int32.toNatClampNeg i1) < 3 then (stI (u2 I_83 57 (Int32.toNatClampNeg i1) (0 : Int32)) (fun I_90 => (if (2 : Int32) ≤ x_15 then (if 1 ≤ dp then (g_95 n (dp - 1) 0 z kd I_90 L_15 R).bind (fun ⟨⟨z_98, kd_98, I_98, L_98, R_98⟩, ck_98, cm_98⟩ => (adk ck_98 cm_98 (if 1 ≤ dp then (g_103 n (dp - 1) 0 z_98 kd_98 I_98 L_98 R_98).bind (fun ⟨⟨z_105, kd_105, I_105, L_105, R_105⟩, ck_105, cm_105⟩ => (adk ck_105 cm_105 (g_134 n dp 1 z_105 kd_105 I_105 L_105 R_105 i1 x_15 v_65 (1 : Int32) (x_15 - (1 : Int32))))) else none))) else none) else (some ((z, kd, I_90, L_15, R), 0, 0))))) else none))) else none) else (if 0 ≤ i1 ∧ (Int32.toNatClampNeg i1) < 3 then (stI (u2 I_15 56 (Int32.toNatClampNeg i1) (0 : Int32)) (fun I_83 => (if 0 ≤ i1 ∧ (Int32.toNatClampNeg i1) < 3 then (stI (u2 I_83 57 (Int32.toNatClampNeg i1) (0 : Int32)) (fun I_90 => (if (2 : Int32) ≤ x_15 then (if 1 ≤ dp then (g_95 n (dp - 1) 0 z kd I_90 L_15 R).bind (fun ⟨⟨z_98, kd_98, I_98, L_98, R_98⟩, ck_98, cm_98⟩ => (adk ck_98 cm_98 (if 1 ≤ dp then (g_103 n (dp - 1) 0 z_98 kd_98 I_98 L_98 R_98).bind (fun ⟨⟨z_105, kd_105, I_105, L_105, R_105⟩, ck_105, cm_105⟩ => (adk ck_105 cm_105 (g_134 n dp 1 z_105 kd_105 I_105 L_105 R_105 i1 x_15 v_65 (0 : Int32) (x_15 - (1 : Int32))))) else none))) else none) else (some ((z, kd, I_90, L_15, R), 0, 0))))) else none))) else none)))) else (if (x_15 - (1 : Int32)) = 0 then (if 0 ≤ i1 ∧ (Int32.toNatClampNeg i1) < 3 then (stI (u2 I_15 56 (Int32.toNatClampNeg i1) (0 : Int32)) (fun I_83 => (if 0 ≤ i1 ∧ (Int32.toNatClampNeg i1) < 3 then (stI (u2 I_83 57 (Int32.toNatClampNeg i1) (0 : Int32)) (fun I_90 => (if (2 : Int32) ≤ x_15 then (if 1 ≤ dp then (g_95 n (dp - 1) 0 z kd I_90 L_15 R).bind (fun ⟨⟨z_98, kd_98, I_98, L_98, R_98⟩, ck_98, cm_98⟩ => (adk ck_98 cm_98 (if 1 ≤ dp then (g_103 n (dp - 1) 0 z_98 kd_98 I_98 L_98 R_98).bind (fun ⟨⟨z_105, kd_105, I_105, L_105, R_105⟩, ck_105, cm_105⟩ => (adk ck_105 cm_105 (g_134 n dp 1 z_105 kd_105 I_105 L_105 R_105 i1 x_15 (x_15 - (1 : Int32)) (1 : Int32) (x_15 - (1 : Int32))))) else none))) else none) else (some ((z, kd, I_90, L_15, R), 0, 0))))) else none))) else none) else (if 0 ≤ i1 ∧ (Int32.toNatClampNeg i1) < 3 then (stI (u2 I_15 56 (Int32.toNatClampNeg i1) (0 : Int32)) (fun I_83 => (if 0 ≤ i1 ∧ (Int32.toNatClampNeg i1) < 3 then (stI (u2 I_83 57 (Int32.toNatClampNeg i1) (0 : Int32)) (fun I_90 => (if (2 : Int32) ≤ x_15 then (if 1 ≤ dp then (g_95 n (dp - 1) 0 z kd I_90 L_15 R).bind (fun ⟨⟨z_98, kd_98, I_98, L_98, R_98⟩, ck_98, cm_98⟩ => (adk ck_98 cm_98 (if 1 ≤ dp then (g_103 n (dp - 1) 0 z_98 kd_98 I_98 L_98 R_98).bind (fun ⟨⟨z_105, kd_105, I_105, L_105, R_105⟩, ck_105, cm_105⟩ => (adk ck_105 cm_105 (g_134 n dp 1 z_105 kd_105 I_105 L_105 R_105 i1 x_15 (x_15 - (1 : Int32)) (0 : Int32) (x_15 - (1 : Int32))))) else none))) else none) else (some ((z, kd, I_90, L_15, R), 0, 0))))) else none))) else none))))) else none) else (some ((z, kd, I, L, R), 0, 0))) else none)
    else if lab = 1 then (if i5 ≤ i4 then (if 1 ≤ dp then (g_121 n (dp - 1) (z, kd, R) 0 I L i4).bind (fun ⟨x_164, I_164, L_164⟩ => (if 1 ≤ dp then (g_135 n (dp - 1) (z, kd, R) 0 I_164 L_164 i4).bind (fun ⟨x_170, I_170, L_170⟩ => (if 1 ≤ dp then (g_115 n (dp - 1) (z, kd, R) 0 I_170 L_170 x_164 x_170 0 0 0 0 0 0 0).bind (fun ⟨I_173, L_173⟩ => (if 1 ≤ dp then (g_103 n (dp - 1) 0 z kd I_173 L_173 R).bind (fun ⟨⟨z_180, kd_180, I_180, L_180, R_180⟩, ck_180, cm_180⟩ => (adk ck_180 cm_180 (if 0 ≤ i1 ∧ (Int32.toNatClampNeg i1) < 3 then (stI (u2 I_180 57 (Int32.toNatClampNeg i1) ((I_180 44 8) / (16 : Int32))) (fun I_198 => (if 0 ≤ i1 ∧ (Int32.toNatClampNeg i1) < 3 then (stI (u2 I_198 56 (Int32.toNatClampNeg i1) ((i2 - (1 : Int32)) - ((I_198 44 8) - (I_198 44 8) / (16 : Int32) * (16 : Int32)))) (fun I_218 => (some ((z_180, kd_180, I_218, L_180, R_180), 0, 0)))) else none))) else none))) else none)) else none)) else none)) else none) else (if i5 = i3 then (g_134 n dp 2 z kd I L R i1 i2 i3 i4 i5) else (if 1 ≤ dp then (g_121 n (dp - 1) (z, kd, R) 0 I L i5).bind (fun ⟨x_136, I_136, L_136⟩ => (if 1 ≤ dp then (g_135 n (dp - 1) (z, kd, R) 0 I_136 L_136 i5).bind (fun ⟨x_142, I_142, L_142⟩ => (if 1 ≤ dp then (g_107 n (dp - 1) 0 z kd I_142 L_142 R x_136 x_142 0 0 0).bind (fun ⟨⟨z_145, kd_145, I_145, L_145, R_145⟩, ck_145, cm_145⟩ => (adk ck_145 cm_145 (g_134 n dp 2 z_145 kd_145 I_145 L_145 R_145 i1 i2 i3 i4 i5))) else none)) else none)) else none)))
    else if lab = 2 then (g_134 n dp 1 z kd I L R i1 i2 i3 i4 (i5 + Int32.ofInt (-1)))
    else none
set_option maxRecDepth 100000 in
theorem e_134_0 (n dp : Nat) (z : Nat) (kd : (Nat → Nat × Nat)) (I : (Nat → Nat → Int32)) (L : (Nat → Nat → Int64)) (R : (Nat → Nat → Option Nat)) (i1 : Int32) (i2 : Int32) (i3 : Int32) (i4 : Int32) (i5 : Int32) : g_134 (n + 1) dp 0 z kd I L R i1 i2 i3 i4 i5 = (if 0 ≤ i1 ∧ (Int32.toNatClampNeg i1) < 3 then (if (I 56 (Int32.toNatClampNeg i1)) = (-1 : Int32) then (if 1 ≤ dp then (g_16 n (dp - 1) (z, kd, R) 0 I L).bind (fun ⟨x_15, I_15, L_15⟩ => (if i1 = 0 then (stI ((I_15 2 0) - (1 : Int32)) (fun v_65 => (if v_65 = 0 then (if 0 ≤ i1 ∧ (Int32.toNatClampNeg i1) < 3 then (stI (u2 I_15 56 (Int32.toNatClampNeg i1) (0 : Int32)) (fun I_83 => (if 0 ≤ i1 ∧ (Int32.toNatClampNeg i1) < 3 then (stI (u2 I_83 57 (Int32.toNatClampNeg i1) (0 : Int32)) (fun I_90 => (if (2 : Int32) ≤ x_15 then (if 1 ≤ dp then (g_95 n (dp - 1) 0 z kd I_90 L_15 R).bind (fun ⟨⟨z_98, kd_98, I_98, L_98, R_98⟩, ck_98, cm_98⟩ => (adk ck_98 cm_98 (if 1 ≤ dp then (g_103 n (dp - 1) 0 z_98 kd_98 I_98 L_98 R_98).bind (fun ⟨⟨z_105, kd_105, I_105, L_105, R_105⟩, ck_105, cm_105⟩ => (adk ck_105 cm_105 (g_134 n dp 1 z_105 kd_105 I_105 L_105 R_105 i1 x_15 v_65 (1 : Int32) (x_15 - (1 : Int32))))) else none))) else none) else (some ((z, kd, I_90, L_15, R), 0, 0))))) else none))) else none) else (if 0 ≤ i1 ∧ (Int32.toNatClampNeg i1) < 3 then (stI (u2 I_15 56 (Int32.toNatClampNeg i1) (0 : Int32)) (fun I_83 => (if 0 ≤ i1 ∧ (Int32.toNatClampNeg i1) < 3 then (stI (u2 I_83 57 (Int32.toNatClampNeg i1) (0 : Int32)) (fun I_90 => (if (2 : Int32) ≤ x_15 then (if 1 ≤ dp then (g_95 n (dp - 1) 0 z kd I_90 L_15 R).bind (fun ⟨⟨z_98, kd_98, I_98, L_98, R_98⟩, ck_98, cm_98⟩ => (adk ck_98 cm_98 (if 1 ≤ dp then (g_103 n (dp - 1) 0 z_98 kd_98 I_98 L_98 R_98).bind (fun ⟨⟨z_105, kd_105, I_105, L_105, R_105⟩, ck_105, cm_105⟩ => (adk ck_105 cm_105 (g_134 n dp 1 z_105 kd_105 I_105 L_105 R_105 i1 x_15 v_65 (0 : Int32) (x_15 - (1 : Int32))))) else none))) else none) else (some ((z, kd, I_90, L_15, R), 0, 0))))) else none))) else none)))) else (if i1 = (1 : Int32) then (stI (((I_15 2 0) + (I_15 2 1)) - (1 : Int32)) (fun v_65 => (if v_65 = 0 then (if 0 ≤ i1 ∧ (Int32.toNatClampNeg i1) < 3 then (stI (u2 I_15 56 (Int32.toNatClampNeg i1) (0 : Int32)) (fun I_83 => (if 0 ≤ i1 ∧ (Int32.toNatClampNeg i1) < 3 then (stI (u2 I_83 57 (Int32.toNatClampNeg i1) (0 : Int32)) (fun I_90 => (if (2 : Int32) ≤ x_15 then (if 1 ≤ dp then (g_95 n (dp - 1) 0 z kd I_90 L_15 R).bind (fun ⟨⟨z_98, kd_98, I_98, L_98, R_98⟩, ck_98, cm_98⟩ => (adk ck_98 cm_98 (if 1 ≤ dp then (g_103 n (dp - 1) 0 z_98 kd_98 I_98 L_98 R_98).bind (fun ⟨⟨z_105, kd_105, I_105, L_105, R_105⟩, ck_105, cm_105⟩ => (adk ck_105 cm_105 (g_134 n dp 1 z_105 kd_105 I_105 L_105 R_105 i1 x_15 v_65 (1 : Int32) (x_15 - (1 : Int32))))) else none))) else none) else (some ((z, kd, I_90, L_15, R), 0, 0))))) else none))) else none) else (if 0 ≤ i1 ∧ (Int32.toNatClampNeg i1) < 3 then (stI (u2 I_15 56 (Int32.toNatClampNeg i1) (0 : Int32)) (fun I_83 => (if 0 ≤ i1 ∧ (Int32.toNatClampNeg i1) < 3 then (stI (u2 I_83 57 (Int32.toNatClampNeg i1) (0 : Int32)) (fun I_90 => (if (2 : Int32) ≤ x_15 then (if 1 ≤ dp then (g_95 n (dp - 1) 0 z kd I_90 L_15 R).bind (fun ⟨⟨z_98, kd_98, I_98, L_98, R_98⟩, ck_98, cm_98⟩ => (adk ck_98 cm_98 (if 1 ≤ dp then (g_103 n (dp - 1) 0 z_98 kd_98 I_98 L_98 R_98).bind (fun ⟨⟨z_105, kd_105, I_105, L_105, R_105⟩, ck_105, cm_105⟩ => (adk ck_105 cm_105 (g_134 n dp 1 z_105 kd_105 I_105 L_105 R_105 i1 x_15 v_65 (0 : Int32) (x_15 - (1 : Int32))))) else none))) else none) else (some ((z, kd, I_90, L_15, R), 0, 0))))) else none))) else none)))) else (if (x_15 - (1 : Int32)) = 0 then (if 0 ≤ i1 ∧ (Int32.toNatClampNeg i1) < 3 then (stI (u2 I_15 56 (Int32.toNatClampNeg i1) (0 : Int32)) (fun I_83 => (if 0 ≤ i1 ∧ (Int32.toNatClampNeg i1) < 3 then (stI (u2 I_83 57 (Int32.toNatClampNeg i1) (0 : Int32)) (fun I_90 => (if (2 : Int32) ≤ x_15 then (if 1 ≤ dp then (g_95 n (dp - 1) 0 z kd I_90 L_15 R).bind (fun ⟨⟨z_98, kd_98, I_98, L_98, R_98⟩, ck_98, cm_98⟩ => (adk ck_98 cm_98 (if 1 ≤ dp then (g_103 n (dp - 1) 0 z_98 kd_98 I_98 L_98 R_98).bind (fun ⟨⟨z_105, kd_105, I_105, L_105, R_105⟩, ck_105, cm_105⟩ => (adk ck_105 cm_105 (g_134 n dp 1 z_105 kd_105 I_105 L_105 R_105 i1 x_15 (x_15 - (1 : Int32)) (1 : Int32) (x_15 - (1 : Int32))))) else none))) else none) else (some ((z, kd, I_90, L_15, R), 0, 0))))) else none))) else none) else (if 0 ≤ i1 ∧ (Int32.toNatClampNeg i1) < 3 then (stI (u2 I_15 56 (Int32.toNatClampNeg i1) (0 : Int32)) (fun I_83 => (if 0 ≤ i1 ∧ (Int32.toNatClampNeg i1) < 3 then (stI (u2 I_83 57 (Int32.toNatClampNeg i1) (0 : Int32)) (fun I_90 => (if (2 : Int32) ≤ x_15 then (if 1 ≤ dp then (g_95 n (dp - 1) 0 z kd I_90 L_15 R).bind (fun ⟨⟨z_98, kd_98, I_98, L_98, R_98⟩, ck_98, cm_98⟩ => (adk ck_98 cm_98 (if 1 ≤ dp then (g_103 n (dp - 1) 0 z_98 kd_98 I_98 L_98 R_98).bind (fun ⟨⟨z_105, kd_105, I_105, L_105, R_105⟩, ck_105, cm_105⟩ => (adk ck_105 cm_105 (g_134 n dp 1 z_105 kd_105 I_105 L_105 R_105 i1 x_15 (x_15 - (1 : Int32)) (0 : Int32) (x_15 - (1 : Int32))))) else none))) else none) else (some ((z, kd, I_90, L_15, R), 0, 0))))) else none))) else none))))) else none) else (some ((z, kd, I, L, R), 0, 0))) else none) := by rw [g_134.eq_2, if_pos (show (0 : Nat) = 0 from rfl)]
set_option maxRecDepth 100000 in
theorem e_134_1 (n dp : Nat) (z : Nat) (kd : (Nat → Nat × Nat)) (I : (Nat → Nat → Int32)) (L : (Nat → Nat → Int64)) (R : (Nat → Nat → Option Nat)) (i1 : Int32) (i2 : Int32) (i3 : Int32) (i4 : Int32) (i5 : Int32) : g_134 (n + 1) dp 1 z kd I L R i1 i2 i3 i4 i5 = (if i5 ≤ i4 then (if 1 ≤ dp then (g_121 n (dp - 1) (z, kd, R) 0 I L i4).bind (fun ⟨x_164, I_164, L_164⟩ => (if 1 ≤ dp then (g_135 n (dp - 1) (z, kd, R) 0 I_164 L_164 i4).bind (fun ⟨x_170, I_170, L_170⟩ => (if 1 ≤ dp then (g_115 n (dp - 1) (z, kd, R) 0 I_170 L_170 x_164 x_170 0 0 0 0 0 0 0).bind (fun ⟨I_173, L_173⟩ => (if 1 ≤ dp then (g_103 n (dp - 1) 0 z kd I_173 L_173 R).bind (fun ⟨⟨z_180, kd_180, I_180, L_180, R_180⟩, ck_180, cm_180⟩ => (adk ck_180 cm_180 (if 0 ≤ i1 ∧ (Int32.toNatClampNeg i1) < 3 then (stI (u2 I_180 57 (Int32.toNatClampNeg i1) ((I_180 44 8) / (16 : Int32))) (fun I_198 => (if 0 ≤ i1 ∧ (Int32.toNatClampNeg i1) < 3 then (stI (u2 I_198 56 (Int32.toNatClampNeg i1) ((i2 - (1 : Int32)) - ((I_198 44 8) - (I_198 44 8) / (16 : Int32) * (16 : Int32)))) (fun I_218 => (some ((z_180, kd_180, I_218, L_180, R_180), 0, 0)))) else none))) else none))) else none)) else none)) else none)) else none) else (if i5 = i3 then (g_134 n dp 2 z kd I L R i1 i2 i3 i4 i5) else (if 1 ≤ dp then (g_121 n (dp - 1) (z, kd, R) 0 I L i5).bind (fun ⟨x_136, I_136, L_136⟩ => (if 1 ≤ dp then (g_135 n (dp - 1) (z, kd, R) 0 I_136 L_136 i5).bind (fun ⟨x_142, I_142, L_142⟩ => (if 1 ≤ dp then (g_107 n (dp - 1) 0 z kd I_142 L_142 R x_136 x_142 0 0 0).bind (fun ⟨⟨z_145, kd_145, I_145, L_145, R_145⟩, ck_145, cm_145⟩ => (adk ck_145 cm_145 (g_134 n dp 2 z_145 kd_145 I_145 L_145 R_145 i1 i2 i3 i4 i5))) else none)) else none)) else none))) := by rw [g_134.eq_2, if_neg (show ¬ ((1 : Nat) = 0) by decide), if_pos (show (1 : Nat) = 1 from rfl)]
set_option maxRecDepth 100000 in
theorem e_134_2 (n dp : Nat) (z : Nat) (kd : (Nat → Nat × Nat)) (I : (Nat → Nat → Int32)) (L : (Nat → Nat → Int64)) (R : (Nat → Nat → Option Nat)) (i1 : Int32) (i2 : Int32) (i3 : Int32) (i4 : Int32) (i5 : Int32) : g_134 (n + 1) dp 2 z kd I L R i1 i2 i3 i4 i5 = (g_134 n dp 1 z kd I L R i1 i2 i3 i4 (i5 + Int32.ofInt (-1))) := by rw [g_134.eq_2, if_neg (show ¬ ((2 : Nat) = 0) by decide), if_neg (show ¬ ((2 : Nat) = 1) by decide), if_pos (show (2 : Nat) = 2 from rfl)]
set_option maxHeartbeats 8000000 in
set_option maxRecDepth 100000 in
theorem w_134 (X : GX) : ∀ (n dp d : Nat), dp ≤ d → ∀ (z : Nat) (kd : (Nat → Nat × Nat)) (I : (Nat → Nat → Int32)) (L : (Nat → Nat → Int64)) (R : (Nat → Nat → Option Nat)), Sh z kd R → ∀ (i1 : Int32) (i2 : Int32) (i3 : Int32) (i4 : Int32) (i5 : Int32) (z1 : Nat) (kd1 : (Nat → Nat × Nat)) (I1 : (Nat → Nat → Int32)) (L1 : (Nat → Nat → Int64)) (R1 : (Nat → Nat → Option Nat)) (k1 m1 : Nat), (g_134 n dp 0 z kd I L R i1 i2 i3 i4 i5 = some ((z1, kd1, I1, L1, R1), k1, m1) → ∀ MC MS k m : Nat, k + k1 ≤ MC → m + m1 ≤ MS → K X d 134 MC MS (AV (fun τ => τ = (z1, kd1, I1, L1, R1))) 0 [some (.ref 24), some (.int i1), none, none, none, none] [] (z, kd, I, L, R) k m) ∧
    (g_134 n dp 1 z kd I L R i1 i2 i3 i4 i5 = some ((z1, kd1, I1, L1, R1), k1, m1) → ∀ MC MS k m : Nat, k + k1 ≤ MC → m + m1 ≤ MS → K X d 134 MC MS (AV (fun τ => τ = (z1, kd1, I1, L1, R1))) 113 [some (.ref 24), some (.int i1), some (.int i2), some (.int i3), some (.int i4), some (.int i5)] [] (z, kd, I, L, R) k m) ∧
    (g_134 n dp 2 z kd I L R i1 i2 i3 i4 i5 = some ((z1, kd1, I1, L1, R1), k1, m1) → ∀ MC MS k m : Nat, k + k1 ≤ MC → m + m1 ≤ MS → K X d 134 MC MS (AV (fun τ => τ = (z1, kd1, I1, L1, R1))) 148 [some (.ref 24), some (.int i1), some (.int i2), some (.int i3), some (.int i4), some (.int i5)] [] (z, kd, I, L, R) k m) := by
  intro n
  induction n with
  | zero => intro dp d hdp z kd I L R hS  i1 i2 i3 i4 i5 z1 kd1 I1 L1 R1 k1 m1; exact ⟨(fun h => by cases h), (fun h => by cases h), (fun h => by cases h)⟩
  | succ n ih =>
    intro dp d hdp z kd I L R hS  i1 i2 i3 i4 i5 z1 kd1 I1 L1 R1 k1 m1
    refine ⟨?_, ?_, ?_⟩
    · intro h MC MS k m hMC hMS
      rw [e_134_0] at h
      refine K_of b_134_0 h_134_0 ?_
      refine q_aload rfl ?_
      refine q_getRs (c0 := 7) (j := 10) rfl rfl (zl hS 24 (by decide)) (sk hS 24 (by decide) rfl) rfl (by decide) (r_24_10 hS) ?_
      refine q_iload rfl ?_
      obtain ⟨⟨u_5, v_5⟩, h⟩ := ite_some h
      refine q_ialN (Int32.toNatClampNeg i1) (nx u_5) (zl hS 56 (by decide)) (sk hS 56 (by decide) rfl) v_5 (by decide) ?_
      refine q_iconst (-1) (by decide) ?_
      refine q_icmp_eq (fun c_7 => ?_) (fun c_7 => ?_)
      · rw [if_pos c_7] at h
        refine K_of b_134_11 h_134_11 ?_
        refine q_aload rfl ?_
        refine q_getRs (c0 := 7) (j := 0) rfl rfl (zl hS 24 (by decide)) (sk hS 24 (by decide) rfl) rfl (by decide) (r_24_0 hS) ?_
        obtain ⟨d_15, h⟩ := ite_some h
        obtain ⟨⟨x_15, I_15, L_15⟩, e_15, h⟩ := Option.bind_eq_some_iff.mp h
        dsimp only at h
        refine q_fv1I (a_16 X hS (d := d - 1) (by omega) e_15) (by omega) (by omega) (by omega) rfl (Nat.le_of_ble_eq_true rfl) ⟨(zl hS 1 (by decide)), congrArg Prod.fst (sk hS 1 (by decide) rfl), by decide⟩ ?_
        refine q_istore (ls1 := [some (.ref 24), some (.int i1), some (.int x_15), none, none, none]) (Nat.le_of_ble_eq_true rfl) rfl ?_
        refine q_iload rfl ?_
        refine q_if_ne (fun c_20 => ?_) (fun c_20 => ?_)
        · rw [if_neg c_20] at h
          refine K_of b_134_35 h_134_35 ?_
          refine q_iload rfl ?_
          refine q_iconst (1) (by decide) ?_
          refine q_icmp_ne (fun c_37 => ?_) (fun c_37 => ?_)
          · rw [if_neg c_37] at h
            refine K_of b_134_62 h_134_62 ?_
            refine q_iload rfl ?_
            refine q_end ?_
            refine K_of b_134_63 h_134_63 ?_
            refine q_iconst (1) (by decide) ?_
            refine q_isub ?_
            refine q_istore (ls1 := [some (.ref 24), some (.int i1), some (.int x_15), some (.int (x_15 - (1 : Int32))), none, none]) (Nat.le_of_ble_eq_true rfl) rfl ?_
            refine q_iload rfl ?_
            refine q_if_ne (fun c_67 => ?_) (fun c_67 => ?_)
            · rw [if_neg c_67] at h
              refine K_of b_134_74 h_134_74 ?_
              refine q_iconst (0) (by decide) ?_
              refine q_end ?_
              refine K_of b_134_75 h_134_75 ?_
              refine q_istore (ls1 := [some (.ref 24), some (.int i1), some (.int x_15), some (.int (x_15 - (1 : Int32))), some (.int (0 : Int32)), none]) (Nat.le_of_ble_eq_true rfl) rfl ?_
              refine q_aload rfl ?_
              refine q_getRs (c0 := 7) (j := 10) rfl rfl (zl hS 24 (by decide)) (sk hS 24 (by decide) rfl) rfl (by decide) (r_24_10 hS) ?_
              refine q_iload rfl ?_
              refine q_iconst (0) (by decide) ?_
              obtain ⟨⟨u_83, v_83⟩, h⟩ := ite_some h
              refine q_iasN (Int32.toNatClampNeg i1) (nx u_83) (zl hS 56 (by decide)) (sk hS 56 (by decide) rfl) v_83 (by decide) ?_
              obtain ⟨I_83, nI_83, h⟩ := stI_some h
              refine q_nI nI_83 ?_
              refine q_aload rfl ?_
              refine q_getRs (c0 := 7) (j := 11) rfl rfl (zl hS 24 (by decide)) (sk hS 24 (by decide) rfl) rfl (by decide) (r_24_11 hS) ?_
              refine q_iload rfl ?_
              refine q_iconst (0) (by decide) ?_
              obtain ⟨⟨u_90, v_90⟩, h⟩ := ite_some h
              refine q_iasN (Int32.toNatClampNeg i1) (nx u_90) (zl hS 57 (by decide)) (sk hS 57 (by decide) rfl) v_90 (by decide) ?_
              obtain ⟨I_90, nI_90, h⟩ := stI_some h
              refine q_nI nI_90 ?_
              refine q_iload rfl ?_
              refine q_iconst (2) (by decide) ?_
              refine q_icmp_ge (fun c_93 => ?_) (fun c_93 => ?_)
              · rw [if_pos c_93] at h
                refine K_of b_134_97 h_134_97 ?_
                refine q_aload rfl ?_
                obtain ⟨d_98, h⟩ := ite_some h
                obtain ⟨⟨⟨z_98, kd_98, I_98, L_98, R_98⟩, ck_98, cm_98⟩, e_98, h⟩ := Option.bind_eq_some_iff.mp h
                dsimp only at h
                obtain ⟨mk_98, ms_98, h, ek_98, em_98⟩ := adk_some h
                refine q_gv1V (a_95 X hS (d := d - 1) (by omega) e_98) (by omega) (by omega) (by omega) rfl (Nat.le_of_ble_eq_true rfl) ⟨(zl hS 24 (by decide)), congrArg Prod.fst (sk hS 24 (by decide) rfl), by decide⟩ ?_
                have hS_98 := s_95 hS e_98
                refine q_aload rfl ?_
                refine q_getRs (c0 := 7) (j := 4) rfl rfl (zl hS_98 24 (by decide)) (sk hS_98 24 (by decide) rfl) rfl (by decide) (r_24_4 hS_98) ?_
                obtain ⟨d_105, h⟩ := ite_some h
                obtain ⟨⟨⟨z_105, kd_105, I_105, L_105, R_105⟩, ck_105, cm_105⟩, e_105, h⟩ := Option.bind_eq_some_iff.mp h
                dsimp only at h
                obtain ⟨mk_105, ms_105, h, ek_105, em_105⟩ := adk_some h
                refine q_gv1V (a_103 X hS_98 (d := d - 1) (by omega) e_105) (by omega) (by omega) (by omega) rfl (Nat.le_of_ble_eq_true rfl) ⟨(zl hS_98 44 (by decide)), congrArg Prod.fst (sk hS_98 44 (by decide) rfl), by decide⟩ ?_
                have hS_105 := s_103 hS_98 e_105
                refine q_iload rfl ?_
                refine q_iconst (1) (by decide) ?_
                refine q_isub ?_
                refine q_istore (ls1 := [some (.ref 24), some (.int i1), some (.int x_15), some (.int (x_15 - (1 : Int32))), some (.int (0 : Int32)), some (.int (x_15 - (1 : Int32)))]) (Nat.le_of_ble_eq_true rfl) rfl ?_
                refine q_end ?_
                exact (ih dp d hdp _ _ _ _ _ hS_105 i1 x_15 (x_15 - (1 : Int32)) (0 : Int32) (x_15 - (1 : Int32)) _ _ _ _ _ _ _).2.1 h MC MS _ _ (by omega) (by omega)
              · rw [if_neg c_93] at h
                cases h
                exact q_vret rfl (by omega) (by omega) rfl
            · rw [if_pos c_67] at h
              refine q_iconst (1) (by decide) ?_
              refine q_goto ?_
              refine K_of b_134_75 h_134_75 ?_
              refine q_istore (ls1 := [some (.ref 24), some (.int i1), some (.int x_15), some (.int (x_15 - (1 : Int32))), some (.int (1 : Int32)), none]) (Nat.le_of_ble_eq_true rfl) rfl ?_
              refine q_aload rfl ?_
              refine q_getRs (c0 := 7) (j := 10) rfl rfl (zl hS 24 (by decide)) (sk hS 24 (by decide) rfl) rfl (by decide) (r_24_10 hS) ?_
              refine q_iload rfl ?_
              refine q_iconst (0) (by decide) ?_
              obtain ⟨⟨u_83, v_83⟩, h⟩ := ite_some h
              refine q_iasN (Int32.toNatClampNeg i1) (nx u_83) (zl hS 56 (by decide)) (sk hS 56 (by decide) rfl) v_83 (by decide) ?_
              obtain ⟨I_83, nI_83, h⟩ := stI_some h
              refine q_nI nI_83 ?_
              refine q_aload rfl ?_
              refine q_getRs (c0 := 7) (j := 11) rfl rfl (zl hS 24 (by decide)) (sk hS 24 (by decide) rfl) rfl (by decide) (r_24_11 hS) ?_
              refine q_iload rfl ?_
              refine q_iconst (0) (by decide) ?_
              obtain ⟨⟨u_90, v_90⟩, h⟩ := ite_some h
              refine q_iasN (Int32.toNatClampNeg i1) (nx u_90) (zl hS 57 (by decide)) (sk hS 57 (by decide) rfl) v_90 (by decide) ?_
              obtain ⟨I_90, nI_90, h⟩ := stI_some h
              refine q_nI nI_90 ?_
              refine q_iload rfl ?_
              refine q_iconst (2) (by decide) ?_
              refine q_icmp_ge (fun c_93 => ?_) (fun c_93 => ?_)
              · rw [if_pos c_93] at h
                refine K_of b_134_97 h_134_97 ?_
                refine q_aload rfl ?_
                obtain ⟨d_98, h⟩ := ite_some h
                obtain ⟨⟨⟨z_98, kd_98, I_98, L_98, R_98⟩, ck_98, cm_98⟩, e_98, h⟩ := Option.bind_eq_some_iff.mp h
                dsimp only at h
                obtain ⟨mk_98, ms_98, h, ek_98, em_98⟩ := adk_some h
                refine q_gv1V (a_95 X hS (d := d - 1) (by omega) e_98) (by omega) (by omega) (by omega) rfl (Nat.le_of_ble_eq_true rfl) ⟨(zl hS 24 (by decide)), congrArg Prod.fst (sk hS 24 (by decide) rfl), by decide⟩ ?_
                have hS_98 := s_95 hS e_98
                refine q_aload rfl ?_
                refine q_getRs (c0 := 7) (j := 4) rfl rfl (zl hS_98 24 (by decide)) (sk hS_98 24 (by decide) rfl) rfl (by decide) (r_24_4 hS_98) ?_
                obtain ⟨d_105, h⟩ := ite_some h
                obtain ⟨⟨⟨z_105, kd_105, I_105, L_105, R_105⟩, ck_105, cm_105⟩, e_105, h⟩ := Option.bind_eq_some_iff.mp h
                dsimp only at h
                obtain ⟨mk_105, ms_105, h, ek_105, em_105⟩ := adk_some h
                refine q_gv1V (a_103 X hS_98 (d := d - 1) (by omega) e_105) (by omega) (by omega) (by omega) rfl (Nat.le_of_ble_eq_true rfl) ⟨(zl hS_98 44 (by decide)), congrArg Prod.fst (sk hS_98 44 (by decide) rfl), by decide⟩ ?_
                have hS_105 := s_103 hS_98 e_105
                refine q_iload rfl ?_
                refine q_iconst (1) (by decide) ?_
                refine q_isub ?_
                refine q_istore (ls1 := [some (.ref 24), some (.int i1), some (.int x_15), some (.int (x_15 - (1 : Int32))), some (.int (1 : Int32)), some (.int (x_15 - (1 : Int32)))]) (Nat.le_of_ble_eq_true rfl) rfl ?_
                refine q_end ?_
                exact (ih dp d hdp _ _ _ _ _ hS_105 i1 x_15 (x_15 - (1 : Int32)) (1 : Int32) (x_15 - (1 : Int32)) _ _ _ _ _ _ _).2.1 h MC MS _ _ (by omega) (by omega)
              · rw [if_neg c_93] at h
                cases h
                exact q_vret rfl (by omega) (by omega) rfl
          · rw [if_pos c_37] at h
            refine q_aload rfl ?_
            refine q_getRs (c0 := 7) (j := 0) rfl rfl (zl hS 24 (by decide)) (sk hS 24 (by decide) rfl) rfl (by decide) (r_24_0 hS) ?_
            refine q_getRs (c0 := 3) (j := 0) rfl rfl (zl hS 1 (by decide)) (sk hS 1 (by decide) rfl) rfl (by decide) (r_1_0 hS) ?_
            refine q_iconst (0) (by decide) ?_
            refine q_ialN (0) rfl (zl hS 2 (by decide)) (sk hS 2 (by decide) rfl) (by decide) (by decide) ?_
            refine q_aload rfl ?_
            refine q_getRs (c0 := 7) (j := 0) rfl rfl (zl hS 24 (by decide)) (sk hS 24 (by decide) rfl) rfl (by decide) (r_24_0 hS) ?_
            refine q_getRs (c0 := 3) (j := 0) rfl rfl (zl hS 1 (by decide)) (sk hS 1 (by decide) rfl) rfl (by decide) (r_1_0 hS) ?_
            refine q_iconst (1) (by decide) ?_
            refine q_ialN (1) rfl (zl hS 2 (by decide)) (sk hS 2 (by decide) rfl) (by decide) (by decide) ?_
            refine q_iadd ?_
            refine q_goto ?_
            refine K_of b_134_63 h_134_63 ?_
            refine q_iconst (1) (by decide) ?_
            refine q_isub ?_
            obtain ⟨v_65, nv_65, h⟩ := stI_some h
            refine q_eqi nv_65.symm ?_
            refine q_istore (ls1 := [some (.ref 24), some (.int i1), some (.int x_15), some (.int v_65), none, none]) (Nat.le_of_ble_eq_true rfl) rfl ?_
            refine q_iload rfl ?_
            refine q_if_ne (fun c_67 => ?_) (fun c_67 => ?_)
            · rw [if_neg c_67] at h
              refine K_of b_134_74 h_134_74 ?_
              refine q_iconst (0) (by decide) ?_
              refine q_end ?_
              refine K_of b_134_75 h_134_75 ?_
              refine q_istore (ls1 := [some (.ref 24), some (.int i1), some (.int x_15), some (.int v_65), some (.int (0 : Int32)), none]) (Nat.le_of_ble_eq_true rfl) rfl ?_
              refine q_aload rfl ?_
              refine q_getRs (c0 := 7) (j := 10) rfl rfl (zl hS 24 (by decide)) (sk hS 24 (by decide) rfl) rfl (by decide) (r_24_10 hS) ?_
              refine q_iload rfl ?_
              refine q_iconst (0) (by decide) ?_
              obtain ⟨⟨u_83, v_83⟩, h⟩ := ite_some h
              refine q_iasN (Int32.toNatClampNeg i1) (nx u_83) (zl hS 56 (by decide)) (sk hS 56 (by decide) rfl) v_83 (by decide) ?_
              obtain ⟨I_83, nI_83, h⟩ := stI_some h
              refine q_nI nI_83 ?_
              refine q_aload rfl ?_
              refine q_getRs (c0 := 7) (j := 11) rfl rfl (zl hS 24 (by decide)) (sk hS 24 (by decide) rfl) rfl (by decide) (r_24_11 hS) ?_
              refine q_iload rfl ?_
              refine q_iconst (0) (by decide) ?_
              obtain ⟨⟨u_90, v_90⟩, h⟩ := ite_some h
              refine q_iasN (Int32.toNatClampNeg i1) (nx u_90) (zl hS 57 (by decide)) (sk hS 57 (by decide) rfl) v_90 (by decide) ?_
              obtain ⟨I_90, nI_90, h⟩ := stI_some h
              refine q_nI nI_90 ?_
              refine q_iload rfl ?_
              refine q_iconst (2) (by decide) ?_
              refine q_icmp_ge (fun c_93 => ?_) (fun c_93 => ?_)
              · rw [if_pos c_93] at h
                refine K_of b_134_97 h_134_97 ?_
                refine q_aload rfl ?_
                obtain ⟨d_98, h⟩ := ite_some h
                obtain ⟨⟨⟨z_98, kd_98, I_98, L_98, R_98⟩, ck_98, cm_98⟩, e_98, h⟩ := Option.bind_eq_some_iff.mp h
                dsimp only at h
                obtain ⟨mk_98, ms_98, h, ek_98, em_98⟩ := adk_some h
                refine q_gv1V (a_95 X hS (d := d - 1) (by omega) e_98) (by omega) (by omega) (by omega) rfl (Nat.le_of_ble_eq_true rfl) ⟨(zl hS 24 (by decide)), congrArg Prod.fst (sk hS 24 (by decide) rfl), by decide⟩ ?_
                have hS_98 := s_95 hS e_98
                refine q_aload rfl ?_
                refine q_getRs (c0 := 7) (j := 4) rfl rfl (zl hS_98 24 (by decide)) (sk hS_98 24 (by decide) rfl) rfl (by decide) (r_24_4 hS_98) ?_
                obtain ⟨d_105, h⟩ := ite_some h
                obtain ⟨⟨⟨z_105, kd_105, I_105, L_105, R_105⟩, ck_105, cm_105⟩, e_105, h⟩ := Option.bind_eq_some_iff.mp h
                dsimp only at h
                obtain ⟨mk_105, ms_105, h, ek_105, em_105⟩ := adk_some h
                refine q_gv1V (a_103 X hS_98 (d := d - 1) (by omega) e_105) (by omega) (by omega) (by omega) rfl (Nat.le_of_ble_eq_true rfl) ⟨(zl hS_98 44 (by decide)), congrArg Prod.fst (sk hS_98 44 (by decide) rfl), by decide⟩ ?_
                have hS_105 := s_103 hS_98 e_105
                refine q_iload rfl ?_
                refine q_iconst (1) (by decide) ?_
                refine q_isub ?_
                refine q_istore (ls1 := [some (.ref 24), some (.int i1), some (.int x_15), some (.int v_65), some (.int (0 : Int32)), some (.int (x_15 - (1 : Int32)))]) (Nat.le_of_ble_eq_true rfl) rfl ?_
                refine q_end ?_
                exact (ih dp d hdp _ _ _ _ _ hS_105 i1 x_15 v_65 (0 : Int32) (x_15 - (1 : Int32)) _ _ _ _ _ _ _).2.1 h MC MS _ _ (by omega) (by omega)
              · rw [if_neg c_93] at h
                cases h
                exact q_vret rfl (by omega) (by omega) rfl
            · rw [if_pos c_67] at h
              refine q_iconst (1) (by decide) ?_
              refine q_goto ?_
              refine K_of b_134_75 h_134_75 ?_
              refine q_istore (ls1 := [some (.ref 24), some (.int i1), some (.int x_15), some (.int v_65), some (.int (1 : Int32)), none]) (Nat.le_of_ble_eq_true rfl) rfl ?_
              refine q_aload rfl ?_
              refine q_getRs (c0 := 7) (j := 10) rfl rfl (zl hS 24 (by decide)) (sk hS 24 (by decide) rfl) rfl (by decide) (r_24_10 hS) ?_
              refine q_iload rfl ?_
              refine q_iconst (0) (by decide) ?_
              obtain ⟨⟨u_83, v_83⟩, h⟩ := ite_some h
              refine q_iasN (Int32.toNatClampNeg i1) (nx u_83) (zl hS 56 (by decide)) (sk hS 56 (by decide) rfl) v_83 (by decide) ?_
              obtain ⟨I_83, nI_83, h⟩ := stI_some h
              refine q_nI nI_83 ?_
              refine q_aload rfl ?_
              refine q_getRs (c0 := 7) (j := 11) rfl rfl (zl hS 24 (by decide)) (sk hS 24 (by decide) rfl) rfl (by decide) (r_24_11 hS) ?_
              refine q_iload rfl ?_
              refine q_iconst (0) (by decide) ?_
              obtain ⟨⟨u_90, v_90⟩, h⟩ := ite_some h
              refine q_iasN (Int32.toNatClampNeg i1) (nx u_90) (zl hS 57 (by decide)) (sk hS 57 (by decide) rfl) v_90 (by decide) ?_
              obtain ⟨I_90, nI_90, h⟩ := stI_some h
              refine q_nI nI_90 ?_
              refine q_iload rfl ?_
              refine q_iconst (2) (by decide) ?_
              refine q_icmp_ge (fun c_93 => ?_) (fun c_93 => ?_)
              · rw [if_pos c_93] at h
                refine K_of b_134_97 h_134_97 ?_
                refine q_aload rfl ?_
                obtain ⟨d_98, h⟩ := ite_some h
                obtain ⟨⟨⟨z_98, kd_98, I_98, L_98, R_98⟩, ck_98, cm_98⟩, e_98, h⟩ := Option.bind_eq_some_iff.mp h
                dsimp only at h
                obtain ⟨mk_98, ms_98, h, ek_98, em_98⟩ := adk_some h
                refine q_gv1V (a_95 X hS (d := d - 1) (by omega) e_98) (by omega) (by omega) (by omega) rfl (Nat.le_of_ble_eq_true rfl) ⟨(zl hS 24 (by decide)), congrArg Prod.fst (sk hS 24 (by decide) rfl), by decide⟩ ?_
                have hS_98 := s_95 hS e_98
                refine q_aload rfl ?_
                refine q_getRs (c0 := 7) (j := 4) rfl rfl (zl hS_98 24 (by decide)) (sk hS_98 24 (by decide) rfl) rfl (by decide) (r_24_4 hS_98) ?_
                obtain ⟨d_105, h⟩ := ite_some h
                obtain ⟨⟨⟨z_105, kd_105, I_105, L_105, R_105⟩, ck_105, cm_105⟩, e_105, h⟩ := Option.bind_eq_some_iff.mp h
                dsimp only at h
                obtain ⟨mk_105, ms_105, h, ek_105, em_105⟩ := adk_some h
                refine q_gv1V (a_103 X hS_98 (d := d - 1) (by omega) e_105) (by omega) (by omega) (by omega) rfl (Nat.le_of_ble_eq_true rfl) ⟨(zl hS_98 44 (by decide)), congrArg Prod.fst (sk hS_98 44 (by decide) rfl), by decide⟩ ?_
                have hS_105 := s_103 hS_98 e_105
                refine q_iload rfl ?_
                refine q_iconst (1) (by decide) ?_
                refine q_isub ?_
                refine q_istore (ls1 := [some (.ref 24), some (.int i1), some (.int x_15), some (.int v_65), some (.int (1 : Int32)), some (.int (x_15 - (1 : Int32)))]) (Nat.le_of_ble_eq_true rfl) rfl ?_
                refine q_end ?_
                exact (ih dp d hdp _ _ _ _ _ hS_105 i1 x_15 v_65 (1 : Int32) (x_15 - (1 : Int32)) _ _ _ _ _ _ _).2.1 h MC MS _ _ (by omega) (by omega)
              · rw [if_neg c_93] at h
                cases h
                exact q_vret rfl (by omega) (by omega) rfl
        · rw [if_pos c_20] at h
          refine q_aload rfl ?_
          refine q_getRs (c0 := 7) (j := 0) rfl rfl (zl hS 24 (by decide)) (sk hS 24 (by decide) rfl) rfl (by decide) (r_24_0 hS) ?_
          refine q_getRs (c0 := 3) (j := 0) rfl rfl (zl hS 1 (by decide)) (sk hS 1 (by decide) rfl) rfl (by decide) (r_1_0 hS) ?_
          refine q_iconst (0) (by decide) ?_
          refine q_ialN (0) rfl (zl hS 2 (by decide)) (sk hS 2 (by decide) rfl) (by decide) (by decide) ?_
          refine q_goto ?_
          refine K_of b_134_63 h_134_63 ?_
          refine q_iconst (1) (by decide) ?_
          refine q_isub ?_
          obtain ⟨v_65, nv_65, h⟩ := stI_some h
          refine q_eqi nv_65.symm ?_
          refine q_istore (ls1 := [some (.ref 24), some (.int i1), some (.int x_15), some (.int v_65), none, none]) (Nat.le_of_ble_eq_true rfl) rfl ?_
          refine q_iload rfl ?_
          refine q_if_ne (fun c_67 => ?_) (fun c_67 => ?_)
          · rw [if_neg c_67] at h
            refine K_of b_134_74 h_134_74 ?_
            refine q_iconst (0) (by decide) ?_
            refine q_end ?_
            refine K_of b_134_75 h_134_75 ?_
            refine q_istore (ls1 := [some (.ref 24), some (.int i1), some (.int x_15), some (.int v_65), some (.int (0 : Int32)), none]) (Nat.le_of_ble_eq_true rfl) rfl ?_
            refine q_aload rfl ?_
            refine q_getRs (c0 := 7) (j := 10) rfl rfl (zl hS 24 (by decide)) (sk hS 24 (by decide) rfl) rfl (by decide) (r_24_10 hS) ?_
            refine q_iload rfl ?_
            refine q_iconst (0) (by decide) ?_
            obtain ⟨⟨u_83, v_83⟩, h⟩ := ite_some h
            refine q_iasN (Int32.toNatClampNeg i1) (nx u_83) (zl hS 56 (by decide)) (sk hS 56 (by decide) rfl) v_83 (by decide) ?_
            obtain ⟨I_83, nI_83, h⟩ := stI_some h
            refine q_nI nI_83 ?_
            refine q_aload rfl ?_
            refine q_getRs (c0 := 7) (j := 11) rfl rfl (zl hS 24 (by decide)) (sk hS 24 (by decide) rfl) rfl (by decide) (r_24_11 hS) ?_
            refine q_iload rfl ?_
            refine q_iconst (0) (by decide) ?_
            obtain ⟨⟨u_90, v_90⟩, h⟩ := ite_some h
            refine q_iasN (Int32.toNatClampNeg i1) (nx u_90) (zl hS 57 (by decide)) (sk hS 57 (by decide) rfl) v_90 (by decide) ?_
            obtain ⟨I_90, nI_90, h⟩ := stI_some h
            refine q_nI nI_90 ?_
            refine q_iload rfl ?_
            refine q_iconst (2) (by decide) ?_
            refine q_icmp_ge (fun c_93 => ?_) (fun c_93 => ?_)
            · rw [if_pos c_93] at h
              refine K_of b_134_97 h_134_97 ?_
              refine q_aload rfl ?_
              obtain ⟨d_98, h⟩ := ite_some h
              obtain ⟨⟨⟨z_98, kd_98, I_98, L_98, R_98⟩, ck_98, cm_98⟩, e_98, h⟩ := Option.bind_eq_some_iff.mp h
              dsimp only at h
              obtain ⟨mk_98, ms_98, h, ek_98, em_98⟩ := adk_some h
              refine q_gv1V (a_95 X hS (d := d - 1) (by omega) e_98) (by omega) (by omega) (by omega) rfl (Nat.le_of_ble_eq_true rfl) ⟨(zl hS 24 (by decide)), congrArg Prod.fst (sk hS 24 (by decide) rfl), by decide⟩ ?_
              have hS_98 := s_95 hS e_98
              refine q_aload rfl ?_
              refine q_getRs (c0 := 7) (j := 4) rfl rfl (zl hS_98 24 (by decide)) (sk hS_98 24 (by decide) rfl) rfl (by decide) (r_24_4 hS_98) ?_
              obtain ⟨d_105, h⟩ := ite_some h
              obtain ⟨⟨⟨z_105, kd_105, I_105, L_105, R_105⟩, ck_105, cm_105⟩, e_105, h⟩ := Option.bind_eq_some_iff.mp h
              dsimp only at h
              obtain ⟨mk_105, ms_105, h, ek_105, em_105⟩ := adk_some h
              refine q_gv1V (a_103 X hS_98 (d := d - 1) (by omega) e_105) (by omega) (by omega) (by omega) rfl (Nat.le_of_ble_eq_true rfl) ⟨(zl hS_98 44 (by decide)), congrArg Prod.fst (sk hS_98 44 (by decide) rfl), by decide⟩ ?_
              have hS_105 := s_103 hS_98 e_105
              refine q_iload rfl ?_
              refine q_iconst (1) (by decide) ?_
              refine q_isub ?_
              refine q_istore (ls1 := [some (.ref 24), some (.int i1), some (.int x_15), some (.int v_65), some (.int (0 : Int32)), some (.int (x_15 - (1 : Int32)))]) (Nat.le_of_ble_eq_true rfl) rfl ?_
              refine q_end ?_
              exact (ih dp d hdp _ _ _ _ _ hS_105 i1 x_15 v_65 (0 : Int32) (x_15 - (1 : Int32)) _ _ _ _ _ _ _).2.1 h MC MS _ _ (by omega) (by omega)
            · rw [if_neg c_93] at h
              cases h
              exact q_vret rfl (by omega) (by omega) rfl
          · rw [if_pos c_67] at h
            refine q_iconst (1) (by decide) ?_
            refine q_goto ?_
            refine K_of b_134_75 h_134_75 ?_
            refine q_istore (ls1 := [some (.ref 24), some (.int i1), some (.int x_15), some (.int v_65), some (.int (1 : Int32)), none]) (Nat.le_of_ble_eq_true rfl) rfl ?_
            refine q_aload rfl ?_
            refine q_getRs (c0 := 7) (j := 10) rfl rfl (zl hS 24 (by decide)) (sk hS 24 (by decide) rfl) rfl (by decide) (r_24_10 hS) ?_
            refine q_iload rfl ?_
            refine q_iconst (0) (by decide) ?_
            obtain ⟨⟨u_83, v_83⟩, h⟩ := ite_some h
            refine q_iasN (Int32.toNatClampNeg i1) (nx u_83) (zl hS 56 (by decide)) (sk hS 56 (by decide) rfl) v_83 (by decide) ?_
            obtain ⟨I_83, nI_83, h⟩ := stI_some h
            refine q_nI nI_83 ?_
            refine q_aload rfl ?_
            refine q_getRs (c0 := 7) (j := 11) rfl rfl (zl hS 24 (by decide)) (sk hS 24 (by decide) rfl) rfl (by decide) (r_24_11 hS) ?_
            refine q_iload rfl ?_
            refine q_iconst (0) (by decide) ?_
            obtain ⟨⟨u_90, v_90⟩, h⟩ := ite_some h
            refine q_iasN (Int32.toNatClampNeg i1) (nx u_90) (zl hS 57 (by decide)) (sk hS 57 (by decide) rfl) v_90 (by decide) ?_
            obtain ⟨I_90, nI_90, h⟩ := stI_some h
            refine q_nI nI_90 ?_
            refine q_iload rfl ?_
            refine q_iconst (2) (by decide) ?_
            refine q_icmp_ge (fun c_93 => ?_) (fun c_93 => ?_)
            · rw [if_pos c_93] at h
              refine K_of b_134_97 h_134_97 ?_
              refine q_aload rfl ?_
              obtain ⟨d_98, h⟩ := ite_some h
              obtain ⟨⟨⟨z_98, kd_98, I_98, L_98, R_98⟩, ck_98, cm_98⟩, e_98, h⟩ := Option.bind_eq_some_iff.mp h
              dsimp only at h
              obtain ⟨mk_98, ms_98, h, ek_98, em_98⟩ := adk_some h
              refine q_gv1V (a_95 X hS (d := d - 1) (by omega) e_98) (by omega) (by omega) (by omega) rfl (Nat.le_of_ble_eq_true rfl) ⟨(zl hS 24 (by decide)), congrArg Prod.fst (sk hS 24 (by decide) rfl), by decide⟩ ?_
              have hS_98 := s_95 hS e_98
              refine q_aload rfl ?_
              refine q_getRs (c0 := 7) (j := 4) rfl rfl (zl hS_98 24 (by decide)) (sk hS_98 24 (by decide) rfl) rfl (by decide) (r_24_4 hS_98) ?_
              obtain ⟨d_105, h⟩ := ite_some h
              obtain ⟨⟨⟨z_105, kd_105, I_105, L_105, R_105⟩, ck_105, cm_105⟩, e_105, h⟩ := Option.bind_eq_some_iff.mp h
              dsimp only at h
              obtain ⟨mk_105, ms_105, h, ek_105, em_105⟩ := adk_some h
              refine q_gv1V (a_103 X hS_98 (d := d - 1) (by omega) e_105) (by omega) (by omega) (by omega) rfl (Nat.le_of_ble_eq_true rfl) ⟨(zl hS_98 44 (by decide)), congrArg Prod.fst (sk hS_98 44 (by decide) rfl), by decide⟩ ?_
              have hS_105 := s_103 hS_98 e_105
              refine q_iload rfl ?_
              refine q_iconst (1) (by decide) ?_
              refine q_isub ?_
              refine q_istore (ls1 := [some (.ref 24), some (.int i1), some (.int x_15), some (.int v_65), some (.int (1 : Int32)), some (.int (x_15 - (1 : Int32)))]) (Nat.le_of_ble_eq_true rfl) rfl ?_
              refine q_end ?_
              exact (ih dp d hdp _ _ _ _ _ hS_105 i1 x_15 v_65 (1 : Int32) (x_15 - (1 : Int32)) _ _ _ _ _ _ _).2.1 h MC MS _ _ (by omega) (by omega)
            · rw [if_neg c_93] at h
              cases h
              exact q_vret rfl (by omega) (by omega) rfl
      · rw [if_neg c_7] at h
        cases h
        exact q_vret rfl (by omega) (by omega) rfl
    · intro h MC MS k m hMC hMS
      rw [e_134_1] at h
      refine K_of b_134_113 h_134_113 ?_
      refine q_iload rfl ?_
      refine q_iload rfl ?_
      refine q_icmp_le (fun c_117 => ?_) (fun c_117 => ?_)
      · rw [if_pos c_117] at h
        refine K_of b_134_154 h_134_154 ?_
        refine q_aload rfl ?_
        refine q_getRs (c0 := 7) (j := 4) rfl rfl (zl hS 24 (by decide)) (sk hS 24 (by decide) rfl) rfl (by decide) (r_24_4 hS) ?_
        refine q_aload rfl ?_
        refine q_getRs (c0 := 7) (j := 0) rfl rfl (zl hS 24 (by decide)) (sk hS 24 (by decide) rfl) rfl (by decide) (r_24_0 hS) ?_
        refine q_iload rfl ?_
        obtain ⟨d_164, h⟩ := ite_some h
        obtain ⟨⟨x_164, I_164, L_164⟩, e_164, h⟩ := Option.bind_eq_some_iff.mp h
        dsimp only at h
        refine q_fv2I (a_121 X hS (d := d - 1) (by omega) e_164) (by omega) (by omega) (by omega) rfl (Nat.le_of_ble_eq_true rfl) ⟨(zl hS 1 (by decide)), congrArg Prod.fst (sk hS 1 (by decide) rfl), by decide⟩ ?_
        refine q_aload rfl ?_
        refine q_iload rfl ?_
        obtain ⟨d_170, h⟩ := ite_some h
        obtain ⟨⟨x_170, I_170, L_170⟩, e_170, h⟩ := Option.bind_eq_some_iff.mp h
        dsimp only at h
        refine q_fv2I (a_135 X hS (d := d - 1) (by omega) e_170) (by omega) (by omega) (by omega) rfl (Nat.le_of_ble_eq_true rfl) ⟨(zl hS 24 (by decide)), congrArg Prod.fst (sk hS 24 (by decide) rfl), by decide⟩ ?_
        obtain ⟨d_173, h⟩ := ite_some h
        obtain ⟨⟨I_173, L_173⟩, e_173, h⟩ := Option.bind_eq_some_iff.mp h
        dsimp only at h
        refine q_fv3V (a_115 X hS (d := d - 1) (by omega) e_173) (by omega) (by omega) (by omega) rfl (Nat.le_of_ble_eq_true rfl) ⟨(zl hS 44 (by decide)), congrArg Prod.fst (sk hS 44 (by decide) rfl), by decide⟩ ?_
        refine q_aload rfl ?_
        refine q_getRs (c0 := 7) (j := 4) rfl rfl (zl hS 24 (by decide)) (sk hS 24 (by decide) rfl) rfl (by decide) (r_24_4 hS) ?_
        obtain ⟨d_180, h⟩ := ite_some h
        obtain ⟨⟨⟨z_180, kd_180, I_180, L_180, R_180⟩, ck_180, cm_180⟩, e_180, h⟩ := Option.bind_eq_some_iff.mp h
        dsimp only at h
        obtain ⟨mk_180, ms_180, h, ek_180, em_180⟩ := adk_some h
        refine q_gv1V (a_103 X hS (d := d - 1) (by omega) e_180) (by omega) (by omega) (by omega) rfl (Nat.le_of_ble_eq_true rfl) ⟨(zl hS 44 (by decide)), congrArg Prod.fst (sk hS 44 (by decide) rfl), by decide⟩ ?_
        have hS_180 := s_103 hS e_180
        refine q_aload rfl ?_
        refine q_getRs (c0 := 7) (j := 11) rfl rfl (zl hS_180 24 (by decide)) (sk hS_180 24 (by decide) rfl) rfl (by decide) (r_24_11 hS_180) ?_
        refine q_iload rfl ?_
        refine q_aload rfl ?_
        refine q_getRs (c0 := 7) (j := 4) rfl rfl (zl hS_180 24 (by decide)) (sk hS_180 24 (by decide) rfl) rfl (by decide) (r_24_4 hS_180) ?_
        refine q_getI (c0 := 4) (j := 8) rfl rfl (zl hS_180 44 (by decide)) (sk hS_180 44 (by decide) rfl) (Or.inl rfl) (by decide) ?_
        refine q_iconst (16) (by decide) ?_
        refine q_idiv (by decide) ?_
        obtain ⟨⟨u_198, v_198⟩, h⟩ := ite_some h
        refine q_iasN (Int32.toNatClampNeg i1) (nx u_198) (zl hS_180 57 (by decide)) (sk hS_180 57 (by decide) rfl) v_198 (by decide) ?_
        obtain ⟨I_198, nI_198, h⟩ := stI_some h
        refine q_nI nI_198 ?_
        refine q_aload rfl ?_
        refine q_getRs (c0 := 7) (j := 10) rfl rfl (zl hS_180 24 (by decide)) (sk hS_180 24 (by decide) rfl) rfl (by decide) (r_24_10 hS_180) ?_
        refine q_iload rfl ?_
        refine q_iload rfl ?_
        refine q_iconst (1) (by decide) ?_
        refine q_isub ?_
        refine q_aload rfl ?_
        refine q_getRs (c0 := 7) (j := 4) rfl rfl (zl hS_180 24 (by decide)) (sk hS_180 24 (by decide) rfl) rfl (by decide) (r_24_4 hS_180) ?_
        refine q_getI (c0 := 4) (j := 8) rfl rfl (zl hS_180 44 (by decide)) (sk hS_180 44 (by decide) rfl) (Or.inl rfl) (by decide) ?_
        refine q_iconst (16) (by decide) ?_
        refine q_irem (by decide) ?_
        refine q_isub ?_
        obtain ⟨⟨u_218, v_218⟩, h⟩ := ite_some h
        refine q_iasN (Int32.toNatClampNeg i1) (nx u_218) (zl hS_180 56 (by decide)) (sk hS_180 56 (by decide) rfl) v_218 (by decide) ?_
        obtain ⟨I_218, nI_218, h⟩ := stI_some h
        refine q_nI nI_218 ?_
        cases h
        exact q_vret rfl (by omega) (by omega) rfl
      · rw [if_neg c_117] at h
        refine q_iload rfl ?_
        refine q_iload rfl ?_
        refine q_icmp_eq (fun c_123 => ?_) (fun c_123 => ?_)
        · rw [if_pos c_123] at h
          exact (ih dp d hdp _ _ _ _ _ hS i1 i2 i3 i4 i5 _ _ _ _ _ _ _).2.2 h MC MS _ _ (by omega) (by omega)
        · rw [if_neg c_123] at h
          refine q_aload rfl ?_
          refine q_getRs (c0 := 7) (j := 4) rfl rfl (zl hS 24 (by decide)) (sk hS 24 (by decide) rfl) rfl (by decide) (r_24_4 hS) ?_
          refine q_aload rfl ?_
          refine q_getRs (c0 := 7) (j := 0) rfl rfl (zl hS 24 (by decide)) (sk hS 24 (by decide) rfl) rfl (by decide) (r_24_0 hS) ?_
          refine q_iload rfl ?_
          obtain ⟨d_136, h⟩ := ite_some h
          obtain ⟨⟨x_136, I_136, L_136⟩, e_136, h⟩ := Option.bind_eq_some_iff.mp h
          dsimp only at h
          refine q_fv2I (a_121 X hS (d := d - 1) (by omega) e_136) (by omega) (by omega) (by omega) rfl (Nat.le_of_ble_eq_true rfl) ⟨(zl hS 1 (by decide)), congrArg Prod.fst (sk hS 1 (by decide) rfl), by decide⟩ ?_
          refine q_aload rfl ?_
          refine q_iload rfl ?_
          obtain ⟨d_142, h⟩ := ite_some h
          obtain ⟨⟨x_142, I_142, L_142⟩, e_142, h⟩ := Option.bind_eq_some_iff.mp h
          dsimp only at h
          refine q_fv2I (a_135 X hS (d := d - 1) (by omega) e_142) (by omega) (by omega) (by omega) rfl (Nat.le_of_ble_eq_true rfl) ⟨(zl hS 24 (by decide)), congrArg Prod.fst (sk hS 24 (by decide) rfl), by decide⟩ ?_
          obtain ⟨d_145, h⟩ := ite_some h
          obtain ⟨⟨⟨z_145, kd_145, I_145, L_145, R_145⟩, ck_145, cm_145⟩, e_145, h⟩ := Option.bind_eq_some_iff.mp h
          dsimp only at h
          obtain ⟨mk_145, ms_145, h, ek_145, em_145⟩ := adk_some h
          refine q_gv3V (a_107 X hS (d := d - 1) (by omega) e_145) (by omega) (by omega) (by omega) rfl (Nat.le_of_ble_eq_true rfl) ⟨(zl hS 44 (by decide)), congrArg Prod.fst (sk hS 44 (by decide) rfl), by decide⟩ ?_
          have hS_145 := s_107 hS e_145
          refine q_end ?_
          exact (ih dp d hdp _ _ _ _ _ hS_145 i1 i2 i3 i4 i5 _ _ _ _ _ _ _).2.2 h MC MS _ _ (by omega) (by omega)
    · intro h MC MS k m hMC hMS
      rw [e_134_2] at h
      refine K_of b_134_148 h_134_148 ?_
      refine q_iinc (ls1 := [some (.ref 24), some (.int i1), some (.int i2), some (.int i3), some (.int i4), some (.int (i5 + Int32.ofInt (-1)))]) rfl rfl ?_
      refine q_goto ?_
      exact (ih dp d hdp _ _ _ _ _ hS i1 i2 i3 i4 (i5 + Int32.ofInt (-1)) _ _ _ _ _ _ _).2.1 h MC MS _ _ (by omega) (by omega)
set_option maxHeartbeats 8000000 in
set_option maxRecDepth 100000 in
theorem t_134 : ∀ (n dp : Nat) (z : Nat) (kd : (Nat → Nat × Nat)) (I : (Nat → Nat → Int32)) (L : (Nat → Nat → Int64)) (R : (Nat → Nat → Option Nat)), Sh z kd R → ∀ (i1 : Int32) (i2 : Int32) (i3 : Int32) (i4 : Int32) (i5 : Int32) (z1 : Nat) (kd1 : (Nat → Nat × Nat)) (I1 : (Nat → Nat → Int32)) (L1 : (Nat → Nat → Int64)) (R1 : (Nat → Nat → Option Nat)) (k1 m1 : Nat), (g_134 n dp 0 z kd I L R i1 i2 i3 i4 i5 = some ((z1, kd1, I1, L1, R1), k1, m1) → Sh z1 kd1 R1) ∧
    (g_134 n dp 1 z kd I L R i1 i2 i3 i4 i5 = some ((z1, kd1, I1, L1, R1), k1, m1) → Sh z1 kd1 R1) ∧
    (g_134 n dp 2 z kd I L R i1 i2 i3 i4 i5 = some ((z1, kd1, I1, L1, R1), k1, m1) → Sh z1 kd1 R1) := by
  intro n
  induction n with
  | zero => intro dp z kd I L R hS i1 i2 i3 i4 i5 z1 kd1 I1 L1 R1 k1 m1; exact ⟨(fun h => by cases h), (fun h => by cases h), (fun h => by cases h)⟩
  | succ n ih =>
    intro dp z kd I L R hS i1 i2 i3 i4 i5 z1 kd1 I1 L1 R1 k1 m1
    refine ⟨?_, ?_, ?_⟩
    · intro h
      rw [e_134_0] at h
      obtain ⟨⟨u_5, v_5⟩, h⟩ := ite_some h
      by_cases c_7 : (I 56 (Int32.toNatClampNeg i1)) = (-1 : Int32)
      · rw [if_pos c_7] at h
        obtain ⟨d_15, h⟩ := ite_some h
        obtain ⟨⟨x_15, I_15, L_15⟩, e_15, h⟩ := Option.bind_eq_some_iff.mp h
        dsimp only at h
        by_cases c_20 : i1 = 0
        · rw [if_pos c_20] at h
          obtain ⟨v_65, nv_65, h⟩ := stI_some h
          by_cases c_67 : v_65 = 0
          · rw [if_pos c_67] at h
            obtain ⟨⟨u_83, v_83⟩, h⟩ := ite_some h
            obtain ⟨I_83, nI_83, h⟩ := stI_some h
            obtain ⟨⟨u_90, v_90⟩, h⟩ := ite_some h
            obtain ⟨I_90, nI_90, h⟩ := stI_some h
            by_cases c_93 : (2 : Int32) ≤ x_15
            · rw [if_pos c_93] at h
              obtain ⟨d_98, h⟩ := ite_some h
              obtain ⟨⟨⟨z_98, kd_98, I_98, L_98, R_98⟩, ck_98, cm_98⟩, e_98, h⟩ := Option.bind_eq_some_iff.mp h
              dsimp only at h
              obtain ⟨mk_98, ms_98, h, ek_98, em_98⟩ := adk_some h
              have hS_98 := s_95 hS e_98
              obtain ⟨d_105, h⟩ := ite_some h
              obtain ⟨⟨⟨z_105, kd_105, I_105, L_105, R_105⟩, ck_105, cm_105⟩, e_105, h⟩ := Option.bind_eq_some_iff.mp h
              dsimp only at h
              obtain ⟨mk_105, ms_105, h, ek_105, em_105⟩ := adk_some h
              have hS_105 := s_103 hS_98 e_105
              exact (ih dp _ _ _ _ _ hS_105 i1 x_15 v_65 (1 : Int32) (x_15 - (1 : Int32)) _ _ _ _ _ _ _).2.1 h
            · rw [if_neg c_93] at h
              cases h
              exact hS
          · rw [if_neg c_67] at h
            obtain ⟨⟨u_83, v_83⟩, h⟩ := ite_some h
            obtain ⟨I_83, nI_83, h⟩ := stI_some h
            obtain ⟨⟨u_90, v_90⟩, h⟩ := ite_some h
            obtain ⟨I_90, nI_90, h⟩ := stI_some h
            by_cases c_93 : (2 : Int32) ≤ x_15
            · rw [if_pos c_93] at h
              obtain ⟨d_98, h⟩ := ite_some h
              obtain ⟨⟨⟨z_98, kd_98, I_98, L_98, R_98⟩, ck_98, cm_98⟩, e_98, h⟩ := Option.bind_eq_some_iff.mp h
              dsimp only at h
              obtain ⟨mk_98, ms_98, h, ek_98, em_98⟩ := adk_some h
              have hS_98 := s_95 hS e_98
              obtain ⟨d_105, h⟩ := ite_some h
              obtain ⟨⟨⟨z_105, kd_105, I_105, L_105, R_105⟩, ck_105, cm_105⟩, e_105, h⟩ := Option.bind_eq_some_iff.mp h
              dsimp only at h
              obtain ⟨mk_105, ms_105, h, ek_105, em_105⟩ := adk_some h
              have hS_105 := s_103 hS_98 e_105
              exact (ih dp _ _ _ _ _ hS_105 i1 x_15 v_65 (0 : Int32) (x_15 - (1 : Int32)) _ _ _ _ _ _ _).2.1 h
            · rw [if_neg c_93] at h
              cases h
              exact hS
        · rw [if_neg c_20] at h
          by_cases c_37 : i1 = (1 : Int32)
          · rw [if_pos c_37] at h
            obtain ⟨v_65, nv_65, h⟩ := stI_some h
            by_cases c_67 : v_65 = 0
            · rw [if_pos c_67] at h
              obtain ⟨⟨u_83, v_83⟩, h⟩ := ite_some h
              obtain ⟨I_83, nI_83, h⟩ := stI_some h
              obtain ⟨⟨u_90, v_90⟩, h⟩ := ite_some h
              obtain ⟨I_90, nI_90, h⟩ := stI_some h
              by_cases c_93 : (2 : Int32) ≤ x_15
              · rw [if_pos c_93] at h
                obtain ⟨d_98, h⟩ := ite_some h
                obtain ⟨⟨⟨z_98, kd_98, I_98, L_98, R_98⟩, ck_98, cm_98⟩, e_98, h⟩ := Option.bind_eq_some_iff.mp h
                dsimp only at h
                obtain ⟨mk_98, ms_98, h, ek_98, em_98⟩ := adk_some h
                have hS_98 := s_95 hS e_98
                obtain ⟨d_105, h⟩ := ite_some h
                obtain ⟨⟨⟨z_105, kd_105, I_105, L_105, R_105⟩, ck_105, cm_105⟩, e_105, h⟩ := Option.bind_eq_some_iff.mp h
                dsimp only at h
                obtain ⟨mk_105, ms_105, h, ek_105, em_105⟩ := adk_some h
                have hS_105 := s_103 hS_98 e_105
                exact (ih dp _ _ _ _ _ hS_105 i1 x_15 v_65 (1 : Int32) (x_15 - (1 : Int32)) _ _ _ _ _ _ _).2.1 h
              · rw [if_neg c_93] at h
                cases h
                exact hS
            · rw [if_neg c_67] at h
              obtain ⟨⟨u_83, v_83⟩, h⟩ := ite_some h
              obtain ⟨I_83, nI_83, h⟩ := stI_some h
              obtain ⟨⟨u_90, v_90⟩, h⟩ := ite_some h
              obtain ⟨I_90, nI_90, h⟩ := stI_some h
              by_cases c_93 : (2 : Int32) ≤ x_15
              · rw [if_pos c_93] at h
                obtain ⟨d_98, h⟩ := ite_some h
                obtain ⟨⟨⟨z_98, kd_98, I_98, L_98, R_98⟩, ck_98, cm_98⟩, e_98, h⟩ := Option.bind_eq_some_iff.mp h
                dsimp only at h
                obtain ⟨mk_98, ms_98, h, ek_98, em_98⟩ := adk_some h
                have hS_98 := s_95 hS e_98
                obtain ⟨d_105, h⟩ := ite_some h
                obtain ⟨⟨⟨z_105, kd_105, I_105, L_105, R_105⟩, ck_105, cm_105⟩, e_105, h⟩ := Option.bind_eq_some_iff.mp h
                dsimp only at h
                obtain ⟨mk_105, ms_105, h, ek_105, em_105⟩ := adk_some h
                have hS_105 := s_103 hS_98 e_105
                exact (ih dp _ _ _ _ _ hS_105 i1 x_15 v_65 (0 : Int32) (x_15 - (1 : Int32)) _ _ _ _ _ _ _).2.1 h
              · rw [if_neg c_93] at h
                cases h
                exact hS
          · rw [if_neg c_37] at h
            by_cases c_67 : (x_15 - (1 : Int32)) = 0
            · rw [if_pos c_67] at h
              obtain ⟨⟨u_83, v_83⟩, h⟩ := ite_some h
              obtain ⟨I_83, nI_83, h⟩ := stI_some h
              obtain ⟨⟨u_90, v_90⟩, h⟩ := ite_some h
              obtain ⟨I_90, nI_90, h⟩ := stI_some h
              by_cases c_93 : (2 : Int32) ≤ x_15
              · rw [if_pos c_93] at h
                obtain ⟨d_98, h⟩ := ite_some h
                obtain ⟨⟨⟨z_98, kd_98, I_98, L_98, R_98⟩, ck_98, cm_98⟩, e_98, h⟩ := Option.bind_eq_some_iff.mp h
                dsimp only at h
                obtain ⟨mk_98, ms_98, h, ek_98, em_98⟩ := adk_some h
                have hS_98 := s_95 hS e_98
                obtain ⟨d_105, h⟩ := ite_some h
                obtain ⟨⟨⟨z_105, kd_105, I_105, L_105, R_105⟩, ck_105, cm_105⟩, e_105, h⟩ := Option.bind_eq_some_iff.mp h
                dsimp only at h
                obtain ⟨mk_105, ms_105, h, ek_105, em_105⟩ := adk_some h
                have hS_105 := s_103 hS_98 e_105
                exact (ih dp _ _ _ _ _ hS_105 i1 x_15 (x_15 - (1 : Int32)) (1 : Int32) (x_15 - (1 : Int32)) _ _ _ _ _ _ _).2.1 h
              · rw [if_neg c_93] at h
                cases h
                exact hS
            · rw [if_neg c_67] at h
              obtain ⟨⟨u_83, v_83⟩, h⟩ := ite_some h
              obtain ⟨I_83, nI_83, h⟩ := stI_some h
              obtain ⟨⟨u_90, v_90⟩, h⟩ := ite_some h
              obtain ⟨I_90, nI_90, h⟩ := stI_some h
              by_cases c_93 : (2 : Int32) ≤ x_15
              · rw [if_pos c_93] at h
                obtain ⟨d_98, h⟩ := ite_some h
                obtain ⟨⟨⟨z_98, kd_98, I_98, L_98, R_98⟩, ck_98, cm_98⟩, e_98, h⟩ := Option.bind_eq_some_iff.mp h
                dsimp only at h
                obtain ⟨mk_98, ms_98, h, ek_98, em_98⟩ := adk_some h
                have hS_98 := s_95 hS e_98
                obtain ⟨d_105, h⟩ := ite_some h
                obtain ⟨⟨⟨z_105, kd_105, I_105, L_105, R_105⟩, ck_105, cm_105⟩, e_105, h⟩ := Option.bind_eq_some_iff.mp h
                dsimp only at h
                obtain ⟨mk_105, ms_105, h, ek_105, em_105⟩ := adk_some h
                have hS_105 := s_103 hS_98 e_105
                exact (ih dp _ _ _ _ _ hS_105 i1 x_15 (x_15 - (1 : Int32)) (0 : Int32) (x_15 - (1 : Int32)) _ _ _ _ _ _ _).2.1 h
              · rw [if_neg c_93] at h
                cases h
                exact hS
      · rw [if_neg c_7] at h
        cases h
        exact hS
    · intro h
      rw [e_134_1] at h
      by_cases c_117 : i5 ≤ i4
      · rw [if_pos c_117] at h
        obtain ⟨d_164, h⟩ := ite_some h
        obtain ⟨⟨x_164, I_164, L_164⟩, e_164, h⟩ := Option.bind_eq_some_iff.mp h
        dsimp only at h
        obtain ⟨d_170, h⟩ := ite_some h
        obtain ⟨⟨x_170, I_170, L_170⟩, e_170, h⟩ := Option.bind_eq_some_iff.mp h
        dsimp only at h
        obtain ⟨d_173, h⟩ := ite_some h
        obtain ⟨⟨I_173, L_173⟩, e_173, h⟩ := Option.bind_eq_some_iff.mp h
        dsimp only at h
        obtain ⟨d_180, h⟩ := ite_some h
        obtain ⟨⟨⟨z_180, kd_180, I_180, L_180, R_180⟩, ck_180, cm_180⟩, e_180, h⟩ := Option.bind_eq_some_iff.mp h
        dsimp only at h
        obtain ⟨mk_180, ms_180, h, ek_180, em_180⟩ := adk_some h
        have hS_180 := s_103 hS e_180
        obtain ⟨⟨u_198, v_198⟩, h⟩ := ite_some h
        obtain ⟨I_198, nI_198, h⟩ := stI_some h
        obtain ⟨⟨u_218, v_218⟩, h⟩ := ite_some h
        obtain ⟨I_218, nI_218, h⟩ := stI_some h
        cases h
        exact hS_180
      · rw [if_neg c_117] at h
        by_cases c_123 : i5 = i3
        · rw [if_pos c_123] at h
          exact (ih dp _ _ _ _ _ hS i1 i2 i3 i4 i5 _ _ _ _ _ _ _).2.2 h
        · rw [if_neg c_123] at h
          obtain ⟨d_136, h⟩ := ite_some h
          obtain ⟨⟨x_136, I_136, L_136⟩, e_136, h⟩ := Option.bind_eq_some_iff.mp h
          dsimp only at h
          obtain ⟨d_142, h⟩ := ite_some h
          obtain ⟨⟨x_142, I_142, L_142⟩, e_142, h⟩ := Option.bind_eq_some_iff.mp h
          dsimp only at h
          obtain ⟨d_145, h⟩ := ite_some h
          obtain ⟨⟨⟨z_145, kd_145, I_145, L_145, R_145⟩, ck_145, cm_145⟩, e_145, h⟩ := Option.bind_eq_some_iff.mp h
          dsimp only at h
          obtain ⟨mk_145, ms_145, h, ek_145, em_145⟩ := adk_some h
          have hS_145 := s_107 hS e_145
          exact (ih dp _ _ _ _ _ hS_145 i1 i2 i3 i4 i5 _ _ _ _ _ _ _).2.2 h
    · intro h
      rw [e_134_2] at h
      exact (ih dp _ _ _ _ _ hS i1 i2 i3 i4 (i5 + Int32.ofInt (-1)) _ _ _ _ _ _ _).2.1 h
theorem a_134 (X : GX) {z : Nat} {kd : (Nat → Nat × Nat)} {I : (Nat → Nat → Int32)} {L : (Nat → Nat → Int64)} {R : (Nat → Nat → Option Nat)} (hS : Sh z kd R) {n dp d : Nat} (hd : dp ≤ d) {i1 : Int32} {z1 : Nat} {kd1 : (Nat → Nat × Nat)} {I1 : (Nat → Nat → Int32)} {L1 : (Nat → Nat → Int64)} {R1 : (Nat → Nat → Option Nat)} {k1 m1 : Nat} (h : g_134 n dp 0 z kd I L R i1 0 0 0 0 = some ((z1, kd1, I1, L1, R1), k1, m1)) : Ct X d 134 k1 m1 [.ref 24, .int i1] (z, kd, I, L, R) (AV (fun τ => τ = (z1, kd1, I1, L1, R1))) :=
  Ct_of mu_134 (Nat.le_of_ble_eq_true rfl) ((w_134 X n dp d hd z kd I L R hS i1 0 0 0 0 _ _ _ _ _ _ _).1 h k1 m1 0 0 (by omega) (by omega))
theorem s_134 {z : Nat} {kd : (Nat → Nat × Nat)} {I : (Nat → Nat → Int32)} {L : (Nat → Nat → Int64)} {R : (Nat → Nat → Option Nat)} (hS : Sh z kd R) {n dp : Nat} {i1 : Int32} {z1 : Nat} {kd1 : (Nat → Nat × Nat)} {I1 : (Nat → Nat → Int32)} {L1 : (Nat → Nat → Int64)} {R1 : (Nat → Nat → Option Nat)} {k1 m1 : Nat} (h : g_134 n dp 0 z kd I L R i1 0 0 0 0 = some ((z1, kd1, I1, L1, R1), k1, m1)) : Sh z1 kd1 R1 := (t_134 n dp z kd I L R hS i1 0 0 0 0 _ _ _ _ _ _ _).1 h

/-! 91 CutFloor.hasPlan()Z -/
set_option maxHeartbeats 4000000 in
set_option maxRecDepth 100000 in
def g_91 : Nat → Nat → Nat → Nat → (Nat → Nat × Nat) → (Nat → Nat → Int32) → (Nat → Nat → Int64) → (Nat → Nat → Option Nat) →  Option ((Int32 × PS) × Nat × Nat)
  | 0, _, _, _, _, _, _, _ => none
  | n + 1, dp, lab, z, kd, I, L, R =>
    if lab = 0 then (if 1 ≤ dp then (g_81 n (dp - 1) (z, kd, R) 0 I L 0 0 0 0).bind (fun ⟨I_4, L_4⟩ => (if 1 ≤ dp then (g_92 n (dp - 1) 0 z kd I_4 L_4 R (I_4 2 0) (I_4 2 1) (I_4 2 2) 0).bind (fun ⟨⟨x_38, z_38, kd_38, I_38, L_38, R_38⟩, ck_38, cm_38⟩ => (adk ck_38 cm_38 (if x_38 = (-1 : Int32) then (some (((0 : Int32), z_38, kd_38, I_38, L_38, R_38), 0, 0)) else (some (((1 : Int32), z_38, kd_38, I_38, L_38, R_38), 0, 0))))) else none)) else none)
    else none
set_option maxRecDepth 100000 in
theorem e_91_0 (n dp : Nat) (z : Nat) (kd : (Nat → Nat × Nat)) (I : (Nat → Nat → Int32)) (L : (Nat → Nat → Int64)) (R : (Nat → Nat → Option Nat)) : g_91 (n + 1) dp 0 z kd I L R = (if 1 ≤ dp then (g_81 n (dp - 1) (z, kd, R) 0 I L 0 0 0 0).bind (fun ⟨I_4, L_4⟩ => (if 1 ≤ dp then (g_92 n (dp - 1) 0 z kd I_4 L_4 R (I_4 2 0) (I_4 2 1) (I_4 2 2) 0).bind (fun ⟨⟨x_38, z_38, kd_38, I_38, L_38, R_38⟩, ck_38, cm_38⟩ => (adk ck_38 cm_38 (if x_38 = (-1 : Int32) then (some (((0 : Int32), z_38, kd_38, I_38, L_38, R_38), 0, 0)) else (some (((1 : Int32), z_38, kd_38, I_38, L_38, R_38), 0, 0))))) else none)) else none) := by rw [g_91.eq_2, if_pos (show (0 : Nat) = 0 from rfl)]
set_option maxHeartbeats 8000000 in
set_option maxRecDepth 100000 in
theorem w_91 (X : GX) : ∀ (n dp d : Nat), dp ≤ d → ∀ (z : Nat) (kd : (Nat → Nat × Nat)) (I : (Nat → Nat → Int32)) (L : (Nat → Nat → Int64)) (R : (Nat → Nat → Option Nat)), Sh z kd R → ∀ (r : Int32) (z1 : Nat) (kd1 : (Nat → Nat × Nat)) (I1 : (Nat → Nat → Int32)) (L1 : (Nat → Nat → Int64)) (R1 : (Nat → Nat → Option Nat)) (k1 m1 : Nat), (g_91 n dp 0 z kd I L R = some ((r, z1, kd1, I1, L1, R1), k1, m1) → ∀ MC MS k m : Nat, k + k1 ≤ MC → m + m1 ≤ MS → K X d 91 MC MS (AI (fun x τ => x = r ∧ τ = (z1, kd1, I1, L1, R1))) 0 [some (.ref 0)] [] (z, kd, I, L, R) k m) := by
  intro n
  induction n with
  | zero => intro dp d hdp z kd I L R hS  r z1 kd1 I1 L1 R1 k1 m1; exact fun h => by cases h
  | succ n ih =>
    intro dp d hdp z kd I L R hS  r z1 kd1 I1 L1 R1 k1 m1
    · intro h MC MS k m hMC hMS
      rw [e_91_0] at h
      refine K_of b_91_0 h_91_0 ?_
      refine q_aload rfl ?_
      refine q_getRs (c0 := 11) (j := 3) rfl rfl (zl hS 0 (by decide)) (sk hS 0 (by decide) rfl) rfl (by decide) (r_0_3 hS) ?_
      obtain ⟨d_4, h⟩ := ite_some h
      obtain ⟨⟨I_4, L_4⟩, e_4, h⟩ := Option.bind_eq_some_iff.mp h
      dsimp only at h
      refine q_fv1V (a_81 X hS (d := d - 1) (by omega) e_4) (by omega) (by omega) (by omega) rfl (Nat.le_of_ble_eq_true rfl) ⟨(zl hS 24 (by decide)), congrArg Prod.fst (sk hS 24 (by decide) rfl), by decide⟩ ?_
      refine q_aload rfl ?_
      refine q_getRs (c0 := 11) (j := 3) rfl rfl (zl hS 0 (by decide)) (sk hS 0 (by decide) rfl) rfl (by decide) (r_0_3 hS) ?_
      refine q_aload rfl ?_
      refine q_getRs (c0 := 11) (j := 0) rfl rfl (zl hS 0 (by decide)) (sk hS 0 (by decide) rfl) rfl (by decide) (r_0_0 hS) ?_
      refine q_getRs (c0 := 3) (j := 0) rfl rfl (zl hS 1 (by decide)) (sk hS 1 (by decide) rfl) rfl (by decide) (r_1_0 hS) ?_
      refine q_iconst (0) (by decide) ?_
      refine q_ialN (0) rfl (zl hS 2 (by decide)) (sk hS 2 (by decide) rfl) (by decide) (by decide) ?_
      refine q_aload rfl ?_
      refine q_getRs (c0 := 11) (j := 0) rfl rfl (zl hS 0 (by decide)) (sk hS 0 (by decide) rfl) rfl (by decide) (r_0_0 hS) ?_
      refine q_getRs (c0 := 3) (j := 0) rfl rfl (zl hS 1 (by decide)) (sk hS 1 (by decide) rfl) rfl (by decide) (r_1_0 hS) ?_
      refine q_iconst (1) (by decide) ?_
      refine q_ialN (1) rfl (zl hS 2 (by decide)) (sk hS 2 (by decide) rfl) (by decide) (by decide) ?_
      refine q_aload rfl ?_
      refine q_getRs (c0 := 11) (j := 0) rfl rfl (zl hS 0 (by decide)) (sk hS 0 (by decide) rfl) rfl (by decide) (r_0_0 hS) ?_
      refine q_getRs (c0 := 3) (j := 0) rfl rfl (zl hS 1 (by decide)) (sk hS 1 (by decide) rfl) rfl (by decide) (r_1_0 hS) ?_
      refine q_iconst (2) (by decide) ?_
      refine q_ialN (2) rfl (zl hS 2 (by decide)) (sk hS 2 (by decide) rfl) (by decide) (by decide) ?_
      obtain ⟨d_38, h⟩ := ite_some h
      obtain ⟨⟨⟨x_38, z_38, kd_38, I_38, L_38, R_38⟩, ck_38, cm_38⟩, e_38, h⟩ := Option.bind_eq_some_iff.mp h
      dsimp only at h
      obtain ⟨mk_38, ms_38, h, ek_38, em_38⟩ := adk_some h
      refine q_gv4I (a_92 X hS (d := d - 1) (by omega) e_38) (by omega) (by omega) (by omega) rfl (Nat.le_of_ble_eq_true rfl) ⟨(zl hS 24 (by decide)), congrArg Prod.fst (sk hS 24 (by decide) rfl), by decide⟩ ?_
      have hS_38 := s_92 hS e_38
      refine q_iconst (-1) (by decide) ?_
      refine q_icmp_eq (fun c_42 => ?_) (fun c_42 => ?_)
      · rw [if_pos c_42] at h
        refine K_of b_91_49 h_91_49 ?_
        refine q_iconst (0) (by decide) ?_
        refine q_end ?_
        refine K_of b_91_50 h_91_50 ?_
        cases h
        exact q_iret rfl (by omega) (by omega) ⟨rfl, rfl⟩
      · rw [if_neg c_42] at h
        refine q_iconst (1) (by decide) ?_
        refine q_goto ?_
        refine K_of b_91_50 h_91_50 ?_
        cases h
        exact q_iret rfl (by omega) (by omega) ⟨rfl, rfl⟩
set_option maxHeartbeats 8000000 in
set_option maxRecDepth 100000 in
theorem t_91 : ∀ (n dp : Nat) (z : Nat) (kd : (Nat → Nat × Nat)) (I : (Nat → Nat → Int32)) (L : (Nat → Nat → Int64)) (R : (Nat → Nat → Option Nat)), Sh z kd R → ∀ (r : Int32) (z1 : Nat) (kd1 : (Nat → Nat × Nat)) (I1 : (Nat → Nat → Int32)) (L1 : (Nat → Nat → Int64)) (R1 : (Nat → Nat → Option Nat)) (k1 m1 : Nat), (g_91 n dp 0 z kd I L R = some ((r, z1, kd1, I1, L1, R1), k1, m1) → Sh z1 kd1 R1) := by
  intro n
  induction n with
  | zero => intro dp z kd I L R hS r z1 kd1 I1 L1 R1 k1 m1; exact fun h => by cases h
  | succ n ih =>
    intro dp z kd I L R hS r z1 kd1 I1 L1 R1 k1 m1
    · intro h
      rw [e_91_0] at h
      obtain ⟨d_4, h⟩ := ite_some h
      obtain ⟨⟨I_4, L_4⟩, e_4, h⟩ := Option.bind_eq_some_iff.mp h
      dsimp only at h
      obtain ⟨d_38, h⟩ := ite_some h
      obtain ⟨⟨⟨x_38, z_38, kd_38, I_38, L_38, R_38⟩, ck_38, cm_38⟩, e_38, h⟩ := Option.bind_eq_some_iff.mp h
      dsimp only at h
      obtain ⟨mk_38, ms_38, h, ek_38, em_38⟩ := adk_some h
      have hS_38 := s_92 hS e_38
      by_cases c_42 : x_38 = (-1 : Int32)
      · rw [if_pos c_42] at h
        cases h
        exact hS_38
      · rw [if_neg c_42] at h
        cases h
        exact hS_38
theorem a_91 (X : GX) {z : Nat} {kd : (Nat → Nat × Nat)} {I : (Nat → Nat → Int32)} {L : (Nat → Nat → Int64)} {R : (Nat → Nat → Option Nat)} (hS : Sh z kd R) {n dp d : Nat} (hd : dp ≤ d) {r : Int32} {z1 : Nat} {kd1 : (Nat → Nat × Nat)} {I1 : (Nat → Nat → Int32)} {L1 : (Nat → Nat → Int64)} {R1 : (Nat → Nat → Option Nat)} {k1 m1 : Nat} (h : g_91 n dp 0 z kd I L R = some ((r, z1, kd1, I1, L1, R1), k1, m1)) : Ct X d 91 k1 m1 [.ref 0] (z, kd, I, L, R) (AI (fun x τ => x = r ∧ τ = (z1, kd1, I1, L1, R1))) :=
  Ct_of mu_91 (Nat.le_of_ble_eq_true rfl) ((w_91 X n dp d hd z kd I L R hS _ _ _ _ _ _ _ _) h k1 m1 0 0 (by omega) (by omega))
theorem s_91 {z : Nat} {kd : (Nat → Nat × Nat)} {I : (Nat → Nat → Int32)} {L : (Nat → Nat → Int64)} {R : (Nat → Nat → Option Nat)} (hS : Sh z kd R) {n dp : Nat} {r : Int32} {z1 : Nat} {kd1 : (Nat → Nat × Nat)} {I1 : (Nat → Nat → Int32)} {L1 : (Nat → Nat → Int64)} {R1 : (Nat → Nat → Option Nat)} {k1 m1 : Nat} (h : g_91 n dp 0 z kd I L R = some ((r, z1, kd1, I1, L1, R1), k1, m1)) : Sh z1 kd1 R1 := (t_91 n dp z kd I L R hS _ _ _ _ _ _ _ _) h

/-! 90 CutFloor.best(I)I -/
set_option maxHeartbeats 4000000 in
set_option maxRecDepth 100000 in
def g_90 : Nat → Nat → Nat → Nat → (Nat → Nat × Nat) → (Nat → Nat → Int32) → (Nat → Nat → Int64) → (Nat → Nat → Option Nat) → Int32 →  Option ((Int32 × PS) × Nat × Nat)
  | 0, _, _, _, _, _, _, _, _ => none
  | n + 1, dp, lab, z, kd, I, L, R, i1 =>
    if lab = 0 then (if 1 ≤ dp then (g_14 n (dp - 1) (z, kd, R) 0 I L i1 (0 : Int32) (1 : Int32)).bind (fun ⟨x_3, I_3, L_3⟩ => (if x_3 = 0 then (some (((-1 : Int32), z, kd, I_3, L_3, R), 0, 0)) else (if 1 ≤ dp then (g_91 n (dp - 1) 0 z kd I_3 L_3 R).bind (fun ⟨⟨x_10, z_10, kd_10, I_10, L_10, R_10⟩, ck_10, cm_10⟩ => (adk ck_10 cm_10 (if x_10 = 0 then (some (((-1 : Int32), z_10, kd_10, I_10, L_10, R_10), 0, 0)) else (if i1 = 0 then (if 1 ≤ dp then (g_117 n (dp - 1) (z_10, kd_10, R_10) 0 I_10 L_10).bind (fun ⟨x_26, I_26, L_26⟩ => (some ((x_26, z_10, kd_10, I_26, L_26, R_10), 0, 0))) else none) else (if 1 ≤ dp then (g_118 n (dp - 1) (z_10, kd_10, R_10) 0 I_10 L_10).bind (fun ⟨x_36, I_36, L_36⟩ => (some ((x_36, z_10, kd_10, I_36, L_36, R_10), 0, 0))) else none))))) else none))) else none)
    else none
set_option maxRecDepth 100000 in
theorem e_90_0 (n dp : Nat) (z : Nat) (kd : (Nat → Nat × Nat)) (I : (Nat → Nat → Int32)) (L : (Nat → Nat → Int64)) (R : (Nat → Nat → Option Nat)) (i1 : Int32) : g_90 (n + 1) dp 0 z kd I L R i1 = (if 1 ≤ dp then (g_14 n (dp - 1) (z, kd, R) 0 I L i1 (0 : Int32) (1 : Int32)).bind (fun ⟨x_3, I_3, L_3⟩ => (if x_3 = 0 then (some (((-1 : Int32), z, kd, I_3, L_3, R), 0, 0)) else (if 1 ≤ dp then (g_91 n (dp - 1) 0 z kd I_3 L_3 R).bind (fun ⟨⟨x_10, z_10, kd_10, I_10, L_10, R_10⟩, ck_10, cm_10⟩ => (adk ck_10 cm_10 (if x_10 = 0 then (some (((-1 : Int32), z_10, kd_10, I_10, L_10, R_10), 0, 0)) else (if i1 = 0 then (if 1 ≤ dp then (g_117 n (dp - 1) (z_10, kd_10, R_10) 0 I_10 L_10).bind (fun ⟨x_26, I_26, L_26⟩ => (some ((x_26, z_10, kd_10, I_26, L_26, R_10), 0, 0))) else none) else (if 1 ≤ dp then (g_118 n (dp - 1) (z_10, kd_10, R_10) 0 I_10 L_10).bind (fun ⟨x_36, I_36, L_36⟩ => (some ((x_36, z_10, kd_10, I_36, L_36, R_10), 0, 0))) else none))))) else none))) else none) := by rw [g_90.eq_2, if_pos (show (0 : Nat) = 0 from rfl)]
set_option maxHeartbeats 8000000 in
set_option maxRecDepth 100000 in
theorem w_90 (X : GX) : ∀ (n dp d : Nat), dp ≤ d → ∀ (z : Nat) (kd : (Nat → Nat × Nat)) (I : (Nat → Nat → Int32)) (L : (Nat → Nat → Int64)) (R : (Nat → Nat → Option Nat)), Sh z kd R → ∀ (i1 : Int32) (r : Int32) (z1 : Nat) (kd1 : (Nat → Nat × Nat)) (I1 : (Nat → Nat → Int32)) (L1 : (Nat → Nat → Int64)) (R1 : (Nat → Nat → Option Nat)) (k1 m1 : Nat), (g_90 n dp 0 z kd I L R i1 = some ((r, z1, kd1, I1, L1, R1), k1, m1) → ∀ MC MS k m : Nat, k + k1 ≤ MC → m + m1 ≤ MS → K X d 90 MC MS (AI (fun x τ => x = r ∧ τ = (z1, kd1, I1, L1, R1))) 0 [some (.ref 0), some (.int i1)] [] (z, kd, I, L, R) k m) := by
  intro n
  induction n with
  | zero => intro dp d hdp z kd I L R hS  i1 r z1 kd1 I1 L1 R1 k1 m1; exact fun h => by cases h
  | succ n ih =>
    intro dp d hdp z kd I L R hS  i1 r z1 kd1 I1 L1 R1 k1 m1
    · intro h MC MS k m hMC hMS
      rw [e_90_0] at h
      refine K_of b_90_0 h_90_0 ?_
      refine q_iload rfl ?_
      refine q_iconst (0) (by decide) ?_
      refine q_iconst (1) (by decide) ?_
      obtain ⟨d_3, h⟩ := ite_some h
      obtain ⟨⟨x_3, I_3, L_3⟩, e_3, h⟩ := Option.bind_eq_some_iff.mp h
      dsimp only at h
      refine q_fs3I (a_14 X hS (d := d - 1) (by omega) e_3) (by omega) (by omega) (by omega) rfl (Nat.le_of_ble_eq_true rfl) ?_
      refine q_if_eq (fun c_6 => ?_) (fun c_6 => ?_)
      · rw [if_pos c_6] at h
        refine K_of b_90_16 h_90_16 ?_
        refine q_iconst (-1) (by decide) ?_
        cases h
        exact q_iret rfl (by omega) (by omega) ⟨rfl, rfl⟩
      · rw [if_neg c_6] at h
        refine q_aload rfl ?_
        obtain ⟨d_10, h⟩ := ite_some h
        obtain ⟨⟨⟨x_10, z_10, kd_10, I_10, L_10, R_10⟩, ck_10, cm_10⟩, e_10, h⟩ := Option.bind_eq_some_iff.mp h
        dsimp only at h
        obtain ⟨mk_10, ms_10, h, ek_10, em_10⟩ := adk_some h
        refine q_gv1I (a_91 X hS (d := d - 1) (by omega) e_10) (by omega) (by omega) (by omega) rfl (Nat.le_of_ble_eq_true rfl) ⟨(zl hS 0 (by decide)), congrArg Prod.fst (sk hS 0 (by decide) rfl), by decide⟩ ?_
        have hS_10 := s_91 hS e_10
        refine q_if_ne (fun c_13 => ?_) (fun c_13 => ?_)
        · rw [if_neg c_13] at h
          refine K_of b_90_18 h_90_18 ?_
          refine q_iload rfl ?_
          refine q_if_ne (fun c_19 => ?_) (fun c_19 => ?_)
          · rw [if_neg c_19] at h
            refine K_of b_90_32 h_90_32 ?_
            refine q_aload rfl ?_
            refine q_getRs (c0 := 11) (j := 3) rfl rfl (zl hS_10 0 (by decide)) (sk hS_10 0 (by decide) rfl) rfl (by decide) (r_0_3 hS_10) ?_
            obtain ⟨d_36, h⟩ := ite_some h
            obtain ⟨⟨x_36, I_36, L_36⟩, e_36, h⟩ := Option.bind_eq_some_iff.mp h
            dsimp only at h
            refine q_fv1I (a_118 X hS_10 (d := d - 1) (by omega) e_36) (by omega) (by omega) (by omega) rfl (Nat.le_of_ble_eq_true rfl) ⟨(zl hS_10 24 (by decide)), congrArg Prod.fst (sk hS_10 24 (by decide) rfl), by decide⟩ ?_
            refine q_end ?_
            refine K_of b_90_39 h_90_39 ?_
            cases h
            exact q_iret rfl (by omega) (by omega) ⟨rfl, rfl⟩
          · rw [if_pos c_19] at h
            refine q_aload rfl ?_
            refine q_getRs (c0 := 11) (j := 3) rfl rfl (zl hS_10 0 (by decide)) (sk hS_10 0 (by decide) rfl) rfl (by decide) (r_0_3 hS_10) ?_
            obtain ⟨d_26, h⟩ := ite_some h
            obtain ⟨⟨x_26, I_26, L_26⟩, e_26, h⟩ := Option.bind_eq_some_iff.mp h
            dsimp only at h
            refine q_fv1I (a_117 X hS_10 (d := d - 1) (by omega) e_26) (by omega) (by omega) (by omega) rfl (Nat.le_of_ble_eq_true rfl) ⟨(zl hS_10 24 (by decide)), congrArg Prod.fst (sk hS_10 24 (by decide) rfl), by decide⟩ ?_
            refine q_goto ?_
            refine K_of b_90_39 h_90_39 ?_
            cases h
            exact q_iret rfl (by omega) (by omega) ⟨rfl, rfl⟩
        · rw [if_pos c_13] at h
          refine q_end ?_
          refine K_of b_90_16 h_90_16 ?_
          refine q_iconst (-1) (by decide) ?_
          cases h
          exact q_iret rfl (by omega) (by omega) ⟨rfl, rfl⟩
set_option maxHeartbeats 8000000 in
set_option maxRecDepth 100000 in
theorem t_90 : ∀ (n dp : Nat) (z : Nat) (kd : (Nat → Nat × Nat)) (I : (Nat → Nat → Int32)) (L : (Nat → Nat → Int64)) (R : (Nat → Nat → Option Nat)), Sh z kd R → ∀ (i1 : Int32) (r : Int32) (z1 : Nat) (kd1 : (Nat → Nat × Nat)) (I1 : (Nat → Nat → Int32)) (L1 : (Nat → Nat → Int64)) (R1 : (Nat → Nat → Option Nat)) (k1 m1 : Nat), (g_90 n dp 0 z kd I L R i1 = some ((r, z1, kd1, I1, L1, R1), k1, m1) → Sh z1 kd1 R1) := by
  intro n
  induction n with
  | zero => intro dp z kd I L R hS i1 r z1 kd1 I1 L1 R1 k1 m1; exact fun h => by cases h
  | succ n ih =>
    intro dp z kd I L R hS i1 r z1 kd1 I1 L1 R1 k1 m1
    · intro h
      rw [e_90_0] at h
      obtain ⟨d_3, h⟩ := ite_some h
      obtain ⟨⟨x_3, I_3, L_3⟩, e_3, h⟩ := Option.bind_eq_some_iff.mp h
      dsimp only at h
      by_cases c_6 : x_3 = 0
      · rw [if_pos c_6] at h
        cases h
        exact hS
      · rw [if_neg c_6] at h
        obtain ⟨d_10, h⟩ := ite_some h
        obtain ⟨⟨⟨x_10, z_10, kd_10, I_10, L_10, R_10⟩, ck_10, cm_10⟩, e_10, h⟩ := Option.bind_eq_some_iff.mp h
        dsimp only at h
        obtain ⟨mk_10, ms_10, h, ek_10, em_10⟩ := adk_some h
        have hS_10 := s_91 hS e_10
        by_cases c_13 : x_10 = 0
        · rw [if_pos c_13] at h
          cases h
          exact hS_10
        · rw [if_neg c_13] at h
          by_cases c_19 : i1 = 0
          · rw [if_pos c_19] at h
            obtain ⟨d_26, h⟩ := ite_some h
            obtain ⟨⟨x_26, I_26, L_26⟩, e_26, h⟩ := Option.bind_eq_some_iff.mp h
            dsimp only at h
            cases h
            exact hS_10
          · rw [if_neg c_19] at h
            obtain ⟨d_36, h⟩ := ite_some h
            obtain ⟨⟨x_36, I_36, L_36⟩, e_36, h⟩ := Option.bind_eq_some_iff.mp h
            dsimp only at h
            cases h
            exact hS_10
theorem a_90 (X : GX) {z : Nat} {kd : (Nat → Nat × Nat)} {I : (Nat → Nat → Int32)} {L : (Nat → Nat → Int64)} {R : (Nat → Nat → Option Nat)} (hS : Sh z kd R) {n dp d : Nat} (hd : dp ≤ d) {i1 : Int32} {r : Int32} {z1 : Nat} {kd1 : (Nat → Nat × Nat)} {I1 : (Nat → Nat → Int32)} {L1 : (Nat → Nat → Int64)} {R1 : (Nat → Nat → Option Nat)} {k1 m1 : Nat} (h : g_90 n dp 0 z kd I L R i1 = some ((r, z1, kd1, I1, L1, R1), k1, m1)) : Ct X d 90 k1 m1 [.ref 0, .int i1] (z, kd, I, L, R) (AI (fun x τ => x = r ∧ τ = (z1, kd1, I1, L1, R1))) :=
  Ct_of mu_90 (Nat.le_of_ble_eq_true rfl) ((w_90 X n dp d hd z kd I L R hS i1 _ _ _ _ _ _ _ _) h k1 m1 0 0 (by omega) (by omega))
theorem s_90 {z : Nat} {kd : (Nat → Nat × Nat)} {I : (Nat → Nat → Int32)} {L : (Nat → Nat → Int64)} {R : (Nat → Nat → Option Nat)} (hS : Sh z kd R) {n dp : Nat} {i1 : Int32} {r : Int32} {z1 : Nat} {kd1 : (Nat → Nat × Nat)} {I1 : (Nat → Nat → Int32)} {L1 : (Nat → Nat → Int64)} {R1 : (Nat → Nat → Option Nat)} {k1 m1 : Nat} (h : g_90 n dp 0 z kd I L R i1 = some ((r, z1, kd1, I1, L1, R1), k1, m1)) : Sh z1 kd1 R1 := (t_90 n dp z kd I L R hS i1 _ _ _ _ _ _ _ _) h

/-! 119 CutFloor.plan(I)I -/
set_option maxHeartbeats 4000000 in
set_option maxRecDepth 100000 in
def g_119 : Nat → Nat → Nat → Nat → (Nat → Nat × Nat) → (Nat → Nat → Int32) → (Nat → Nat → Int64) → (Nat → Nat → Option Nat) → Int32 →  Option ((Int32 × PS) × Nat × Nat)
  | 0, _, _, _, _, _, _, _, _ => none
  | n + 1, dp, lab, z, kd, I, L, R, i1 =>
    if lab = 0 then (if 1 ≤ dp then (g_16 n (dp - 1) (z, kd, R) 0 I L).bind (fun ⟨x_6, I_6, L_6⟩ => (if 1 ≤ dp then (g_14 n (dp - 1) (z, kd, R) 0 I_6 L_6 i1 (0 : Int32) (x_6 - (1 : Int32))).bind (fun ⟨x_11, I_11, L_11⟩ => (if x_11 = 0 then (some (((-1 : Int32), z, kd, I_11, L_11, R), 0, 0)) else (if 1 ≤ dp then (g_91 n (dp - 1) 0 z kd I_11 L_11 R).bind (fun ⟨⟨x_18, z_18, kd_18, I_18, L_18, R_18⟩, ck_18, cm_18⟩ => (adk ck_18 cm_18 (if x_18 = 0 then (some (((-1 : Int32), z_18, kd_18, I_18, L_18, R_18), 0, 0)) else (if 1 ≤ dp then (g_120 n (dp - 1) 0 z_18 kd_18 I_18 L_18 R_18 0 0 0 0).bind (fun ⟨⟨z_30, kd_30, I_30, L_30, R_30⟩, ck_30, cm_30⟩ => (adk ck_30 cm_30 (if 0 ≤ i1 ∧ (Int32.toNatClampNeg i1) < 8 then (some (((I_30 55 (Int32.toNatClampNeg i1)), z_30, kd_30, I_30, L_30, R_30), 0, 0)) else none))) else none)))) else none))) else none)) else none)
    else none
set_option maxRecDepth 100000 in
theorem e_119_0 (n dp : Nat) (z : Nat) (kd : (Nat → Nat × Nat)) (I : (Nat → Nat → Int32)) (L : (Nat → Nat → Int64)) (R : (Nat → Nat → Option Nat)) (i1 : Int32) : g_119 (n + 1) dp 0 z kd I L R i1 = (if 1 ≤ dp then (g_16 n (dp - 1) (z, kd, R) 0 I L).bind (fun ⟨x_6, I_6, L_6⟩ => (if 1 ≤ dp then (g_14 n (dp - 1) (z, kd, R) 0 I_6 L_6 i1 (0 : Int32) (x_6 - (1 : Int32))).bind (fun ⟨x_11, I_11, L_11⟩ => (if x_11 = 0 then (some (((-1 : Int32), z, kd, I_11, L_11, R), 0, 0)) else (if 1 ≤ dp then (g_91 n (dp - 1) 0 z kd I_11 L_11 R).bind (fun ⟨⟨x_18, z_18, kd_18, I_18, L_18, R_18⟩, ck_18, cm_18⟩ => (adk ck_18 cm_18 (if x_18 = 0 then (some (((-1 : Int32), z_18, kd_18, I_18, L_18, R_18), 0, 0)) else (if 1 ≤ dp then (g_120 n (dp - 1) 0 z_18 kd_18 I_18 L_18 R_18 0 0 0 0).bind (fun ⟨⟨z_30, kd_30, I_30, L_30, R_30⟩, ck_30, cm_30⟩ => (adk ck_30 cm_30 (if 0 ≤ i1 ∧ (Int32.toNatClampNeg i1) < 8 then (some (((I_30 55 (Int32.toNatClampNeg i1)), z_30, kd_30, I_30, L_30, R_30), 0, 0)) else none))) else none)))) else none))) else none)) else none) := by rw [g_119.eq_2, if_pos (show (0 : Nat) = 0 from rfl)]
set_option maxHeartbeats 8000000 in
set_option maxRecDepth 100000 in
theorem w_119 (X : GX) : ∀ (n dp d : Nat), dp ≤ d → ∀ (z : Nat) (kd : (Nat → Nat × Nat)) (I : (Nat → Nat → Int32)) (L : (Nat → Nat → Int64)) (R : (Nat → Nat → Option Nat)), Sh z kd R → ∀ (i1 : Int32) (r : Int32) (z1 : Nat) (kd1 : (Nat → Nat × Nat)) (I1 : (Nat → Nat → Int32)) (L1 : (Nat → Nat → Int64)) (R1 : (Nat → Nat → Option Nat)) (k1 m1 : Nat), (g_119 n dp 0 z kd I L R i1 = some ((r, z1, kd1, I1, L1, R1), k1, m1) → ∀ MC MS k m : Nat, k + k1 ≤ MC → m + m1 ≤ MS → K X d 119 MC MS (AI (fun x τ => x = r ∧ τ = (z1, kd1, I1, L1, R1))) 0 [some (.ref 0), some (.int i1)] [] (z, kd, I, L, R) k m) := by
  intro n
  induction n with
  | zero => intro dp d hdp z kd I L R hS  i1 r z1 kd1 I1 L1 R1 k1 m1; exact fun h => by cases h
  | succ n ih =>
    intro dp d hdp z kd I L R hS  i1 r z1 kd1 I1 L1 R1 k1 m1
    · intro h MC MS k m hMC hMS
      rw [e_119_0] at h
      refine K_of b_119_0 h_119_0 ?_
      refine q_iload rfl ?_
      refine q_iconst (0) (by decide) ?_
      refine q_aload rfl ?_
      refine q_getRs (c0 := 11) (j := 0) rfl rfl (zl hS 0 (by decide)) (sk hS 0 (by decide) rfl) rfl (by decide) (r_0_0 hS) ?_
      obtain ⟨d_6, h⟩ := ite_some h
      obtain ⟨⟨x_6, I_6, L_6⟩, e_6, h⟩ := Option.bind_eq_some_iff.mp h
      dsimp only at h
      refine q_fv1I (a_16 X hS (d := d - 1) (by omega) e_6) (by omega) (by omega) (by omega) rfl (Nat.le_of_ble_eq_true rfl) ⟨(zl hS 1 (by decide)), congrArg Prod.fst (sk hS 1 (by decide) rfl), by decide⟩ ?_
      refine q_iconst (1) (by decide) ?_
      refine q_isub ?_
      obtain ⟨d_11, h⟩ := ite_some h
      obtain ⟨⟨x_11, I_11, L_11⟩, e_11, h⟩ := Option.bind_eq_some_iff.mp h
      dsimp only at h
      refine q_fs3I (a_14 X hS (d := d - 1) (by omega) e_11) (by omega) (by omega) (by omega) rfl (Nat.le_of_ble_eq_true rfl) ?_
      refine q_if_eq (fun c_14 => ?_) (fun c_14 => ?_)
      · rw [if_pos c_14] at h
        refine K_of b_119_24 h_119_24 ?_
        refine q_iconst (-1) (by decide) ?_
        cases h
        exact q_iret rfl (by omega) (by omega) ⟨rfl, rfl⟩
      · rw [if_neg c_14] at h
        refine q_aload rfl ?_
        obtain ⟨d_18, h⟩ := ite_some h
        obtain ⟨⟨⟨x_18, z_18, kd_18, I_18, L_18, R_18⟩, ck_18, cm_18⟩, e_18, h⟩ := Option.bind_eq_some_iff.mp h
        dsimp only at h
        obtain ⟨mk_18, ms_18, h, ek_18, em_18⟩ := adk_some h
        refine q_gv1I (a_91 X hS (d := d - 1) (by omega) e_18) (by omega) (by omega) (by omega) rfl (Nat.le_of_ble_eq_true rfl) ⟨(zl hS 0 (by decide)), congrArg Prod.fst (sk hS 0 (by decide) rfl), by decide⟩ ?_
        have hS_18 := s_91 hS e_18
        refine q_if_ne (fun c_21 => ?_) (fun c_21 => ?_)
        · rw [if_neg c_21] at h
          refine K_of b_119_26 h_119_26 ?_
          refine q_aload rfl ?_
          refine q_getRs (c0 := 11) (j := 3) rfl rfl (zl hS_18 0 (by decide)) (sk hS_18 0 (by decide) rfl) rfl (by decide) (r_0_3 hS_18) ?_
          obtain ⟨d_30, h⟩ := ite_some h
          obtain ⟨⟨⟨z_30, kd_30, I_30, L_30, R_30⟩, ck_30, cm_30⟩, e_30, h⟩ := Option.bind_eq_some_iff.mp h
          dsimp only at h
          obtain ⟨mk_30, ms_30, h, ek_30, em_30⟩ := adk_some h
          refine q_gv1V (a_120 X hS_18 (d := d - 1) (by omega) e_30) (by omega) (by omega) (by omega) rfl (Nat.le_of_ble_eq_true rfl) ⟨(zl hS_18 24 (by decide)), congrArg Prod.fst (sk hS_18 24 (by decide) rfl), by decide⟩ ?_
          have hS_30 := s_120 hS_18 e_30
          refine q_aload rfl ?_
          refine q_getRs (c0 := 11) (j := 3) rfl rfl (zl hS_30 0 (by decide)) (sk hS_30 0 (by decide) rfl) rfl (by decide) (r_0_3 hS_30) ?_
          refine q_getRs (c0 := 7) (j := 9) rfl rfl (zl hS_30 24 (by decide)) (sk hS_30 24 (by decide) rfl) rfl (by decide) (r_24_9 hS_30) ?_
          refine q_iload rfl ?_
          obtain ⟨⟨u_41, v_41⟩, h⟩ := ite_some h
          refine q_ialN (Int32.toNatClampNeg i1) (nx u_41) (zl hS_30 55 (by decide)) (sk hS_30 55 (by decide) rfl) v_41 (by decide) ?_
          cases h
          exact q_iret rfl (by omega) (by omega) ⟨rfl, rfl⟩
        · rw [if_pos c_21] at h
          refine q_end ?_
          refine K_of b_119_24 h_119_24 ?_
          refine q_iconst (-1) (by decide) ?_
          cases h
          exact q_iret rfl (by omega) (by omega) ⟨rfl, rfl⟩
set_option maxHeartbeats 8000000 in
set_option maxRecDepth 100000 in
theorem t_119 : ∀ (n dp : Nat) (z : Nat) (kd : (Nat → Nat × Nat)) (I : (Nat → Nat → Int32)) (L : (Nat → Nat → Int64)) (R : (Nat → Nat → Option Nat)), Sh z kd R → ∀ (i1 : Int32) (r : Int32) (z1 : Nat) (kd1 : (Nat → Nat × Nat)) (I1 : (Nat → Nat → Int32)) (L1 : (Nat → Nat → Int64)) (R1 : (Nat → Nat → Option Nat)) (k1 m1 : Nat), (g_119 n dp 0 z kd I L R i1 = some ((r, z1, kd1, I1, L1, R1), k1, m1) → Sh z1 kd1 R1) := by
  intro n
  induction n with
  | zero => intro dp z kd I L R hS i1 r z1 kd1 I1 L1 R1 k1 m1; exact fun h => by cases h
  | succ n ih =>
    intro dp z kd I L R hS i1 r z1 kd1 I1 L1 R1 k1 m1
    · intro h
      rw [e_119_0] at h
      obtain ⟨d_6, h⟩ := ite_some h
      obtain ⟨⟨x_6, I_6, L_6⟩, e_6, h⟩ := Option.bind_eq_some_iff.mp h
      dsimp only at h
      obtain ⟨d_11, h⟩ := ite_some h
      obtain ⟨⟨x_11, I_11, L_11⟩, e_11, h⟩ := Option.bind_eq_some_iff.mp h
      dsimp only at h
      by_cases c_14 : x_11 = 0
      · rw [if_pos c_14] at h
        cases h
        exact hS
      · rw [if_neg c_14] at h
        obtain ⟨d_18, h⟩ := ite_some h
        obtain ⟨⟨⟨x_18, z_18, kd_18, I_18, L_18, R_18⟩, ck_18, cm_18⟩, e_18, h⟩ := Option.bind_eq_some_iff.mp h
        dsimp only at h
        obtain ⟨mk_18, ms_18, h, ek_18, em_18⟩ := adk_some h
        have hS_18 := s_91 hS e_18
        by_cases c_21 : x_18 = 0
        · rw [if_pos c_21] at h
          cases h
          exact hS_18
        · rw [if_neg c_21] at h
          obtain ⟨d_30, h⟩ := ite_some h
          obtain ⟨⟨⟨z_30, kd_30, I_30, L_30, R_30⟩, ck_30, cm_30⟩, e_30, h⟩ := Option.bind_eq_some_iff.mp h
          dsimp only at h
          obtain ⟨mk_30, ms_30, h, ek_30, em_30⟩ := adk_some h
          have hS_30 := s_120 hS_18 e_30
          obtain ⟨⟨u_41, v_41⟩, h⟩ := ite_some h
          cases h
          exact hS_30
theorem a_119 (X : GX) {z : Nat} {kd : (Nat → Nat × Nat)} {I : (Nat → Nat → Int32)} {L : (Nat → Nat → Int64)} {R : (Nat → Nat → Option Nat)} (hS : Sh z kd R) {n dp d : Nat} (hd : dp ≤ d) {i1 : Int32} {r : Int32} {z1 : Nat} {kd1 : (Nat → Nat × Nat)} {I1 : (Nat → Nat → Int32)} {L1 : (Nat → Nat → Int64)} {R1 : (Nat → Nat → Option Nat)} {k1 m1 : Nat} (h : g_119 n dp 0 z kd I L R i1 = some ((r, z1, kd1, I1, L1, R1), k1, m1)) : Ct X d 119 k1 m1 [.ref 0, .int i1] (z, kd, I, L, R) (AI (fun x τ => x = r ∧ τ = (z1, kd1, I1, L1, R1))) :=
  Ct_of mu_119 (Nat.le_of_ble_eq_true rfl) ((w_119 X n dp d hd z kd I L R hS i1 _ _ _ _ _ _ _ _) h k1 m1 0 0 (by omega) (by omega))
theorem s_119 {z : Nat} {kd : (Nat → Nat × Nat)} {I : (Nat → Nat → Int32)} {L : (Nat → Nat → Int64)} {R : (Nat → Nat → Option Nat)} (hS : Sh z kd R) {n dp : Nat} {i1 : Int32} {r : Int32} {z1 : Nat} {kd1 : (Nat → Nat × Nat)} {I1 : (Nat → Nat → Int32)} {L1 : (Nat → Nat → Int64)} {R1 : (Nat → Nat → Option Nat)} {k1 m1 : Nat} (h : g_119 n dp 0 z kd I L R i1 = some ((r, z1, kd1, I1, L1, R1), k1, m1)) : Sh z1 kd1 R1 := (t_119 n dp z kd I L R hS i1 _ _ _ _ _ _ _ _) h

/-! 124 CutFloor.made(II)I -/
set_option maxHeartbeats 4000000 in
set_option maxRecDepth 100000 in
def g_124 : Nat → Nat → Nat → Nat → (Nat → Nat × Nat) → (Nat → Nat → Int32) → (Nat → Nat → Int64) → (Nat → Nat → Option Nat) → Int32 → Int32 →  Option ((Int32 × PS) × Nat × Nat)
  | 0, _, _, _, _, _, _, _, _, _ => none
  | n + 1, dp, lab, z, kd, I, L, R, i1, i2 =>
    if lab = 0 then (if 1 ≤ dp then (g_14 n (dp - 1) (z, kd, R) 0 I L i1 (0 : Int32) (9 : Int32)).bind (fun ⟨x_4, I_4, L_4⟩ => (if x_4 = 0 then (some (((-1 : Int32), z, kd, I_4, L_4, R), 0, 0)) else (if 1 ≤ dp then (g_14 n (dp - 1) (z, kd, R) 0 I_4 L_4 i2 (0 : Int32) (1 : Int32)).bind (fun ⟨x_13, I_13, L_13⟩ => (if x_13 = 0 then (some (((-1 : Int32), z, kd, I_13, L_13, R), 0, 0)) else (if 1 ≤ dp then (g_91 n (dp - 1) 0 z kd I_13 L_13 R).bind (fun ⟨⟨x_20, z_20, kd_20, I_20, L_20, R_20⟩, ck_20, cm_20⟩ => (adk ck_20 cm_20 (if x_20 = 0 then (some (((-1 : Int32), z_20, kd_20, I_20, L_20, R_20), 0, 0)) else (if 1 ≤ dp then (g_120 n (dp - 1) 0 z_20 kd_20 I_20 L_20 R_20 0 0 0 0).bind (fun ⟨⟨z_32, kd_32, I_32, L_32, R_32⟩, ck_32, cm_32⟩ => (adk ck_32 cm_32 (if 1 ≤ dp then (g_125 n (dp - 1) (z_32, kd_32, R_32) 0 I_32 L_32 i1 0 0 0).bind (fun ⟨x_40, I_40, L_40⟩ => (if i2 = 0 then (some ((x_40, z_32, kd_32, I_40, L_40, R_32), 0, 0)) else (if 1 ≤ dp then (g_126 n (dp - 1) (z_32, kd_32, R_32) 0 I_40 L_40 i1 x_40).bind (fun ⟨x_58, I_58, L_58⟩ => (some ((x_58, z_32, kd_32, I_58, L_58, R_32), 0, 0))) else none))) else none))) else none)))) else none))) else none))) else none)
    else none
set_option maxRecDepth 100000 in
theorem e_124_0 (n dp : Nat) (z : Nat) (kd : (Nat → Nat × Nat)) (I : (Nat → Nat → Int32)) (L : (Nat → Nat → Int64)) (R : (Nat → Nat → Option Nat)) (i1 : Int32) (i2 : Int32) : g_124 (n + 1) dp 0 z kd I L R i1 i2 = (if 1 ≤ dp then (g_14 n (dp - 1) (z, kd, R) 0 I L i1 (0 : Int32) (9 : Int32)).bind (fun ⟨x_4, I_4, L_4⟩ => (if x_4 = 0 then (some (((-1 : Int32), z, kd, I_4, L_4, R), 0, 0)) else (if 1 ≤ dp then (g_14 n (dp - 1) (z, kd, R) 0 I_4 L_4 i2 (0 : Int32) (1 : Int32)).bind (fun ⟨x_13, I_13, L_13⟩ => (if x_13 = 0 then (some (((-1 : Int32), z, kd, I_13, L_13, R), 0, 0)) else (if 1 ≤ dp then (g_91 n (dp - 1) 0 z kd I_13 L_13 R).bind (fun ⟨⟨x_20, z_20, kd_20, I_20, L_20, R_20⟩, ck_20, cm_20⟩ => (adk ck_20 cm_20 (if x_20 = 0 then (some (((-1 : Int32), z_20, kd_20, I_20, L_20, R_20), 0, 0)) else (if 1 ≤ dp then (g_120 n (dp - 1) 0 z_20 kd_20 I_20 L_20 R_20 0 0 0 0).bind (fun ⟨⟨z_32, kd_32, I_32, L_32, R_32⟩, ck_32, cm_32⟩ => (adk ck_32 cm_32 (if 1 ≤ dp then (g_125 n (dp - 1) (z_32, kd_32, R_32) 0 I_32 L_32 i1 0 0 0).bind (fun ⟨x_40, I_40, L_40⟩ => (if i2 = 0 then (some ((x_40, z_32, kd_32, I_40, L_40, R_32), 0, 0)) else (if 1 ≤ dp then (g_126 n (dp - 1) (z_32, kd_32, R_32) 0 I_40 L_40 i1 x_40).bind (fun ⟨x_58, I_58, L_58⟩ => (some ((x_58, z_32, kd_32, I_58, L_58, R_32), 0, 0))) else none))) else none))) else none)))) else none))) else none))) else none) := by rw [g_124.eq_2, if_pos (show (0 : Nat) = 0 from rfl)]
set_option maxHeartbeats 8000000 in
set_option maxRecDepth 100000 in
theorem w_124 (X : GX) : ∀ (n dp d : Nat), dp ≤ d → ∀ (z : Nat) (kd : (Nat → Nat × Nat)) (I : (Nat → Nat → Int32)) (L : (Nat → Nat → Int64)) (R : (Nat → Nat → Option Nat)), Sh z kd R → ∀ (i1 : Int32) (i2 : Int32) (r : Int32) (z1 : Nat) (kd1 : (Nat → Nat × Nat)) (I1 : (Nat → Nat → Int32)) (L1 : (Nat → Nat → Int64)) (R1 : (Nat → Nat → Option Nat)) (k1 m1 : Nat), (g_124 n dp 0 z kd I L R i1 i2 = some ((r, z1, kd1, I1, L1, R1), k1, m1) → ∀ MC MS k m : Nat, k + k1 ≤ MC → m + m1 ≤ MS → K X d 124 MC MS (AI (fun x τ => x = r ∧ τ = (z1, kd1, I1, L1, R1))) 0 [some (.ref 0), some (.int i1), some (.int i2), none] [] (z, kd, I, L, R) k m) := by
  intro n
  induction n with
  | zero => intro dp d hdp z kd I L R hS  i1 i2 r z1 kd1 I1 L1 R1 k1 m1; exact fun h => by cases h
  | succ n ih =>
    intro dp d hdp z kd I L R hS  i1 i2 r z1 kd1 I1 L1 R1 k1 m1
    · intro h MC MS k m hMC hMS
      rw [e_124_0] at h
      refine K_of b_124_0 h_124_0 ?_
      refine q_iload rfl ?_
      refine q_iconst (0) (by decide) ?_
      refine q_iconst (9) (by decide) ?_
      obtain ⟨d_4, h⟩ := ite_some h
      obtain ⟨⟨x_4, I_4, L_4⟩, e_4, h⟩ := Option.bind_eq_some_iff.mp h
      dsimp only at h
      refine q_fs3I (a_14 X hS (d := d - 1) (by omega) e_4) (by omega) (by omega) (by omega) rfl (Nat.le_of_ble_eq_true rfl) ?_
      refine q_if_eq (fun c_7 => ?_) (fun c_7 => ?_)
      · rw [if_pos c_7] at h
        refine K_of b_124_26 h_124_26 ?_
        refine q_iconst (-1) (by decide) ?_
        cases h
        exact q_iret rfl (by omega) (by omega) ⟨rfl, rfl⟩
      · rw [if_neg c_7] at h
        refine q_iload rfl ?_
        refine q_iconst (0) (by decide) ?_
        refine q_iconst (1) (by decide) ?_
        obtain ⟨d_13, h⟩ := ite_some h
        obtain ⟨⟨x_13, I_13, L_13⟩, e_13, h⟩ := Option.bind_eq_some_iff.mp h
        dsimp only at h
        refine q_fs3I (a_14 X hS (d := d - 1) (by omega) e_13) (by omega) (by omega) (by omega) rfl (Nat.le_of_ble_eq_true rfl) ?_
        refine q_if_eq (fun c_16 => ?_) (fun c_16 => ?_)
        · rw [if_pos c_16] at h
          refine K_of b_124_26 h_124_26 ?_
          refine q_iconst (-1) (by decide) ?_
          cases h
          exact q_iret rfl (by omega) (by omega) ⟨rfl, rfl⟩
        · rw [if_neg c_16] at h
          refine q_aload rfl ?_
          obtain ⟨d_20, h⟩ := ite_some h
          obtain ⟨⟨⟨x_20, z_20, kd_20, I_20, L_20, R_20⟩, ck_20, cm_20⟩, e_20, h⟩ := Option.bind_eq_some_iff.mp h
          dsimp only at h
          obtain ⟨mk_20, ms_20, h, ek_20, em_20⟩ := adk_some h
          refine q_gv1I (a_91 X hS (d := d - 1) (by omega) e_20) (by omega) (by omega) (by omega) rfl (Nat.le_of_ble_eq_true rfl) ⟨(zl hS 0 (by decide)), congrArg Prod.fst (sk hS 0 (by decide) rfl), by decide⟩ ?_
          have hS_20 := s_91 hS e_20
          refine q_if_ne (fun c_23 => ?_) (fun c_23 => ?_)
          · rw [if_neg c_23] at h
            refine K_of b_124_28 h_124_28 ?_
            refine q_aload rfl ?_
            refine q_getRs (c0 := 11) (j := 3) rfl rfl (zl hS_20 0 (by decide)) (sk hS_20 0 (by decide) rfl) rfl (by decide) (r_0_3 hS_20) ?_
            obtain ⟨d_32, h⟩ := ite_some h
            obtain ⟨⟨⟨z_32, kd_32, I_32, L_32, R_32⟩, ck_32, cm_32⟩, e_32, h⟩ := Option.bind_eq_some_iff.mp h
            dsimp only at h
            obtain ⟨mk_32, ms_32, h, ek_32, em_32⟩ := adk_some h
            refine q_gv1V (a_120 X hS_20 (d := d - 1) (by omega) e_32) (by omega) (by omega) (by omega) rfl (Nat.le_of_ble_eq_true rfl) ⟨(zl hS_20 24 (by decide)), congrArg Prod.fst (sk hS_20 24 (by decide) rfl), by decide⟩ ?_
            have hS_32 := s_120 hS_20 e_32
            refine q_aload rfl ?_
            refine q_getRs (c0 := 11) (j := 3) rfl rfl (zl hS_32 0 (by decide)) (sk hS_32 0 (by decide) rfl) rfl (by decide) (r_0_3 hS_32) ?_
            refine q_iload rfl ?_
            obtain ⟨d_40, h⟩ := ite_some h
            obtain ⟨⟨x_40, I_40, L_40⟩, e_40, h⟩ := Option.bind_eq_some_iff.mp h
            dsimp only at h
            refine q_fv2I (a_125 X hS_32 (d := d - 1) (by omega) e_40) (by omega) (by omega) (by omega) rfl (Nat.le_of_ble_eq_true rfl) ⟨(zl hS_32 24 (by decide)), congrArg Prod.fst (sk hS_32 24 (by decide) rfl), by decide⟩ ?_
            refine q_istore (ls1 := [some (.ref 0), some (.int i1), some (.int i2), some (.int x_40)]) (Nat.le_of_ble_eq_true rfl) rfl ?_
            refine q_iload rfl ?_
            refine q_if_ne (fun c_45 => ?_) (fun c_45 => ?_)
            · rw [if_neg c_45] at h
              refine K_of b_124_52 h_124_52 ?_
              refine q_aload rfl ?_
              refine q_getRs (c0 := 11) (j := 0) rfl rfl (zl hS_32 0 (by decide)) (sk hS_32 0 (by decide) rfl) rfl (by decide) (r_0_0 hS_32) ?_
              refine q_iload rfl ?_
              refine q_iload rfl ?_
              obtain ⟨d_58, h⟩ := ite_some h
              obtain ⟨⟨x_58, I_58, L_58⟩, e_58, h⟩ := Option.bind_eq_some_iff.mp h
              dsimp only at h
              refine q_fv3I (a_126 X hS_32 (d := d - 1) (by omega) e_58) (by omega) (by omega) (by omega) rfl (Nat.le_of_ble_eq_true rfl) ⟨(zl hS_32 1 (by decide)), congrArg Prod.fst (sk hS_32 1 (by decide) rfl), by decide⟩ ?_
              refine q_end ?_
              refine K_of b_124_61 h_124_61 ?_
              cases h
              exact q_iret rfl (by omega) (by omega) ⟨rfl, rfl⟩
            · rw [if_pos c_45] at h
              refine q_iload rfl ?_
              refine q_goto ?_
              refine K_of b_124_61 h_124_61 ?_
              cases h
              exact q_iret rfl (by omega) (by omega) ⟨rfl, rfl⟩
          · rw [if_pos c_23] at h
            refine q_end ?_
            refine K_of b_124_26 h_124_26 ?_
            refine q_iconst (-1) (by decide) ?_
            cases h
            exact q_iret rfl (by omega) (by omega) ⟨rfl, rfl⟩
set_option maxHeartbeats 8000000 in
set_option maxRecDepth 100000 in
theorem t_124 : ∀ (n dp : Nat) (z : Nat) (kd : (Nat → Nat × Nat)) (I : (Nat → Nat → Int32)) (L : (Nat → Nat → Int64)) (R : (Nat → Nat → Option Nat)), Sh z kd R → ∀ (i1 : Int32) (i2 : Int32) (r : Int32) (z1 : Nat) (kd1 : (Nat → Nat × Nat)) (I1 : (Nat → Nat → Int32)) (L1 : (Nat → Nat → Int64)) (R1 : (Nat → Nat → Option Nat)) (k1 m1 : Nat), (g_124 n dp 0 z kd I L R i1 i2 = some ((r, z1, kd1, I1, L1, R1), k1, m1) → Sh z1 kd1 R1) := by
  intro n
  induction n with
  | zero => intro dp z kd I L R hS i1 i2 r z1 kd1 I1 L1 R1 k1 m1; exact fun h => by cases h
  | succ n ih =>
    intro dp z kd I L R hS i1 i2 r z1 kd1 I1 L1 R1 k1 m1
    · intro h
      rw [e_124_0] at h
      obtain ⟨d_4, h⟩ := ite_some h
      obtain ⟨⟨x_4, I_4, L_4⟩, e_4, h⟩ := Option.bind_eq_some_iff.mp h
      dsimp only at h
      by_cases c_7 : x_4 = 0
      · rw [if_pos c_7] at h
        cases h
        exact hS
      · rw [if_neg c_7] at h
        obtain ⟨d_13, h⟩ := ite_some h
        obtain ⟨⟨x_13, I_13, L_13⟩, e_13, h⟩ := Option.bind_eq_some_iff.mp h
        dsimp only at h
        by_cases c_16 : x_13 = 0
        · rw [if_pos c_16] at h
          cases h
          exact hS
        · rw [if_neg c_16] at h
          obtain ⟨d_20, h⟩ := ite_some h
          obtain ⟨⟨⟨x_20, z_20, kd_20, I_20, L_20, R_20⟩, ck_20, cm_20⟩, e_20, h⟩ := Option.bind_eq_some_iff.mp h
          dsimp only at h
          obtain ⟨mk_20, ms_20, h, ek_20, em_20⟩ := adk_some h
          have hS_20 := s_91 hS e_20
          by_cases c_23 : x_20 = 0
          · rw [if_pos c_23] at h
            cases h
            exact hS_20
          · rw [if_neg c_23] at h
            obtain ⟨d_32, h⟩ := ite_some h
            obtain ⟨⟨⟨z_32, kd_32, I_32, L_32, R_32⟩, ck_32, cm_32⟩, e_32, h⟩ := Option.bind_eq_some_iff.mp h
            dsimp only at h
            obtain ⟨mk_32, ms_32, h, ek_32, em_32⟩ := adk_some h
            have hS_32 := s_120 hS_20 e_32
            obtain ⟨d_40, h⟩ := ite_some h
            obtain ⟨⟨x_40, I_40, L_40⟩, e_40, h⟩ := Option.bind_eq_some_iff.mp h
            dsimp only at h
            by_cases c_45 : i2 = 0
            · rw [if_pos c_45] at h
              cases h
              exact hS_32
            · rw [if_neg c_45] at h
              obtain ⟨d_58, h⟩ := ite_some h
              obtain ⟨⟨x_58, I_58, L_58⟩, e_58, h⟩ := Option.bind_eq_some_iff.mp h
              dsimp only at h
              cases h
              exact hS_32
theorem a_124 (X : GX) {z : Nat} {kd : (Nat → Nat × Nat)} {I : (Nat → Nat → Int32)} {L : (Nat → Nat → Int64)} {R : (Nat → Nat → Option Nat)} (hS : Sh z kd R) {n dp d : Nat} (hd : dp ≤ d) {i1 : Int32} {i2 : Int32} {r : Int32} {z1 : Nat} {kd1 : (Nat → Nat × Nat)} {I1 : (Nat → Nat → Int32)} {L1 : (Nat → Nat → Int64)} {R1 : (Nat → Nat → Option Nat)} {k1 m1 : Nat} (h : g_124 n dp 0 z kd I L R i1 i2 = some ((r, z1, kd1, I1, L1, R1), k1, m1)) : Ct X d 124 k1 m1 [.ref 0, .int i1, .int i2] (z, kd, I, L, R) (AI (fun x τ => x = r ∧ τ = (z1, kd1, I1, L1, R1))) :=
  Ct_of mu_124 (Nat.le_of_ble_eq_true rfl) ((w_124 X n dp d hd z kd I L R hS i1 i2 _ _ _ _ _ _ _ _) h k1 m1 0 0 (by omega) (by omega))
theorem s_124 {z : Nat} {kd : (Nat → Nat × Nat)} {I : (Nat → Nat → Int32)} {L : (Nat → Nat → Int64)} {R : (Nat → Nat → Option Nat)} (hS : Sh z kd R) {n dp : Nat} {i1 : Int32} {i2 : Int32} {r : Int32} {z1 : Nat} {kd1 : (Nat → Nat × Nat)} {I1 : (Nat → Nat → Int32)} {L1 : (Nat → Nat → Int64)} {R1 : (Nat → Nat → Option Nat)} {k1 m1 : Nat} (h : g_124 n dp 0 z kd I L R i1 i2 = some ((r, z1, kd1, I1, L1, R1), k1, m1)) : Sh z1 kd1 R1 := (t_124 n dp z kd I L R hS i1 i2 _ _ _ _ _ _ _ _) h

/-! 127 CutFloor.value(I)I -/
set_option maxHeartbeats 4000000 in
set_option maxRecDepth 100000 in
def g_127 : Nat → Nat → Nat → Nat → (Nat → Nat × Nat) → (Nat → Nat → Int32) → (Nat → Nat → Int64) → (Nat → Nat → Option Nat) → Int32 →  Option ((Int32 × PS) × Nat × Nat)
  | 0, _, _, _, _, _, _, _, _ => none
  | n + 1, dp, lab, z, kd, I, L, R, i1 =>
    if lab = 0 then (if 1 ≤ dp then (g_14 n (dp - 1) (z, kd, R) 0 I L i1 (0 : Int32) (2 : Int32)).bind (fun ⟨x_3, I_3, L_3⟩ => (if x_3 = 0 then (some (((-1 : Int32), z, kd, I_3, L_3, R), 0, 0)) else (if 1 ≤ dp then (g_91 n (dp - 1) 0 z kd I_3 L_3 R).bind (fun ⟨⟨x_10, z_10, kd_10, I_10, L_10, R_10⟩, ck_10, cm_10⟩ => (adk ck_10 cm_10 (if x_10 = 0 then (some (((-1 : Int32), z_10, kd_10, I_10, L_10, R_10), 0, 0)) else (if 1 ≤ dp then (g_128 n (dp - 1) 0 z_10 kd_10 I_10 L_10 R_10 i1 (1 : Int32)).bind (fun ⟨⟨x_24, z_24, kd_24, I_24, L_24, R_24⟩, ck_24, cm_24⟩ => (adk ck_24 cm_24 (if x_24 = (-1 : Int32) then (some (((-1 : Int32), z_24, kd_24, I_24, L_24, R_24), 0, 0)) else (if 1 ≤ dp then (g_117 n (dp - 1) (z_24, kd_24, R_24) 0 I_24 L_24).bind (fun ⟨x_42, I_42, L_42⟩ => (some (((x_24 - x_42), z_24, kd_24, I_42, L_42, R_24), 0, 0))) else none)))) else none)))) else none))) else none)
    else none
set_option maxRecDepth 100000 in
theorem e_127_0 (n dp : Nat) (z : Nat) (kd : (Nat → Nat × Nat)) (I : (Nat → Nat → Int32)) (L : (Nat → Nat → Int64)) (R : (Nat → Nat → Option Nat)) (i1 : Int32) : g_127 (n + 1) dp 0 z kd I L R i1 = (if 1 ≤ dp then (g_14 n (dp - 1) (z, kd, R) 0 I L i1 (0 : Int32) (2 : Int32)).bind (fun ⟨x_3, I_3, L_3⟩ => (if x_3 = 0 then (some (((-1 : Int32), z, kd, I_3, L_3, R), 0, 0)) else (if 1 ≤ dp then (g_91 n (dp - 1) 0 z kd I_3 L_3 R).bind (fun ⟨⟨x_10, z_10, kd_10, I_10, L_10, R_10⟩, ck_10, cm_10⟩ => (adk ck_10 cm_10 (if x_10 = 0 then (some (((-1 : Int32), z_10, kd_10, I_10, L_10, R_10), 0, 0)) else (if 1 ≤ dp then (g_128 n (dp - 1) 0 z_10 kd_10 I_10 L_10 R_10 i1 (1 : Int32)).bind (fun ⟨⟨x_24, z_24, kd_24, I_24, L_24, R_24⟩, ck_24, cm_24⟩ => (adk ck_24 cm_24 (if x_24 = (-1 : Int32) then (some (((-1 : Int32), z_24, kd_24, I_24, L_24, R_24), 0, 0)) else (if 1 ≤ dp then (g_117 n (dp - 1) (z_24, kd_24, R_24) 0 I_24 L_24).bind (fun ⟨x_42, I_42, L_42⟩ => (some (((x_24 - x_42), z_24, kd_24, I_42, L_42, R_24), 0, 0))) else none)))) else none)))) else none))) else none) := by rw [g_127.eq_2, if_pos (show (0 : Nat) = 0 from rfl)]
set_option maxHeartbeats 8000000 in
set_option maxRecDepth 100000 in
theorem w_127 (X : GX) : ∀ (n dp d : Nat), dp ≤ d → ∀ (z : Nat) (kd : (Nat → Nat × Nat)) (I : (Nat → Nat → Int32)) (L : (Nat → Nat → Int64)) (R : (Nat → Nat → Option Nat)), Sh z kd R → ∀ (i1 : Int32) (r : Int32) (z1 : Nat) (kd1 : (Nat → Nat × Nat)) (I1 : (Nat → Nat → Int32)) (L1 : (Nat → Nat → Int64)) (R1 : (Nat → Nat → Option Nat)) (k1 m1 : Nat), (g_127 n dp 0 z kd I L R i1 = some ((r, z1, kd1, I1, L1, R1), k1, m1) → ∀ MC MS k m : Nat, k + k1 ≤ MC → m + m1 ≤ MS → K X d 127 MC MS (AI (fun x τ => x = r ∧ τ = (z1, kd1, I1, L1, R1))) 0 [some (.ref 0), some (.int i1), none] [] (z, kd, I, L, R) k m) := by
  intro n
  induction n with
  | zero => intro dp d hdp z kd I L R hS  i1 r z1 kd1 I1 L1 R1 k1 m1; exact fun h => by cases h
  | succ n ih =>
    intro dp d hdp z kd I L R hS  i1 r z1 kd1 I1 L1 R1 k1 m1
    · intro h MC MS k m hMC hMS
      rw [e_127_0] at h
      refine K_of b_127_0 h_127_0 ?_
      refine q_iload rfl ?_
      refine q_iconst (0) (by decide) ?_
      refine q_iconst (2) (by decide) ?_
      obtain ⟨d_3, h⟩ := ite_some h
      obtain ⟨⟨x_3, I_3, L_3⟩, e_3, h⟩ := Option.bind_eq_some_iff.mp h
      dsimp only at h
      refine q_fs3I (a_14 X hS (d := d - 1) (by omega) e_3) (by omega) (by omega) (by omega) rfl (Nat.le_of_ble_eq_true rfl) ?_
      refine q_if_eq (fun c_6 => ?_) (fun c_6 => ?_)
      · rw [if_pos c_6] at h
        refine K_of b_127_16 h_127_16 ?_
        refine q_iconst (-1) (by decide) ?_
        cases h
        exact q_iret rfl (by omega) (by omega) ⟨rfl, rfl⟩
      · rw [if_neg c_6] at h
        refine q_aload rfl ?_
        obtain ⟨d_10, h⟩ := ite_some h
        obtain ⟨⟨⟨x_10, z_10, kd_10, I_10, L_10, R_10⟩, ck_10, cm_10⟩, e_10, h⟩ := Option.bind_eq_some_iff.mp h
        dsimp only at h
        obtain ⟨mk_10, ms_10, h, ek_10, em_10⟩ := adk_some h
        refine q_gv1I (a_91 X hS (d := d - 1) (by omega) e_10) (by omega) (by omega) (by omega) rfl (Nat.le_of_ble_eq_true rfl) ⟨(zl hS 0 (by decide)), congrArg Prod.fst (sk hS 0 (by decide) rfl), by decide⟩ ?_
        have hS_10 := s_91 hS e_10
        refine q_if_ne (fun c_13 => ?_) (fun c_13 => ?_)
        · rw [if_neg c_13] at h
          refine K_of b_127_18 h_127_18 ?_
          refine q_aload rfl ?_
          refine q_getRs (c0 := 11) (j := 3) rfl rfl (zl hS_10 0 (by decide)) (sk hS_10 0 (by decide) rfl) rfl (by decide) (r_0_3 hS_10) ?_
          refine q_iload rfl ?_
          refine q_iconst (1) (by decide) ?_
          obtain ⟨d_24, h⟩ := ite_some h
          obtain ⟨⟨⟨x_24, z_24, kd_24, I_24, L_24, R_24⟩, ck_24, cm_24⟩, e_24, h⟩ := Option.bind_eq_some_iff.mp h
          dsimp only at h
          obtain ⟨mk_24, ms_24, h, ek_24, em_24⟩ := adk_some h
          refine q_gv3I (a_128 X hS_10 (d := d - 1) (by omega) e_24) (by omega) (by omega) (by omega) rfl (Nat.le_of_ble_eq_true rfl) ⟨(zl hS_10 24 (by decide)), congrArg Prod.fst (sk hS_10 24 (by decide) rfl), by decide⟩ ?_
          have hS_24 := s_128 hS_10 e_24
          refine q_istore (ls1 := [some (.ref 0), some (.int i1), some (.int x_24)]) (Nat.le_of_ble_eq_true rfl) rfl ?_
          refine q_iload rfl ?_
          refine q_iconst (-1) (by decide) ?_
          refine q_icmp_ne (fun c_30 => ?_) (fun c_30 => ?_)
          · rw [if_neg c_30] at h
            refine K_of b_127_37 h_127_37 ?_
            refine q_iload rfl ?_
            refine q_aload rfl ?_
            refine q_getRs (c0 := 11) (j := 3) rfl rfl (zl hS_24 0 (by decide)) (sk hS_24 0 (by decide) rfl) rfl (by decide) (r_0_3 hS_24) ?_
            obtain ⟨d_42, h⟩ := ite_some h
            obtain ⟨⟨x_42, I_42, L_42⟩, e_42, h⟩ := Option.bind_eq_some_iff.mp h
            dsimp only at h
            refine q_fv1I (a_117 X hS_24 (d := d - 1) (by omega) e_42) (by omega) (by omega) (by omega) rfl (Nat.le_of_ble_eq_true rfl) ⟨(zl hS_24 24 (by decide)), congrArg Prod.fst (sk hS_24 24 (by decide) rfl), by decide⟩ ?_
            refine q_isub ?_
            refine q_end ?_
            refine K_of b_127_46 h_127_46 ?_
            cases h
            exact q_iret rfl (by omega) (by omega) ⟨rfl, rfl⟩
          · rw [if_pos c_30] at h
            refine q_iconst (-1) (by decide) ?_
            refine q_goto ?_
            refine K_of b_127_46 h_127_46 ?_
            cases h
            exact q_iret rfl (by omega) (by omega) ⟨rfl, rfl⟩
        · rw [if_pos c_13] at h
          refine q_end ?_
          refine K_of b_127_16 h_127_16 ?_
          refine q_iconst (-1) (by decide) ?_
          cases h
          exact q_iret rfl (by omega) (by omega) ⟨rfl, rfl⟩
set_option maxHeartbeats 8000000 in
set_option maxRecDepth 100000 in
theorem t_127 : ∀ (n dp : Nat) (z : Nat) (kd : (Nat → Nat × Nat)) (I : (Nat → Nat → Int32)) (L : (Nat → Nat → Int64)) (R : (Nat → Nat → Option Nat)), Sh z kd R → ∀ (i1 : Int32) (r : Int32) (z1 : Nat) (kd1 : (Nat → Nat × Nat)) (I1 : (Nat → Nat → Int32)) (L1 : (Nat → Nat → Int64)) (R1 : (Nat → Nat → Option Nat)) (k1 m1 : Nat), (g_127 n dp 0 z kd I L R i1 = some ((r, z1, kd1, I1, L1, R1), k1, m1) → Sh z1 kd1 R1) := by
  intro n
  induction n with
  | zero => intro dp z kd I L R hS i1 r z1 kd1 I1 L1 R1 k1 m1; exact fun h => by cases h
  | succ n ih =>
    intro dp z kd I L R hS i1 r z1 kd1 I1 L1 R1 k1 m1
    · intro h
      rw [e_127_0] at h
      obtain ⟨d_3, h⟩ := ite_some h
      obtain ⟨⟨x_3, I_3, L_3⟩, e_3, h⟩ := Option.bind_eq_some_iff.mp h
      dsimp only at h
      by_cases c_6 : x_3 = 0
      · rw [if_pos c_6] at h
        cases h
        exact hS
      · rw [if_neg c_6] at h
        obtain ⟨d_10, h⟩ := ite_some h
        obtain ⟨⟨⟨x_10, z_10, kd_10, I_10, L_10, R_10⟩, ck_10, cm_10⟩, e_10, h⟩ := Option.bind_eq_some_iff.mp h
        dsimp only at h
        obtain ⟨mk_10, ms_10, h, ek_10, em_10⟩ := adk_some h
        have hS_10 := s_91 hS e_10
        by_cases c_13 : x_10 = 0
        · rw [if_pos c_13] at h
          cases h
          exact hS_10
        · rw [if_neg c_13] at h
          obtain ⟨d_24, h⟩ := ite_some h
          obtain ⟨⟨⟨x_24, z_24, kd_24, I_24, L_24, R_24⟩, ck_24, cm_24⟩, e_24, h⟩ := Option.bind_eq_some_iff.mp h
          dsimp only at h
          obtain ⟨mk_24, ms_24, h, ek_24, em_24⟩ := adk_some h
          have hS_24 := s_128 hS_10 e_24
          by_cases c_30 : x_24 = (-1 : Int32)
          · rw [if_pos c_30] at h
            cases h
            exact hS_24
          · rw [if_neg c_30] at h
            obtain ⟨d_42, h⟩ := ite_some h
            obtain ⟨⟨x_42, I_42, L_42⟩, e_42, h⟩ := Option.bind_eq_some_iff.mp h
            dsimp only at h
            cases h
            exact hS_24
theorem a_127 (X : GX) {z : Nat} {kd : (Nat → Nat × Nat)} {I : (Nat → Nat → Int32)} {L : (Nat → Nat → Int64)} {R : (Nat → Nat → Option Nat)} (hS : Sh z kd R) {n dp d : Nat} (hd : dp ≤ d) {i1 : Int32} {r : Int32} {z1 : Nat} {kd1 : (Nat → Nat × Nat)} {I1 : (Nat → Nat → Int32)} {L1 : (Nat → Nat → Int64)} {R1 : (Nat → Nat → Option Nat)} {k1 m1 : Nat} (h : g_127 n dp 0 z kd I L R i1 = some ((r, z1, kd1, I1, L1, R1), k1, m1)) : Ct X d 127 k1 m1 [.ref 0, .int i1] (z, kd, I, L, R) (AI (fun x τ => x = r ∧ τ = (z1, kd1, I1, L1, R1))) :=
  Ct_of mu_127 (Nat.le_of_ble_eq_true rfl) ((w_127 X n dp d hd z kd I L R hS i1 _ _ _ _ _ _ _ _) h k1 m1 0 0 (by omega) (by omega))
theorem s_127 {z : Nat} {kd : (Nat → Nat × Nat)} {I : (Nat → Nat → Int32)} {L : (Nat → Nat → Int64)} {R : (Nat → Nat → Option Nat)} (hS : Sh z kd R) {n dp : Nat} {i1 : Int32} {r : Int32} {z1 : Nat} {kd1 : (Nat → Nat × Nat)} {I1 : (Nat → Nat → Int32)} {L1 : (Nat → Nat → Int64)} {R1 : (Nat → Nat → Option Nat)} {k1 m1 : Nat} (h : g_127 n dp 0 z kd I L R i1 = some ((r, z1, kd1, I1, L1, R1), k1, m1)) : Sh z1 kd1 R1 := (t_127 n dp z kd I L R hS i1 _ _ _ _ _ _ _ _) h

/-! 129 CutFloor.shorts(I)I -/
set_option maxHeartbeats 4000000 in
set_option maxRecDepth 100000 in
def g_129 : Nat → Nat → Nat → Nat → (Nat → Nat × Nat) → (Nat → Nat → Int32) → (Nat → Nat → Int64) → (Nat → Nat → Option Nat) → Int32 →  Option ((Int32 × PS) × Nat × Nat)
  | 0, _, _, _, _, _, _, _, _ => none
  | n + 1, dp, lab, z, kd, I, L, R, i1 =>
    if lab = 0 then (if 1 ≤ dp then (g_14 n (dp - 1) (z, kd, R) 0 I L i1 (0 : Int32) (2 : Int32)).bind (fun ⟨x_3, I_3, L_3⟩ => (if x_3 = 0 then (some (((-100000 : Int32), z, kd, I_3, L_3, R), 0, 0)) else (if 1 ≤ dp then (g_91 n (dp - 1) 0 z kd I_3 L_3 R).bind (fun ⟨⟨x_10, z_10, kd_10, I_10, L_10, R_10⟩, ck_10, cm_10⟩ => (adk ck_10 cm_10 (if x_10 = 0 then (some (((-100000 : Int32), z_10, kd_10, I_10, L_10, R_10), 0, 0)) else (if 1 ≤ dp then (g_128 n (dp - 1) 0 z_10 kd_10 I_10 L_10 R_10 i1 (-1 : Int32)).bind (fun ⟨⟨x_25, z_25, kd_25, I_25, L_25, R_25⟩, ck_25, cm_25⟩ => (adk ck_25 cm_25 (if x_25 = (-1 : Int32) then (some (((-100000 : Int32), z_25, kd_25, I_25, L_25, R_25), 0, 0)) else (if 1 ≤ dp then (g_117 n (dp - 1) (z_25, kd_25, R_25) 0 I_25 L_25).bind (fun ⟨x_43, I_43, L_43⟩ => (some (((x_43 - x_25), z_25, kd_25, I_43, L_43, R_25), 0, 0))) else none)))) else none)))) else none))) else none)
    else none
set_option maxRecDepth 100000 in
theorem e_129_0 (n dp : Nat) (z : Nat) (kd : (Nat → Nat × Nat)) (I : (Nat → Nat → Int32)) (L : (Nat → Nat → Int64)) (R : (Nat → Nat → Option Nat)) (i1 : Int32) : g_129 (n + 1) dp 0 z kd I L R i1 = (if 1 ≤ dp then (g_14 n (dp - 1) (z, kd, R) 0 I L i1 (0 : Int32) (2 : Int32)).bind (fun ⟨x_3, I_3, L_3⟩ => (if x_3 = 0 then (some (((-100000 : Int32), z, kd, I_3, L_3, R), 0, 0)) else (if 1 ≤ dp then (g_91 n (dp - 1) 0 z kd I_3 L_3 R).bind (fun ⟨⟨x_10, z_10, kd_10, I_10, L_10, R_10⟩, ck_10, cm_10⟩ => (adk ck_10 cm_10 (if x_10 = 0 then (some (((-100000 : Int32), z_10, kd_10, I_10, L_10, R_10), 0, 0)) else (if 1 ≤ dp then (g_128 n (dp - 1) 0 z_10 kd_10 I_10 L_10 R_10 i1 (-1 : Int32)).bind (fun ⟨⟨x_25, z_25, kd_25, I_25, L_25, R_25⟩, ck_25, cm_25⟩ => (adk ck_25 cm_25 (if x_25 = (-1 : Int32) then (some (((-100000 : Int32), z_25, kd_25, I_25, L_25, R_25), 0, 0)) else (if 1 ≤ dp then (g_117 n (dp - 1) (z_25, kd_25, R_25) 0 I_25 L_25).bind (fun ⟨x_43, I_43, L_43⟩ => (some (((x_43 - x_25), z_25, kd_25, I_43, L_43, R_25), 0, 0))) else none)))) else none)))) else none))) else none) := by rw [g_129.eq_2, if_pos (show (0 : Nat) = 0 from rfl)]
set_option maxHeartbeats 8000000 in
set_option maxRecDepth 100000 in
theorem w_129 (X : GX) : ∀ (n dp d : Nat), dp ≤ d → ∀ (z : Nat) (kd : (Nat → Nat × Nat)) (I : (Nat → Nat → Int32)) (L : (Nat → Nat → Int64)) (R : (Nat → Nat → Option Nat)), Sh z kd R → ∀ (i1 : Int32) (r : Int32) (z1 : Nat) (kd1 : (Nat → Nat × Nat)) (I1 : (Nat → Nat → Int32)) (L1 : (Nat → Nat → Int64)) (R1 : (Nat → Nat → Option Nat)) (k1 m1 : Nat), (g_129 n dp 0 z kd I L R i1 = some ((r, z1, kd1, I1, L1, R1), k1, m1) → ∀ MC MS k m : Nat, k + k1 ≤ MC → m + m1 ≤ MS → K X d 129 MC MS (AI (fun x τ => x = r ∧ τ = (z1, kd1, I1, L1, R1))) 0 [some (.ref 0), some (.int i1), none] [] (z, kd, I, L, R) k m) := by
  intro n
  induction n with
  | zero => intro dp d hdp z kd I L R hS  i1 r z1 kd1 I1 L1 R1 k1 m1; exact fun h => by cases h
  | succ n ih =>
    intro dp d hdp z kd I L R hS  i1 r z1 kd1 I1 L1 R1 k1 m1
    · intro h MC MS k m hMC hMS
      rw [e_129_0] at h
      refine K_of b_129_0 h_129_0 ?_
      refine q_iload rfl ?_
      refine q_iconst (0) (by decide) ?_
      refine q_iconst (2) (by decide) ?_
      obtain ⟨d_3, h⟩ := ite_some h
      obtain ⟨⟨x_3, I_3, L_3⟩, e_3, h⟩ := Option.bind_eq_some_iff.mp h
      dsimp only at h
      refine q_fs3I (a_14 X hS (d := d - 1) (by omega) e_3) (by omega) (by omega) (by omega) rfl (Nat.le_of_ble_eq_true rfl) ?_
      refine q_if_eq (fun c_6 => ?_) (fun c_6 => ?_)
      · rw [if_pos c_6] at h
        refine K_of b_129_16 h_129_16 ?_
        refine q_iconst (-100000) (by decide) ?_
        cases h
        exact q_iret rfl (by omega) (by omega) ⟨rfl, rfl⟩
      · rw [if_neg c_6] at h
        refine q_aload rfl ?_
        obtain ⟨d_10, h⟩ := ite_some h
        obtain ⟨⟨⟨x_10, z_10, kd_10, I_10, L_10, R_10⟩, ck_10, cm_10⟩, e_10, h⟩ := Option.bind_eq_some_iff.mp h
        dsimp only at h
        obtain ⟨mk_10, ms_10, h, ek_10, em_10⟩ := adk_some h
        refine q_gv1I (a_91 X hS (d := d - 1) (by omega) e_10) (by omega) (by omega) (by omega) rfl (Nat.le_of_ble_eq_true rfl) ⟨(zl hS 0 (by decide)), congrArg Prod.fst (sk hS 0 (by decide) rfl), by decide⟩ ?_
        have hS_10 := s_91 hS e_10
        refine q_if_ne (fun c_13 => ?_) (fun c_13 => ?_)
        · rw [if_neg c_13] at h
          refine K_of b_129_19 h_129_19 ?_
          refine q_aload rfl ?_
          refine q_getRs (c0 := 11) (j := 3) rfl rfl (zl hS_10 0 (by decide)) (sk hS_10 0 (by decide) rfl) rfl (by decide) (r_0_3 hS_10) ?_
          refine q_iload rfl ?_
          refine q_iconst (-1) (by decide) ?_
          obtain ⟨d_25, h⟩ := ite_some h
          obtain ⟨⟨⟨x_25, z_25, kd_25, I_25, L_25, R_25⟩, ck_25, cm_25⟩, e_25, h⟩ := Option.bind_eq_some_iff.mp h
          dsimp only at h
          obtain ⟨mk_25, ms_25, h, ek_25, em_25⟩ := adk_some h
          refine q_gv3I (a_128 X hS_10 (d := d - 1) (by omega) e_25) (by omega) (by omega) (by omega) rfl (Nat.le_of_ble_eq_true rfl) ⟨(zl hS_10 24 (by decide)), congrArg Prod.fst (sk hS_10 24 (by decide) rfl), by decide⟩ ?_
          have hS_25 := s_128 hS_10 e_25
          refine q_istore (ls1 := [some (.ref 0), some (.int i1), some (.int x_25)]) (Nat.le_of_ble_eq_true rfl) rfl ?_
          refine q_iload rfl ?_
          refine q_iconst (-1) (by decide) ?_
          refine q_icmp_ne (fun c_31 => ?_) (fun c_31 => ?_)
          · rw [if_neg c_31] at h
            refine K_of b_129_39 h_129_39 ?_
            refine q_aload rfl ?_
            refine q_getRs (c0 := 11) (j := 3) rfl rfl (zl hS_25 0 (by decide)) (sk hS_25 0 (by decide) rfl) rfl (by decide) (r_0_3 hS_25) ?_
            obtain ⟨d_43, h⟩ := ite_some h
            obtain ⟨⟨x_43, I_43, L_43⟩, e_43, h⟩ := Option.bind_eq_some_iff.mp h
            dsimp only at h
            refine q_fv1I (a_117 X hS_25 (d := d - 1) (by omega) e_43) (by omega) (by omega) (by omega) rfl (Nat.le_of_ble_eq_true rfl) ⟨(zl hS_25 24 (by decide)), congrArg Prod.fst (sk hS_25 24 (by decide) rfl), by decide⟩ ?_
            refine q_iload rfl ?_
            refine q_isub ?_
            refine q_end ?_
            refine K_of b_129_48 h_129_48 ?_
            cases h
            exact q_iret rfl (by omega) (by omega) ⟨rfl, rfl⟩
          · rw [if_pos c_31] at h
            refine q_iconst (-100000) (by decide) ?_
            refine q_goto ?_
            refine K_of b_129_48 h_129_48 ?_
            cases h
            exact q_iret rfl (by omega) (by omega) ⟨rfl, rfl⟩
        · rw [if_pos c_13] at h
          refine q_end ?_
          refine K_of b_129_16 h_129_16 ?_
          refine q_iconst (-100000) (by decide) ?_
          cases h
          exact q_iret rfl (by omega) (by omega) ⟨rfl, rfl⟩
set_option maxHeartbeats 8000000 in
set_option maxRecDepth 100000 in
theorem t_129 : ∀ (n dp : Nat) (z : Nat) (kd : (Nat → Nat × Nat)) (I : (Nat → Nat → Int32)) (L : (Nat → Nat → Int64)) (R : (Nat → Nat → Option Nat)), Sh z kd R → ∀ (i1 : Int32) (r : Int32) (z1 : Nat) (kd1 : (Nat → Nat × Nat)) (I1 : (Nat → Nat → Int32)) (L1 : (Nat → Nat → Int64)) (R1 : (Nat → Nat → Option Nat)) (k1 m1 : Nat), (g_129 n dp 0 z kd I L R i1 = some ((r, z1, kd1, I1, L1, R1), k1, m1) → Sh z1 kd1 R1) := by
  intro n
  induction n with
  | zero => intro dp z kd I L R hS i1 r z1 kd1 I1 L1 R1 k1 m1; exact fun h => by cases h
  | succ n ih =>
    intro dp z kd I L R hS i1 r z1 kd1 I1 L1 R1 k1 m1
    · intro h
      rw [e_129_0] at h
      obtain ⟨d_3, h⟩ := ite_some h
      obtain ⟨⟨x_3, I_3, L_3⟩, e_3, h⟩ := Option.bind_eq_some_iff.mp h
      dsimp only at h
      by_cases c_6 : x_3 = 0
      · rw [if_pos c_6] at h
        cases h
        exact hS
      · rw [if_neg c_6] at h
        obtain ⟨d_10, h⟩ := ite_some h
        obtain ⟨⟨⟨x_10, z_10, kd_10, I_10, L_10, R_10⟩, ck_10, cm_10⟩, e_10, h⟩ := Option.bind_eq_some_iff.mp h
        dsimp only at h
        obtain ⟨mk_10, ms_10, h, ek_10, em_10⟩ := adk_some h
        have hS_10 := s_91 hS e_10
        by_cases c_13 : x_10 = 0
        · rw [if_pos c_13] at h
          cases h
          exact hS_10
        · rw [if_neg c_13] at h
          obtain ⟨d_25, h⟩ := ite_some h
          obtain ⟨⟨⟨x_25, z_25, kd_25, I_25, L_25, R_25⟩, ck_25, cm_25⟩, e_25, h⟩ := Option.bind_eq_some_iff.mp h
          dsimp only at h
          obtain ⟨mk_25, ms_25, h, ek_25, em_25⟩ := adk_some h
          have hS_25 := s_128 hS_10 e_25
          by_cases c_31 : x_25 = (-1 : Int32)
          · rw [if_pos c_31] at h
            cases h
            exact hS_25
          · rw [if_neg c_31] at h
            obtain ⟨d_43, h⟩ := ite_some h
            obtain ⟨⟨x_43, I_43, L_43⟩, e_43, h⟩ := Option.bind_eq_some_iff.mp h
            dsimp only at h
            cases h
            exact hS_25
theorem a_129 (X : GX) {z : Nat} {kd : (Nat → Nat × Nat)} {I : (Nat → Nat → Int32)} {L : (Nat → Nat → Int64)} {R : (Nat → Nat → Option Nat)} (hS : Sh z kd R) {n dp d : Nat} (hd : dp ≤ d) {i1 : Int32} {r : Int32} {z1 : Nat} {kd1 : (Nat → Nat × Nat)} {I1 : (Nat → Nat → Int32)} {L1 : (Nat → Nat → Int64)} {R1 : (Nat → Nat → Option Nat)} {k1 m1 : Nat} (h : g_129 n dp 0 z kd I L R i1 = some ((r, z1, kd1, I1, L1, R1), k1, m1)) : Ct X d 129 k1 m1 [.ref 0, .int i1] (z, kd, I, L, R) (AI (fun x τ => x = r ∧ τ = (z1, kd1, I1, L1, R1))) :=
  Ct_of mu_129 (Nat.le_of_ble_eq_true rfl) ((w_129 X n dp d hd z kd I L R hS i1 _ _ _ _ _ _ _ _) h k1 m1 0 0 (by omega) (by omega))
theorem s_129 {z : Nat} {kd : (Nat → Nat × Nat)} {I : (Nat → Nat → Int32)} {L : (Nat → Nat → Int64)} {R : (Nat → Nat → Option Nat)} (hS : Sh z kd R) {n dp : Nat} {i1 : Int32} {r : Int32} {z1 : Nat} {kd1 : (Nat → Nat × Nat)} {I1 : (Nat → Nat → Int32)} {L1 : (Nat → Nat → Int64)} {R1 : (Nat → Nat → Option Nat)} {k1 m1 : Nat} (h : g_129 n dp 0 z kd I L R i1 = some ((r, z1, kd1, I1, L1, R1), k1, m1)) : Sh z1 kd1 R1 := (t_129 n dp z kd I L R hS i1 _ _ _ _ _ _ _ _) h

/-! 130 CutFloor.worth(I)I -/
set_option maxHeartbeats 4000000 in
set_option maxRecDepth 100000 in
def g_130 : Nat → Nat → Nat → Nat → (Nat → Nat × Nat) → (Nat → Nat → Int32) → (Nat → Nat → Int64) → (Nat → Nat → Option Nat) → Int32 →  Option ((Int32 × PS) × Nat × Nat)
  | 0, _, _, _, _, _, _, _, _ => none
  | n + 1, dp, lab, z, kd, I, L, R, i1 =>
    if lab = 0 then (if 1 ≤ dp then (g_14 n (dp - 1) (z, kd, R) 0 I L i1 (0 : Int32) (9 : Int32)).bind (fun ⟨x_4, I_4, L_4⟩ => (if x_4 = 0 then (some (((-1 : Int32), z, kd, I_4, L_4, R), 0, 0)) else (if 1 ≤ dp then (g_91 n (dp - 1) 0 z kd I_4 L_4 R).bind (fun ⟨⟨x_11, z_11, kd_11, I_11, L_11, R_11⟩, ck_11, cm_11⟩ => (adk ck_11 cm_11 (if x_11 = 0 then (some (((-1 : Int32), z_11, kd_11, I_11, L_11, R_11), 0, 0)) else (if 1 ≤ dp then (g_131 n (dp - 1) 0 z_11 kd_11 I_11 L_11 R_11 i1 0 0 0).bind (fun ⟨⟨x_22, z_22, kd_22, I_22, L_22, R_22⟩, ck_22, cm_22⟩ => (adk ck_22 cm_22 (some ((x_22, z_22, kd_22, I_22, L_22, R_22), 0, 0)))) else none)))) else none))) else none)
    else none
set_option maxRecDepth 100000 in
theorem e_130_0 (n dp : Nat) (z : Nat) (kd : (Nat → Nat × Nat)) (I : (Nat → Nat → Int32)) (L : (Nat → Nat → Int64)) (R : (Nat → Nat → Option Nat)) (i1 : Int32) : g_130 (n + 1) dp 0 z kd I L R i1 = (if 1 ≤ dp then (g_14 n (dp - 1) (z, kd, R) 0 I L i1 (0 : Int32) (9 : Int32)).bind (fun ⟨x_4, I_4, L_4⟩ => (if x_4 = 0 then (some (((-1 : Int32), z, kd, I_4, L_4, R), 0, 0)) else (if 1 ≤ dp then (g_91 n (dp - 1) 0 z kd I_4 L_4 R).bind (fun ⟨⟨x_11, z_11, kd_11, I_11, L_11, R_11⟩, ck_11, cm_11⟩ => (adk ck_11 cm_11 (if x_11 = 0 then (some (((-1 : Int32), z_11, kd_11, I_11, L_11, R_11), 0, 0)) else (if 1 ≤ dp then (g_131 n (dp - 1) 0 z_11 kd_11 I_11 L_11 R_11 i1 0 0 0).bind (fun ⟨⟨x_22, z_22, kd_22, I_22, L_22, R_22⟩, ck_22, cm_22⟩ => (adk ck_22 cm_22 (some ((x_22, z_22, kd_22, I_22, L_22, R_22), 0, 0)))) else none)))) else none))) else none) := by rw [g_130.eq_2, if_pos (show (0 : Nat) = 0 from rfl)]
set_option maxHeartbeats 8000000 in
set_option maxRecDepth 100000 in
theorem w_130 (X : GX) : ∀ (n dp d : Nat), dp ≤ d → ∀ (z : Nat) (kd : (Nat → Nat × Nat)) (I : (Nat → Nat → Int32)) (L : (Nat → Nat → Int64)) (R : (Nat → Nat → Option Nat)), Sh z kd R → ∀ (i1 : Int32) (r : Int32) (z1 : Nat) (kd1 : (Nat → Nat × Nat)) (I1 : (Nat → Nat → Int32)) (L1 : (Nat → Nat → Int64)) (R1 : (Nat → Nat → Option Nat)) (k1 m1 : Nat), (g_130 n dp 0 z kd I L R i1 = some ((r, z1, kd1, I1, L1, R1), k1, m1) → ∀ MC MS k m : Nat, k + k1 ≤ MC → m + m1 ≤ MS → K X d 130 MC MS (AI (fun x τ => x = r ∧ τ = (z1, kd1, I1, L1, R1))) 0 [some (.ref 0), some (.int i1)] [] (z, kd, I, L, R) k m) := by
  intro n
  induction n with
  | zero => intro dp d hdp z kd I L R hS  i1 r z1 kd1 I1 L1 R1 k1 m1; exact fun h => by cases h
  | succ n ih =>
    intro dp d hdp z kd I L R hS  i1 r z1 kd1 I1 L1 R1 k1 m1
    · intro h MC MS k m hMC hMS
      rw [e_130_0] at h
      refine K_of b_130_0 h_130_0 ?_
      refine q_iload rfl ?_
      refine q_iconst (0) (by decide) ?_
      refine q_iconst (9) (by decide) ?_
      obtain ⟨d_4, h⟩ := ite_some h
      obtain ⟨⟨x_4, I_4, L_4⟩, e_4, h⟩ := Option.bind_eq_some_iff.mp h
      dsimp only at h
      refine q_fs3I (a_14 X hS (d := d - 1) (by omega) e_4) (by omega) (by omega) (by omega) rfl (Nat.le_of_ble_eq_true rfl) ?_
      refine q_if_eq (fun c_7 => ?_) (fun c_7 => ?_)
      · rw [if_pos c_7] at h
        refine K_of b_130_28 h_130_28 ?_
        refine q_iconst (-1) (by decide) ?_
        refine q_end ?_
        refine K_of b_130_29 h_130_29 ?_
        cases h
        exact q_iret rfl (by omega) (by omega) ⟨rfl, rfl⟩
      · rw [if_neg c_7] at h
        refine q_aload rfl ?_
        obtain ⟨d_11, h⟩ := ite_some h
        obtain ⟨⟨⟨x_11, z_11, kd_11, I_11, L_11, R_11⟩, ck_11, cm_11⟩, e_11, h⟩ := Option.bind_eq_some_iff.mp h
        dsimp only at h
        obtain ⟨mk_11, ms_11, h, ek_11, em_11⟩ := adk_some h
        refine q_gv1I (a_91 X hS (d := d - 1) (by omega) e_11) (by omega) (by omega) (by omega) rfl (Nat.le_of_ble_eq_true rfl) ⟨(zl hS 0 (by decide)), congrArg Prod.fst (sk hS 0 (by decide) rfl), by decide⟩ ?_
        have hS_11 := s_91 hS e_11
        refine q_if_eq (fun c_14 => ?_) (fun c_14 => ?_)
        · rw [if_pos c_14] at h
          refine K_of b_130_28 h_130_28 ?_
          refine q_iconst (-1) (by decide) ?_
          refine q_end ?_
          refine K_of b_130_29 h_130_29 ?_
          cases h
          exact q_iret rfl (by omega) (by omega) ⟨rfl, rfl⟩
        · rw [if_neg c_14] at h
          refine q_aload rfl ?_
          refine q_getRs (c0 := 11) (j := 3) rfl rfl (zl hS_11 0 (by decide)) (sk hS_11 0 (by decide) rfl) rfl (by decide) (r_0_3 hS_11) ?_
          refine q_iload rfl ?_
          obtain ⟨d_22, h⟩ := ite_some h
          obtain ⟨⟨⟨x_22, z_22, kd_22, I_22, L_22, R_22⟩, ck_22, cm_22⟩, e_22, h⟩ := Option.bind_eq_some_iff.mp h
          dsimp only at h
          obtain ⟨mk_22, ms_22, h, ek_22, em_22⟩ := adk_some h
          refine q_gv2I (a_131 X hS_11 (d := d - 1) (by omega) e_22) (by omega) (by omega) (by omega) rfl (Nat.le_of_ble_eq_true rfl) ⟨(zl hS_11 24 (by decide)), congrArg Prod.fst (sk hS_11 24 (by decide) rfl), by decide⟩ ?_
          have hS_22 := s_131 hS_11 e_22
          refine q_goto ?_
          refine K_of b_130_29 h_130_29 ?_
          cases h
          exact q_iret rfl (by omega) (by omega) ⟨rfl, rfl⟩
set_option maxHeartbeats 8000000 in
set_option maxRecDepth 100000 in
theorem t_130 : ∀ (n dp : Nat) (z : Nat) (kd : (Nat → Nat × Nat)) (I : (Nat → Nat → Int32)) (L : (Nat → Nat → Int64)) (R : (Nat → Nat → Option Nat)), Sh z kd R → ∀ (i1 : Int32) (r : Int32) (z1 : Nat) (kd1 : (Nat → Nat × Nat)) (I1 : (Nat → Nat → Int32)) (L1 : (Nat → Nat → Int64)) (R1 : (Nat → Nat → Option Nat)) (k1 m1 : Nat), (g_130 n dp 0 z kd I L R i1 = some ((r, z1, kd1, I1, L1, R1), k1, m1) → Sh z1 kd1 R1) := by
  intro n
  induction n with
  | zero => intro dp z kd I L R hS i1 r z1 kd1 I1 L1 R1 k1 m1; exact fun h => by cases h
  | succ n ih =>
    intro dp z kd I L R hS i1 r z1 kd1 I1 L1 R1 k1 m1
    · intro h
      rw [e_130_0] at h
      obtain ⟨d_4, h⟩ := ite_some h
      obtain ⟨⟨x_4, I_4, L_4⟩, e_4, h⟩ := Option.bind_eq_some_iff.mp h
      dsimp only at h
      by_cases c_7 : x_4 = 0
      · rw [if_pos c_7] at h
        cases h
        exact hS
      · rw [if_neg c_7] at h
        obtain ⟨d_11, h⟩ := ite_some h
        obtain ⟨⟨⟨x_11, z_11, kd_11, I_11, L_11, R_11⟩, ck_11, cm_11⟩, e_11, h⟩ := Option.bind_eq_some_iff.mp h
        dsimp only at h
        obtain ⟨mk_11, ms_11, h, ek_11, em_11⟩ := adk_some h
        have hS_11 := s_91 hS e_11
        by_cases c_14 : x_11 = 0
        · rw [if_pos c_14] at h
          cases h
          exact hS_11
        · rw [if_neg c_14] at h
          obtain ⟨d_22, h⟩ := ite_some h
          obtain ⟨⟨⟨x_22, z_22, kd_22, I_22, L_22, R_22⟩, ck_22, cm_22⟩, e_22, h⟩ := Option.bind_eq_some_iff.mp h
          dsimp only at h
          obtain ⟨mk_22, ms_22, h, ek_22, em_22⟩ := adk_some h
          have hS_22 := s_131 hS_11 e_22
          cases h
          exact hS_22
theorem a_130 (X : GX) {z : Nat} {kd : (Nat → Nat × Nat)} {I : (Nat → Nat → Int32)} {L : (Nat → Nat → Int64)} {R : (Nat → Nat → Option Nat)} (hS : Sh z kd R) {n dp d : Nat} (hd : dp ≤ d) {i1 : Int32} {r : Int32} {z1 : Nat} {kd1 : (Nat → Nat × Nat)} {I1 : (Nat → Nat → Int32)} {L1 : (Nat → Nat → Int64)} {R1 : (Nat → Nat → Option Nat)} {k1 m1 : Nat} (h : g_130 n dp 0 z kd I L R i1 = some ((r, z1, kd1, I1, L1, R1), k1, m1)) : Ct X d 130 k1 m1 [.ref 0, .int i1] (z, kd, I, L, R) (AI (fun x τ => x = r ∧ τ = (z1, kd1, I1, L1, R1))) :=
  Ct_of mu_130 (Nat.le_of_ble_eq_true rfl) ((w_130 X n dp d hd z kd I L R hS i1 _ _ _ _ _ _ _ _) h k1 m1 0 0 (by omega) (by omega))
theorem s_130 {z : Nat} {kd : (Nat → Nat × Nat)} {I : (Nat → Nat → Int32)} {L : (Nat → Nat → Int64)} {R : (Nat → Nat → Option Nat)} (hS : Sh z kd R) {n dp : Nat} {i1 : Int32} {r : Int32} {z1 : Nat} {kd1 : (Nat → Nat × Nat)} {I1 : (Nat → Nat → Int32)} {L1 : (Nat → Nat → Int64)} {R1 : (Nat → Nat → Option Nat)} {k1 m1 : Nat} (h : g_130 n dp 0 z kd I L R i1 = some ((r, z1, kd1, I1, L1, R1), k1, m1)) : Sh z1 kd1 R1 := (t_130 n dp z kd I L R hS i1 _ _ _ _ _ _ _ _) h

/-! 133 CutFloor.change(II)I -/
set_option maxHeartbeats 4000000 in
set_option maxRecDepth 100000 in
def g_133 : Nat → Nat → Nat → Nat → (Nat → Nat × Nat) → (Nat → Nat → Int32) → (Nat → Nat → Int64) → (Nat → Nat → Option Nat) → Int32 → Int32 →  Option ((Int32 × PS) × Nat × Nat)
  | 0, _, _, _, _, _, _, _, _, _ => none
  | n + 1, dp, lab, z, kd, I, L, R, i1, i2 =>
    if lab = 0 then (if 1 ≤ dp then (g_14 n (dp - 1) (z, kd, R) 0 I L i1 (0 : Int32) (2 : Int32)).bind (fun ⟨x_3, I_3, L_3⟩ => (if x_3 = 0 then (some (((-1 : Int32), z, kd, I_3, L_3, R), 0, 0)) else (if 1 ≤ dp then (g_14 n (dp - 1) (z, kd, R) 0 I_3 L_3 i2 (0 : Int32) (1 : Int32)).bind (fun ⟨x_12, I_12, L_12⟩ => (if x_12 = 0 then (some (((-1 : Int32), z, kd, I_12, L_12, R), 0, 0)) else (if 0 ≤ i1 ∧ (Int32.toNatClampNeg i1) < 3 then (if (I_12 2 (Int32.toNatClampNeg i1)) = 0 then (some (((-1 : Int32), z, kd, I_12, L_12, R), 0, 0)) else (if 1 ≤ dp then (g_91 n (dp - 1) 0 z kd I_12 L_12 R).bind (fun ⟨⟨x_31, z_31, kd_31, I_31, L_31, R_31⟩, ck_31, cm_31⟩ => (adk ck_31 cm_31 (if x_31 = 0 then (some (((-1 : Int32), z_31, kd_31, I_31, L_31, R_31), 0, 0)) else (if 1 ≤ dp then (g_120 n (dp - 1) 0 z_31 kd_31 I_31 L_31 R_31 0 0 0 0).bind (fun ⟨⟨z_43, kd_43, I_43, L_43, R_43⟩, ck_43, cm_43⟩ => (adk ck_43 cm_43 (if 1 ≤ dp then (g_134 n (dp - 1) 0 z_43 kd_43 I_43 L_43 R_43 i1 0 0 0 0).bind (fun ⟨⟨z_51, kd_51, I_51, L_51, R_51⟩, ck_51, cm_51⟩ => (adk ck_51 cm_51 (if i2 = 0 then (if 0 ≤ i1 ∧ (Int32.toNatClampNeg i1) < 3 then (some (((I_51 56 (Int32.toNatClampNeg i1)), z_51, kd_51, I_51, L_51, R_51), 0, 0)) else none) else (if 0 ≤ i1 ∧ (Int32.toNatClampNeg i1) < 3 then (some (((I_51 57 (Int32.toNatClampNeg i1)), z_51, kd_51, I_51, L_51, R_51), 0, 0)) else none)))) else none))) else none)))) else none)) else none))) else none))) else none)
    else none
set_option maxRecDepth 100000 in
theorem e_133_0 (n dp : Nat) (z : Nat) (kd : (Nat → Nat × Nat)) (I : (Nat → Nat → Int32)) (L : (Nat → Nat → Int64)) (R : (Nat → Nat → Option Nat)) (i1 : Int32) (i2 : Int32) : g_133 (n + 1) dp 0 z kd I L R i1 i2 = (if 1 ≤ dp then (g_14 n (dp - 1) (z, kd, R) 0 I L i1 (0 : Int32) (2 : Int32)).bind (fun ⟨x_3, I_3, L_3⟩ => (if x_3 = 0 then (some (((-1 : Int32), z, kd, I_3, L_3, R), 0, 0)) else (if 1 ≤ dp then (g_14 n (dp - 1) (z, kd, R) 0 I_3 L_3 i2 (0 : Int32) (1 : Int32)).bind (fun ⟨x_12, I_12, L_12⟩ => (if x_12 = 0 then (some (((-1 : Int32), z, kd, I_12, L_12, R), 0, 0)) else (if 0 ≤ i1 ∧ (Int32.toNatClampNeg i1) < 3 then (if (I_12 2 (Int32.toNatClampNeg i1)) = 0 then (some (((-1 : Int32), z, kd, I_12, L_12, R), 0, 0)) else (if 1 ≤ dp then (g_91 n (dp - 1) 0 z kd I_12 L_12 R).bind (fun ⟨⟨x_31, z_31, kd_31, I_31, L_31, R_31⟩, ck_31, cm_31⟩ => (adk ck_31 cm_31 (if x_31 = 0 then (some (((-1 : Int32), z_31, kd_31, I_31, L_31, R_31), 0, 0)) else (if 1 ≤ dp then (g_120 n (dp - 1) 0 z_31 kd_31 I_31 L_31 R_31 0 0 0 0).bind (fun ⟨⟨z_43, kd_43, I_43, L_43, R_43⟩, ck_43, cm_43⟩ => (adk ck_43 cm_43 (if 1 ≤ dp then (g_134 n (dp - 1) 0 z_43 kd_43 I_43 L_43 R_43 i1 0 0 0 0).bind (fun ⟨⟨z_51, kd_51, I_51, L_51, R_51⟩, ck_51, cm_51⟩ => (adk ck_51 cm_51 (if i2 = 0 then (if 0 ≤ i1 ∧ (Int32.toNatClampNeg i1) < 3 then (some (((I_51 56 (Int32.toNatClampNeg i1)), z_51, kd_51, I_51, L_51, R_51), 0, 0)) else none) else (if 0 ≤ i1 ∧ (Int32.toNatClampNeg i1) < 3 then (some (((I_51 57 (Int32.toNatClampNeg i1)), z_51, kd_51, I_51, L_51, R_51), 0, 0)) else none)))) else none))) else none)))) else none)) else none))) else none))) else none) := by rw [g_133.eq_2, if_pos (show (0 : Nat) = 0 from rfl)]
set_option maxHeartbeats 8000000 in
set_option maxRecDepth 100000 in
theorem w_133 (X : GX) : ∀ (n dp d : Nat), dp ≤ d → ∀ (z : Nat) (kd : (Nat → Nat × Nat)) (I : (Nat → Nat → Int32)) (L : (Nat → Nat → Int64)) (R : (Nat → Nat → Option Nat)), Sh z kd R → ∀ (i1 : Int32) (i2 : Int32) (r : Int32) (z1 : Nat) (kd1 : (Nat → Nat × Nat)) (I1 : (Nat → Nat → Int32)) (L1 : (Nat → Nat → Int64)) (R1 : (Nat → Nat → Option Nat)) (k1 m1 : Nat), (g_133 n dp 0 z kd I L R i1 i2 = some ((r, z1, kd1, I1, L1, R1), k1, m1) → ∀ MC MS k m : Nat, k + k1 ≤ MC → m + m1 ≤ MS → K X d 133 MC MS (AI (fun x τ => x = r ∧ τ = (z1, kd1, I1, L1, R1))) 0 [some (.ref 0), some (.int i1), some (.int i2)] [] (z, kd, I, L, R) k m) := by
  intro n
  induction n with
  | zero => intro dp d hdp z kd I L R hS  i1 i2 r z1 kd1 I1 L1 R1 k1 m1; exact fun h => by cases h
  | succ n ih =>
    intro dp d hdp z kd I L R hS  i1 i2 r z1 kd1 I1 L1 R1 k1 m1
    · intro h MC MS k m hMC hMS
      rw [e_133_0] at h
      refine K_of b_133_0 h_133_0 ?_
      refine q_iload rfl ?_
      refine q_iconst (0) (by decide) ?_
      refine q_iconst (2) (by decide) ?_
      obtain ⟨d_3, h⟩ := ite_some h
      obtain ⟨⟨x_3, I_3, L_3⟩, e_3, h⟩ := Option.bind_eq_some_iff.mp h
      dsimp only at h
      refine q_fs3I (a_14 X hS (d := d - 1) (by omega) e_3) (by omega) (by omega) (by omega) rfl (Nat.le_of_ble_eq_true rfl) ?_
      refine q_if_eq (fun c_6 => ?_) (fun c_6 => ?_)
      · rw [if_pos c_6] at h
        refine K_of b_133_37 h_133_37 ?_
        refine q_iconst (-1) (by decide) ?_
        cases h
        exact q_iret rfl (by omega) (by omega) ⟨rfl, rfl⟩
      · rw [if_neg c_6] at h
        refine q_iload rfl ?_
        refine q_iconst (0) (by decide) ?_
        refine q_iconst (1) (by decide) ?_
        obtain ⟨d_12, h⟩ := ite_some h
        obtain ⟨⟨x_12, I_12, L_12⟩, e_12, h⟩ := Option.bind_eq_some_iff.mp h
        dsimp only at h
        refine q_fs3I (a_14 X hS (d := d - 1) (by omega) e_12) (by omega) (by omega) (by omega) rfl (Nat.le_of_ble_eq_true rfl) ?_
        refine q_if_eq (fun c_15 => ?_) (fun c_15 => ?_)
        · rw [if_pos c_15] at h
          refine K_of b_133_37 h_133_37 ?_
          refine q_iconst (-1) (by decide) ?_
          cases h
          exact q_iret rfl (by omega) (by omega) ⟨rfl, rfl⟩
        · rw [if_neg c_15] at h
          refine q_aload rfl ?_
          refine q_getRs (c0 := 11) (j := 0) rfl rfl (zl hS 0 (by decide)) (sk hS 0 (by decide) rfl) rfl (by decide) (r_0_0 hS) ?_
          refine q_getRs (c0 := 3) (j := 0) rfl rfl (zl hS 1 (by decide)) (sk hS 1 (by decide) rfl) rfl (by decide) (r_1_0 hS) ?_
          refine q_iload rfl ?_
          obtain ⟨⟨u_26, v_26⟩, h⟩ := ite_some h
          refine q_ialN (Int32.toNatClampNeg i1) (nx u_26) (zl hS 2 (by decide)) (sk hS 2 (by decide) rfl) v_26 (by decide) ?_
          refine q_if_eq (fun c_27 => ?_) (fun c_27 => ?_)
          · rw [if_pos c_27] at h
            refine K_of b_133_37 h_133_37 ?_
            refine q_iconst (-1) (by decide) ?_
            cases h
            exact q_iret rfl (by omega) (by omega) ⟨rfl, rfl⟩
          · rw [if_neg c_27] at h
            refine q_aload rfl ?_
            obtain ⟨d_31, h⟩ := ite_some h
            obtain ⟨⟨⟨x_31, z_31, kd_31, I_31, L_31, R_31⟩, ck_31, cm_31⟩, e_31, h⟩ := Option.bind_eq_some_iff.mp h
            dsimp only at h
            obtain ⟨mk_31, ms_31, h, ek_31, em_31⟩ := adk_some h
            refine q_gv1I (a_91 X hS (d := d - 1) (by omega) e_31) (by omega) (by omega) (by omega) rfl (Nat.le_of_ble_eq_true rfl) ⟨(zl hS 0 (by decide)), congrArg Prod.fst (sk hS 0 (by decide) rfl), by decide⟩ ?_
            have hS_31 := s_91 hS e_31
            refine q_if_ne (fun c_34 => ?_) (fun c_34 => ?_)
            · rw [if_neg c_34] at h
              refine K_of b_133_39 h_133_39 ?_
              refine q_aload rfl ?_
              refine q_getRs (c0 := 11) (j := 3) rfl rfl (zl hS_31 0 (by decide)) (sk hS_31 0 (by decide) rfl) rfl (by decide) (r_0_3 hS_31) ?_
              obtain ⟨d_43, h⟩ := ite_some h
              obtain ⟨⟨⟨z_43, kd_43, I_43, L_43, R_43⟩, ck_43, cm_43⟩, e_43, h⟩ := Option.bind_eq_some_iff.mp h
              dsimp only at h
              obtain ⟨mk_43, ms_43, h, ek_43, em_43⟩ := adk_some h
              refine q_gv1V (a_120 X hS_31 (d := d - 1) (by omega) e_43) (by omega) (by omega) (by omega) rfl (Nat.le_of_ble_eq_true rfl) ⟨(zl hS_31 24 (by decide)), congrArg Prod.fst (sk hS_31 24 (by decide) rfl), by decide⟩ ?_
              have hS_43 := s_120 hS_31 e_43
              refine q_aload rfl ?_
              refine q_getRs (c0 := 11) (j := 3) rfl rfl (zl hS_43 0 (by decide)) (sk hS_43 0 (by decide) rfl) rfl (by decide) (r_0_3 hS_43) ?_
              refine q_iload rfl ?_
              obtain ⟨d_51, h⟩ := ite_some h
              obtain ⟨⟨⟨z_51, kd_51, I_51, L_51, R_51⟩, ck_51, cm_51⟩, e_51, h⟩ := Option.bind_eq_some_iff.mp h
              dsimp only at h
              obtain ⟨mk_51, ms_51, h, ek_51, em_51⟩ := adk_some h
              refine q_gv2V (a_134 X hS_43 (d := d - 1) (by omega) e_51) (by omega) (by omega) (by omega) rfl (Nat.le_of_ble_eq_true rfl) ⟨(zl hS_43 24 (by decide)), congrArg Prod.fst (sk hS_43 24 (by decide) rfl), by decide⟩ ?_
              have hS_51 := s_134 hS_43 e_51
              refine q_iload rfl ?_
              refine q_if_ne (fun c_55 => ?_) (fun c_55 => ?_)
              · rw [if_neg c_55] at h
                refine K_of b_133_70 h_133_70 ?_
                refine q_aload rfl ?_
                refine q_getRs (c0 := 11) (j := 3) rfl rfl (zl hS_51 0 (by decide)) (sk hS_51 0 (by decide) rfl) rfl (by decide) (r_0_3 hS_51) ?_
                refine q_getRs (c0 := 7) (j := 11) rfl rfl (zl hS_51 24 (by decide)) (sk hS_51 24 (by decide) rfl) rfl (by decide) (r_24_11 hS_51) ?_
                refine q_iload rfl ?_
                obtain ⟨⟨u_78, v_78⟩, h⟩ := ite_some h
                refine q_ialN (Int32.toNatClampNeg i1) (nx u_78) (zl hS_51 57 (by decide)) (sk hS_51 57 (by decide) rfl) v_78 (by decide) ?_
                refine q_end ?_
                refine K_of b_133_79 h_133_79 ?_
                cases h
                exact q_iret rfl (by omega) (by omega) ⟨rfl, rfl⟩
              · rw [if_pos c_55] at h
                refine q_aload rfl ?_
                refine q_getRs (c0 := 11) (j := 3) rfl rfl (zl hS_51 0 (by decide)) (sk hS_51 0 (by decide) rfl) rfl (by decide) (r_0_3 hS_51) ?_
                refine q_getRs (c0 := 7) (j := 10) rfl rfl (zl hS_51 24 (by decide)) (sk hS_51 24 (by decide) rfl) rfl (by decide) (r_24_10 hS_51) ?_
                refine q_iload rfl ?_
                obtain ⟨⟨u_66, v_66⟩, h⟩ := ite_some h
                refine q_ialN (Int32.toNatClampNeg i1) (nx u_66) (zl hS_51 56 (by decide)) (sk hS_51 56 (by decide) rfl) v_66 (by decide) ?_
                refine q_goto ?_
                refine K_of b_133_79 h_133_79 ?_
                cases h
                exact q_iret rfl (by omega) (by omega) ⟨rfl, rfl⟩
            · rw [if_pos c_34] at h
              refine q_end ?_
              refine K_of b_133_37 h_133_37 ?_
              refine q_iconst (-1) (by decide) ?_
              cases h
              exact q_iret rfl (by omega) (by omega) ⟨rfl, rfl⟩
set_option maxHeartbeats 8000000 in
set_option maxRecDepth 100000 in
theorem t_133 : ∀ (n dp : Nat) (z : Nat) (kd : (Nat → Nat × Nat)) (I : (Nat → Nat → Int32)) (L : (Nat → Nat → Int64)) (R : (Nat → Nat → Option Nat)), Sh z kd R → ∀ (i1 : Int32) (i2 : Int32) (r : Int32) (z1 : Nat) (kd1 : (Nat → Nat × Nat)) (I1 : (Nat → Nat → Int32)) (L1 : (Nat → Nat → Int64)) (R1 : (Nat → Nat → Option Nat)) (k1 m1 : Nat), (g_133 n dp 0 z kd I L R i1 i2 = some ((r, z1, kd1, I1, L1, R1), k1, m1) → Sh z1 kd1 R1) := by
  intro n
  induction n with
  | zero => intro dp z kd I L R hS i1 i2 r z1 kd1 I1 L1 R1 k1 m1; exact fun h => by cases h
  | succ n ih =>
    intro dp z kd I L R hS i1 i2 r z1 kd1 I1 L1 R1 k1 m1
    · intro h
      rw [e_133_0] at h
      obtain ⟨d_3, h⟩ := ite_some h
      obtain ⟨⟨x_3, I_3, L_3⟩, e_3, h⟩ := Option.bind_eq_some_iff.mp h
      dsimp only at h
      by_cases c_6 : x_3 = 0
      · rw [if_pos c_6] at h
        cases h
        exact hS
      · rw [if_neg c_6] at h
        obtain ⟨d_12, h⟩ := ite_some h
        obtain ⟨⟨x_12, I_12, L_12⟩, e_12, h⟩ := Option.bind_eq_some_iff.mp h
        dsimp only at h
        by_cases c_15 : x_12 = 0
        · rw [if_pos c_15] at h
          cases h
          exact hS
        · rw [if_neg c_15] at h
          obtain ⟨⟨u_26, v_26⟩, h⟩ := ite_some h
          by_cases c_27 : (I_12 2 (Int32.toNatClampNeg i1)) = 0
          · rw [if_pos c_27] at h
            cases h
            exact hS
          · rw [if_neg c_27] at h
            obtain ⟨d_31, h⟩ := ite_some h
            obtain ⟨⟨⟨x_31, z_31, kd_31, I_31, L_31, R_31⟩, ck_31, cm_31⟩, e_31, h⟩ := Option.bind_eq_some_iff.mp h
            dsimp only at h
            obtain ⟨mk_31, ms_31, h, ek_31, em_31⟩ := adk_some h
            have hS_31 := s_91 hS e_31
            by_cases c_34 : x_31 = 0
            · rw [if_pos c_34] at h
              cases h
              exact hS_31
            · rw [if_neg c_34] at h
              obtain ⟨d_43, h⟩ := ite_some h
              obtain ⟨⟨⟨z_43, kd_43, I_43, L_43, R_43⟩, ck_43, cm_43⟩, e_43, h⟩ := Option.bind_eq_some_iff.mp h
              dsimp only at h
              obtain ⟨mk_43, ms_43, h, ek_43, em_43⟩ := adk_some h
              have hS_43 := s_120 hS_31 e_43
              obtain ⟨d_51, h⟩ := ite_some h
              obtain ⟨⟨⟨z_51, kd_51, I_51, L_51, R_51⟩, ck_51, cm_51⟩, e_51, h⟩ := Option.bind_eq_some_iff.mp h
              dsimp only at h
              obtain ⟨mk_51, ms_51, h, ek_51, em_51⟩ := adk_some h
              have hS_51 := s_134 hS_43 e_51
              by_cases c_55 : i2 = 0
              · rw [if_pos c_55] at h
                obtain ⟨⟨u_66, v_66⟩, h⟩ := ite_some h
                cases h
                exact hS_51
              · rw [if_neg c_55] at h
                obtain ⟨⟨u_78, v_78⟩, h⟩ := ite_some h
                cases h
                exact hS_51
theorem a_133 (X : GX) {z : Nat} {kd : (Nat → Nat × Nat)} {I : (Nat → Nat → Int32)} {L : (Nat → Nat → Int64)} {R : (Nat → Nat → Option Nat)} (hS : Sh z kd R) {n dp d : Nat} (hd : dp ≤ d) {i1 : Int32} {i2 : Int32} {r : Int32} {z1 : Nat} {kd1 : (Nat → Nat × Nat)} {I1 : (Nat → Nat → Int32)} {L1 : (Nat → Nat → Int64)} {R1 : (Nat → Nat → Option Nat)} {k1 m1 : Nat} (h : g_133 n dp 0 z kd I L R i1 i2 = some ((r, z1, kd1, I1, L1, R1), k1, m1)) : Ct X d 133 k1 m1 [.ref 0, .int i1, .int i2] (z, kd, I, L, R) (AI (fun x τ => x = r ∧ τ = (z1, kd1, I1, L1, R1))) :=
  Ct_of mu_133 (Nat.le_of_ble_eq_true rfl) ((w_133 X n dp d hd z kd I L R hS i1 i2 _ _ _ _ _ _ _ _) h k1 m1 0 0 (by omega) (by omega))
theorem s_133 {z : Nat} {kd : (Nat → Nat × Nat)} {I : (Nat → Nat → Int32)} {L : (Nat → Nat → Int64)} {R : (Nat → Nat → Option Nat)} (hS : Sh z kd R) {n dp : Nat} {i1 : Int32} {i2 : Int32} {r : Int32} {z1 : Nat} {kd1 : (Nat → Nat × Nat)} {I1 : (Nat → Nat → Int32)} {L1 : (Nat → Nat → Int64)} {R1 : (Nat → Nat → Option Nat)} {k1 m1 : Nat} (h : g_133 n dp 0 z kd I L R i1 i2 = some ((r, z1, kd1, I1, L1, R1), k1, m1)) : Sh z1 kd1 R1 := (t_133 n dp z kd I L R hS i1 i2 _ _ _ _ _ _ _ _) h

/-! 137 CutFloor.given(I)I -/
set_option maxHeartbeats 4000000 in
set_option maxRecDepth 100000 in
def g_137 : Nat → Nat → Nat → Nat → (Nat → Nat × Nat) → (Nat → Nat → Int32) → (Nat → Nat → Int64) → (Nat → Nat → Option Nat) → Int32 →  Option ((Int32 × PS) × Nat × Nat)
  | 0, _, _, _, _, _, _, _, _ => none
  | n + 1, dp, lab, z, kd, I, L, R, i1 =>
    if lab = 0 then (if 1 ≤ dp then (g_14 n (dp - 1) (z, kd, R) 0 I L i1 (0 : Int32) (3 : Int32)).bind (fun ⟨x_3, I_3, L_3⟩ => (if x_3 = 0 then (some (((-1 : Int32), z, kd, I_3, L_3, R), 0, 0)) else (if 1 ≤ dp then (g_91 n (dp - 1) 0 z kd I_3 L_3 R).bind (fun ⟨⟨x_10, z_10, kd_10, I_10, L_10, R_10⟩, ck_10, cm_10⟩ => (adk ck_10 cm_10 (if x_10 = 0 then (some (((-1 : Int32), z_10, kd_10, I_10, L_10, R_10), 0, 0)) else (if 1 ≤ dp then (g_120 n (dp - 1) 0 z_10 kd_10 I_10 L_10 R_10 0 0 0 0).bind (fun ⟨⟨z_22, kd_22, I_22, L_22, R_22⟩, ck_22, cm_22⟩ => (adk ck_22 cm_22 (if i1 = (0 : Int32) then (if 1 ≤ dp then (g_138 n (dp - 1) (z_22, kd_22, R_22) 0 I_22 L_22 0 0).bind (fun ⟨x_56, I_56, L_56⟩ => (some ((x_56, z_22, kd_22, I_56, L_56, R_22), 0, 0))) else none) else (if i1 = (1 : Int32) then (if 1 ≤ dp then (g_117 n (dp - 1) (z_22, kd_22, R_22) 0 I_22 L_22).bind (fun ⟨x_64, I_64, L_64⟩ => (if 1 ≤ dp then (g_138 n (dp - 1) (z_22, kd_22, R_22) 0 I_64 L_64 0 0).bind (fun ⟨x_71, I_71, L_71⟩ => (some (((x_64 - x_71), z_22, kd_22, I_71, L_71, R_22), 0, 0))) else none)) else none) else (if i1 = (2 : Int32) then (if 1 ≤ dp then (g_142 n (dp - 1) (z_22, kd_22, R_22) 0 I_22 L_22 0 0 0).bind (fun ⟨x_80, I_80, L_80⟩ => (some ((x_80, z_22, kd_22, I_80, L_80, R_22), 0, 0))) else none) else (if 1 ≤ dp then (g_143 n (dp - 1) (z_22, kd_22, R_22) 0 I_22 L_22 0 0).bind (fun ⟨x_88, I_88, L_88⟩ => (some ((x_88, z_22, kd_22, I_88, L_88, R_22), 0, 0))) else none)))))) else none)))) else none))) else none)
    else none
set_option maxRecDepth 100000 in
theorem e_137_0 (n dp : Nat) (z : Nat) (kd : (Nat → Nat × Nat)) (I : (Nat → Nat → Int32)) (L : (Nat → Nat → Int64)) (R : (Nat → Nat → Option Nat)) (i1 : Int32) : g_137 (n + 1) dp 0 z kd I L R i1 = (if 1 ≤ dp then (g_14 n (dp - 1) (z, kd, R) 0 I L i1 (0 : Int32) (3 : Int32)).bind (fun ⟨x_3, I_3, L_3⟩ => (if x_3 = 0 then (some (((-1 : Int32), z, kd, I_3, L_3, R), 0, 0)) else (if 1 ≤ dp then (g_91 n (dp - 1) 0 z kd I_3 L_3 R).bind (fun ⟨⟨x_10, z_10, kd_10, I_10, L_10, R_10⟩, ck_10, cm_10⟩ => (adk ck_10 cm_10 (if x_10 = 0 then (some (((-1 : Int32), z_10, kd_10, I_10, L_10, R_10), 0, 0)) else (if 1 ≤ dp then (g_120 n (dp - 1) 0 z_10 kd_10 I_10 L_10 R_10 0 0 0 0).bind (fun ⟨⟨z_22, kd_22, I_22, L_22, R_22⟩, ck_22, cm_22⟩ => (adk ck_22 cm_22 (if i1 = (0 : Int32) then (if 1 ≤ dp then (g_138 n (dp - 1) (z_22, kd_22, R_22) 0 I_22 L_22 0 0).bind (fun ⟨x_56, I_56, L_56⟩ => (some ((x_56, z_22, kd_22, I_56, L_56, R_22), 0, 0))) else none) else (if i1 = (1 : Int32) then (if 1 ≤ dp then (g_117 n (dp - 1) (z_22, kd_22, R_22) 0 I_22 L_22).bind (fun ⟨x_64, I_64, L_64⟩ => (if 1 ≤ dp then (g_138 n (dp - 1) (z_22, kd_22, R_22) 0 I_64 L_64 0 0).bind (fun ⟨x_71, I_71, L_71⟩ => (some (((x_64 - x_71), z_22, kd_22, I_71, L_71, R_22), 0, 0))) else none)) else none) else (if i1 = (2 : Int32) then (if 1 ≤ dp then (g_142 n (dp - 1) (z_22, kd_22, R_22) 0 I_22 L_22 0 0 0).bind (fun ⟨x_80, I_80, L_80⟩ => (some ((x_80, z_22, kd_22, I_80, L_80, R_22), 0, 0))) else none) else (if 1 ≤ dp then (g_143 n (dp - 1) (z_22, kd_22, R_22) 0 I_22 L_22 0 0).bind (fun ⟨x_88, I_88, L_88⟩ => (some ((x_88, z_22, kd_22, I_88, L_88, R_22), 0, 0))) else none)))))) else none)))) else none))) else none) := by rw [g_137.eq_2, if_pos (show (0 : Nat) = 0 from rfl)]
set_option maxHeartbeats 8000000 in
set_option maxRecDepth 100000 in
theorem w_137 (X : GX) : ∀ (n dp d : Nat), dp ≤ d → ∀ (z : Nat) (kd : (Nat → Nat × Nat)) (I : (Nat → Nat → Int32)) (L : (Nat → Nat → Int64)) (R : (Nat → Nat → Option Nat)), Sh z kd R → ∀ (i1 : Int32) (r : Int32) (z1 : Nat) (kd1 : (Nat → Nat × Nat)) (I1 : (Nat → Nat → Int32)) (L1 : (Nat → Nat → Int64)) (R1 : (Nat → Nat → Option Nat)) (k1 m1 : Nat), (g_137 n dp 0 z kd I L R i1 = some ((r, z1, kd1, I1, L1, R1), k1, m1) → ∀ MC MS k m : Nat, k + k1 ≤ MC → m + m1 ≤ MS → K X d 137 MC MS (AI (fun x τ => x = r ∧ τ = (z1, kd1, I1, L1, R1))) 0 [some (.ref 0), some (.int i1)] [] (z, kd, I, L, R) k m) := by
  intro n
  induction n with
  | zero => intro dp d hdp z kd I L R hS  i1 r z1 kd1 I1 L1 R1 k1 m1; exact fun h => by cases h
  | succ n ih =>
    intro dp d hdp z kd I L R hS  i1 r z1 kd1 I1 L1 R1 k1 m1
    · intro h MC MS k m hMC hMS
      rw [e_137_0] at h
      refine K_of b_137_0 h_137_0 ?_
      refine q_iload rfl ?_
      refine q_iconst (0) (by decide) ?_
      refine q_iconst (3) (by decide) ?_
      obtain ⟨d_3, h⟩ := ite_some h
      obtain ⟨⟨x_3, I_3, L_3⟩, e_3, h⟩ := Option.bind_eq_some_iff.mp h
      dsimp only at h
      refine q_fs3I (a_14 X hS (d := d - 1) (by omega) e_3) (by omega) (by omega) (by omega) rfl (Nat.le_of_ble_eq_true rfl) ?_
      refine q_if_eq (fun c_6 => ?_) (fun c_6 => ?_)
      · rw [if_pos c_6] at h
        refine K_of b_137_16 h_137_16 ?_
        refine q_iconst (-1) (by decide) ?_
        cases h
        exact q_iret rfl (by omega) (by omega) ⟨rfl, rfl⟩
      · rw [if_neg c_6] at h
        refine q_aload rfl ?_
        obtain ⟨d_10, h⟩ := ite_some h
        obtain ⟨⟨⟨x_10, z_10, kd_10, I_10, L_10, R_10⟩, ck_10, cm_10⟩, e_10, h⟩ := Option.bind_eq_some_iff.mp h
        dsimp only at h
        obtain ⟨mk_10, ms_10, h, ek_10, em_10⟩ := adk_some h
        refine q_gv1I (a_91 X hS (d := d - 1) (by omega) e_10) (by omega) (by omega) (by omega) rfl (Nat.le_of_ble_eq_true rfl) ⟨(zl hS 0 (by decide)), congrArg Prod.fst (sk hS 0 (by decide) rfl), by decide⟩ ?_
        have hS_10 := s_91 hS e_10
        refine q_if_ne (fun c_13 => ?_) (fun c_13 => ?_)
        · rw [if_neg c_13] at h
          refine K_of b_137_18 h_137_18 ?_
          refine q_aload rfl ?_
          refine q_getRs (c0 := 11) (j := 3) rfl rfl (zl hS_10 0 (by decide)) (sk hS_10 0 (by decide) rfl) rfl (by decide) (r_0_3 hS_10) ?_
          obtain ⟨d_22, h⟩ := ite_some h
          obtain ⟨⟨⟨z_22, kd_22, I_22, L_22, R_22⟩, ck_22, cm_22⟩, e_22, h⟩ := Option.bind_eq_some_iff.mp h
          dsimp only at h
          obtain ⟨mk_22, ms_22, h, ek_22, em_22⟩ := adk_some h
          refine q_gv1V (a_120 X hS_10 (d := d - 1) (by omega) e_22) (by omega) (by omega) (by omega) rfl (Nat.le_of_ble_eq_true rfl) ⟨(zl hS_10 24 (by decide)), congrArg Prod.fst (sk hS_10 24 (by decide) rfl), by decide⟩ ?_
          have hS_22 := s_120 hS_10 e_22
          refine q_iload rfl ?_
          refine q_tsw (fun c_26 => ?_) (fun j t c_26 ht => ?_)
          · rw [if_neg (sw_ne c_26 (by decide) (by decide)), if_neg (sw_ne c_26 (by decide) (by decide)), if_neg (sw_ne c_26 (by decide) (by decide))] at h
            refine K_of b_137_84 h_137_84 ?_
            refine q_aload rfl ?_
            refine q_getRs (c0 := 11) (j := 3) rfl rfl (zl hS_22 0 (by decide)) (sk hS_22 0 (by decide) rfl) rfl (by decide) (r_0_3 hS_22) ?_
            obtain ⟨d_88, h⟩ := ite_some h
            obtain ⟨⟨x_88, I_88, L_88⟩, e_88, h⟩ := Option.bind_eq_some_iff.mp h
            dsimp only at h
            refine q_fv1I (a_143 X hS_22 (d := d - 1) (by omega) e_88) (by omega) (by omega) (by omega) rfl (Nat.le_of_ble_eq_true rfl) ⟨(zl hS_22 24 (by decide)), congrArg Prod.fst (sk hS_22 24 (by decide) rfl), by decide⟩ ?_
            cases h
            exact q_iret rfl (by omega) (by omega) ⟨rfl, rfl⟩
          · match j, ht with
            | 0, ht =>
              cases ht
              rw [if_pos (sw_eq c_26 (by decide))] at h
              refine K_of b_137_52 h_137_52 ?_
              refine q_aload rfl ?_
              refine q_getRs (c0 := 11) (j := 3) rfl rfl (zl hS_22 0 (by decide)) (sk hS_22 0 (by decide) rfl) rfl (by decide) (r_0_3 hS_22) ?_
              obtain ⟨d_56, h⟩ := ite_some h
              obtain ⟨⟨x_56, I_56, L_56⟩, e_56, h⟩ := Option.bind_eq_some_iff.mp h
              dsimp only at h
              refine q_fv1I (a_138 X hS_22 (d := d - 1) (by omega) e_56) (by omega) (by omega) (by omega) rfl (Nat.le_of_ble_eq_true rfl) ⟨(zl hS_22 24 (by decide)), congrArg Prod.fst (sk hS_22 24 (by decide) rfl), by decide⟩ ?_
              cases h
              exact q_iret rfl (by omega) (by omega) ⟨rfl, rfl⟩
            | 1, ht =>
              cases ht
              rw [if_neg (sw_nq c_26 (by decide)), if_pos (sw_eq c_26 (by decide))] at h
              refine K_of b_137_60 h_137_60 ?_
              refine q_aload rfl ?_
              refine q_getRs (c0 := 11) (j := 3) rfl rfl (zl hS_22 0 (by decide)) (sk hS_22 0 (by decide) rfl) rfl (by decide) (r_0_3 hS_22) ?_
              obtain ⟨d_64, h⟩ := ite_some h
              obtain ⟨⟨x_64, I_64, L_64⟩, e_64, h⟩ := Option.bind_eq_some_iff.mp h
              dsimp only at h
              refine q_fv1I (a_117 X hS_22 (d := d - 1) (by omega) e_64) (by omega) (by omega) (by omega) rfl (Nat.le_of_ble_eq_true rfl) ⟨(zl hS_22 24 (by decide)), congrArg Prod.fst (sk hS_22 24 (by decide) rfl), by decide⟩ ?_
              refine q_aload rfl ?_
              refine q_getRs (c0 := 11) (j := 3) rfl rfl (zl hS_22 0 (by decide)) (sk hS_22 0 (by decide) rfl) rfl (by decide) (r_0_3 hS_22) ?_
              obtain ⟨d_71, h⟩ := ite_some h
              obtain ⟨⟨x_71, I_71, L_71⟩, e_71, h⟩ := Option.bind_eq_some_iff.mp h
              dsimp only at h
              refine q_fv1I (a_138 X hS_22 (d := d - 1) (by omega) e_71) (by omega) (by omega) (by omega) rfl (Nat.le_of_ble_eq_true rfl) ⟨(zl hS_22 24 (by decide)), congrArg Prod.fst (sk hS_22 24 (by decide) rfl), by decide⟩ ?_
              refine q_isub ?_
              cases h
              exact q_iret rfl (by omega) (by omega) ⟨rfl, rfl⟩
            | 2, ht =>
              cases ht
              rw [if_neg (sw_nq c_26 (by decide)), if_neg (sw_nq c_26 (by decide)), if_pos (sw_eq c_26 (by decide))] at h
              refine K_of b_137_76 h_137_76 ?_
              refine q_aload rfl ?_
              refine q_getRs (c0 := 11) (j := 3) rfl rfl (zl hS_22 0 (by decide)) (sk hS_22 0 (by decide) rfl) rfl (by decide) (r_0_3 hS_22) ?_
              obtain ⟨d_80, h⟩ := ite_some h
              obtain ⟨⟨x_80, I_80, L_80⟩, e_80, h⟩ := Option.bind_eq_some_iff.mp h
              dsimp only at h
              refine q_fv1I (a_142 X hS_22 (d := d - 1) (by omega) e_80) (by omega) (by omega) (by omega) rfl (Nat.le_of_ble_eq_true rfl) ⟨(zl hS_22 24 (by decide)), congrArg Prod.fst (sk hS_22 24 (by decide) rfl), by decide⟩ ?_
              cases h
              exact q_iret rfl (by omega) (by omega) ⟨rfl, rfl⟩
            | j + 3, ht => simp at ht
        · rw [if_pos c_13] at h
          refine q_end ?_
          refine K_of b_137_16 h_137_16 ?_
          refine q_iconst (-1) (by decide) ?_
          cases h
          exact q_iret rfl (by omega) (by omega) ⟨rfl, rfl⟩
set_option maxHeartbeats 8000000 in
set_option maxRecDepth 100000 in
theorem t_137 : ∀ (n dp : Nat) (z : Nat) (kd : (Nat → Nat × Nat)) (I : (Nat → Nat → Int32)) (L : (Nat → Nat → Int64)) (R : (Nat → Nat → Option Nat)), Sh z kd R → ∀ (i1 : Int32) (r : Int32) (z1 : Nat) (kd1 : (Nat → Nat × Nat)) (I1 : (Nat → Nat → Int32)) (L1 : (Nat → Nat → Int64)) (R1 : (Nat → Nat → Option Nat)) (k1 m1 : Nat), (g_137 n dp 0 z kd I L R i1 = some ((r, z1, kd1, I1, L1, R1), k1, m1) → Sh z1 kd1 R1) := by
  intro n
  induction n with
  | zero => intro dp z kd I L R hS i1 r z1 kd1 I1 L1 R1 k1 m1; exact fun h => by cases h
  | succ n ih =>
    intro dp z kd I L R hS i1 r z1 kd1 I1 L1 R1 k1 m1
    · intro h
      rw [e_137_0] at h
      obtain ⟨d_3, h⟩ := ite_some h
      obtain ⟨⟨x_3, I_3, L_3⟩, e_3, h⟩ := Option.bind_eq_some_iff.mp h
      dsimp only at h
      by_cases c_6 : x_3 = 0
      · rw [if_pos c_6] at h
        cases h
        exact hS
      · rw [if_neg c_6] at h
        obtain ⟨d_10, h⟩ := ite_some h
        obtain ⟨⟨⟨x_10, z_10, kd_10, I_10, L_10, R_10⟩, ck_10, cm_10⟩, e_10, h⟩ := Option.bind_eq_some_iff.mp h
        dsimp only at h
        obtain ⟨mk_10, ms_10, h, ek_10, em_10⟩ := adk_some h
        have hS_10 := s_91 hS e_10
        by_cases c_13 : x_10 = 0
        · rw [if_pos c_13] at h
          cases h
          exact hS_10
        · rw [if_neg c_13] at h
          obtain ⟨d_22, h⟩ := ite_some h
          obtain ⟨⟨⟨z_22, kd_22, I_22, L_22, R_22⟩, ck_22, cm_22⟩, e_22, h⟩ := Option.bind_eq_some_iff.mp h
          dsimp only at h
          obtain ⟨mk_22, ms_22, h, ek_22, em_22⟩ := adk_some h
          have hS_22 := s_120 hS_10 e_22
          by_cases c_26_0 : i1 = (0 : Int32)
          · rw [if_pos c_26_0] at h
            obtain ⟨d_56, h⟩ := ite_some h
            obtain ⟨⟨x_56, I_56, L_56⟩, e_56, h⟩ := Option.bind_eq_some_iff.mp h
            dsimp only at h
            cases h
            exact hS_22
          rw [if_neg c_26_0] at h
          by_cases c_26_1 : i1 = (1 : Int32)
          · rw [if_pos c_26_1] at h
            obtain ⟨d_64, h⟩ := ite_some h
            obtain ⟨⟨x_64, I_64, L_64⟩, e_64, h⟩ := Option.bind_eq_some_iff.mp h
            dsimp only at h
            obtain ⟨d_71, h⟩ := ite_some h
            obtain ⟨⟨x_71, I_71, L_71⟩, e_71, h⟩ := Option.bind_eq_some_iff.mp h
            dsimp only at h
            cases h
            exact hS_22
          rw [if_neg c_26_1] at h
          by_cases c_26_2 : i1 = (2 : Int32)
          · rw [if_pos c_26_2] at h
            obtain ⟨d_80, h⟩ := ite_some h
            obtain ⟨⟨x_80, I_80, L_80⟩, e_80, h⟩ := Option.bind_eq_some_iff.mp h
            dsimp only at h
            cases h
            exact hS_22
          rw [if_neg c_26_2] at h
          obtain ⟨d_88, h⟩ := ite_some h
          obtain ⟨⟨x_88, I_88, L_88⟩, e_88, h⟩ := Option.bind_eq_some_iff.mp h
          dsimp only at h
          cases h
          exact hS_22
theorem a_137 (X : GX) {z : Nat} {kd : (Nat → Nat × Nat)} {I : (Nat → Nat → Int32)} {L : (Nat → Nat → Int64)} {R : (Nat → Nat → Option Nat)} (hS : Sh z kd R) {n dp d : Nat} (hd : dp ≤ d) {i1 : Int32} {r : Int32} {z1 : Nat} {kd1 : (Nat → Nat × Nat)} {I1 : (Nat → Nat → Int32)} {L1 : (Nat → Nat → Int64)} {R1 : (Nat → Nat → Option Nat)} {k1 m1 : Nat} (h : g_137 n dp 0 z kd I L R i1 = some ((r, z1, kd1, I1, L1, R1), k1, m1)) : Ct X d 137 k1 m1 [.ref 0, .int i1] (z, kd, I, L, R) (AI (fun x τ => x = r ∧ τ = (z1, kd1, I1, L1, R1))) :=
  Ct_of mu_137 (Nat.le_of_ble_eq_true rfl) ((w_137 X n dp d hd z kd I L R hS i1 _ _ _ _ _ _ _ _) h k1 m1 0 0 (by omega) (by omega))
theorem s_137 {z : Nat} {kd : (Nat → Nat × Nat)} {I : (Nat → Nat → Int32)} {L : (Nat → Nat → Int64)} {R : (Nat → Nat → Option Nat)} (hS : Sh z kd R) {n dp : Nat} {i1 : Int32} {r : Int32} {z1 : Nat} {kd1 : (Nat → Nat × Nat)} {I1 : (Nat → Nat → Int32)} {L1 : (Nat → Nat → Int64)} {R1 : (Nat → Nat → Option Nat)} {k1 m1 : Nat} (h : g_137 n dp 0 z kd I L R i1 = some ((r, z1, kd1, I1, L1, R1), k1, m1)) : Sh z1 kd1 R1 := (t_137 n dp z kd I L R hS i1 _ _ _ _ _ _ _ _) h

/-! 144 CutFloor.task(I)I -/
set_option maxHeartbeats 4000000 in
set_option maxRecDepth 100000 in
def g_144 : Nat → Nat → Nat → Nat → (Nat → Nat × Nat) → (Nat → Nat → Int32) → (Nat → Nat → Int64) → (Nat → Nat → Option Nat) → Int32 →  Option ((Int32 × PS) × Nat × Nat)
  | 0, _, _, _, _, _, _, _, _ => none
  | n + 1, dp, lab, z, kd, I, L, R, i1 =>
    if lab = 0 then ((R 1 7).bind (fun b_6 => (if b_6 < z ∧ (kd b_6).1 = 10 then (if 1 ≤ dp then (g_14 n (dp - 1) (z, kd, R) 0 I L i1 (-1 : Int32) ((I b_6 11) - (1 : Int32))).bind (fun ⟨x_14, I_14, L_14⟩ => (if x_14 = 0 then (some (((-1 : Int32), z, kd, I_14, L_14, R), 0, 0)) else (if 1 ≤ dp then (g_91 n (dp - 1) 0 z kd I_14 L_14 R).bind (fun ⟨⟨x_21, z_21, kd_21, I_21, L_21, R_21⟩, ck_21, cm_21⟩ => (adk ck_21 cm_21 (if x_21 = 0 then (some (((-1 : Int32), z_21, kd_21, I_21, L_21, R_21), 0, 0)) else (if 1 ≤ dp then (g_120 n (dp - 1) 0 z_21 kd_21 I_21 L_21 R_21 0 0 0 0).bind (fun ⟨⟨z_33, kd_33, I_33, L_33, R_33⟩, ck_33, cm_33⟩ => (adk ck_33 cm_33 (if 1 ≤ dp then (g_145 n (dp - 1) (z_33, kd_33, R_33) 0 I_33 L_33 0 0).bind (fun ⟨I_40, L_40⟩ => (if i1 = (-1 : Int32) then (some (((I_40 73 11), z_33, kd_33, I_40, L_40, R_33), 0, 0)) else (if 0 ≤ i1 ∧ (Int32.toNatClampNeg i1) < 16 then (some (((I_40 74 (Int32.toNatClampNeg i1)), z_33, kd_33, I_40, L_40, R_33), 0, 0)) else none))) else none))) else none)))) else none))) else none) else none)))
    else none
set_option maxRecDepth 100000 in
theorem e_144_0 (n dp : Nat) (z : Nat) (kd : (Nat → Nat × Nat)) (I : (Nat → Nat → Int32)) (L : (Nat → Nat → Int64)) (R : (Nat → Nat → Option Nat)) (i1 : Int32) : g_144 (n + 1) dp 0 z kd I L R i1 = ((R 1 7).bind (fun b_6 => (if b_6 < z ∧ (kd b_6).1 = 10 then (if 1 ≤ dp then (g_14 n (dp - 1) (z, kd, R) 0 I L i1 (-1 : Int32) ((I b_6 11) - (1 : Int32))).bind (fun ⟨x_14, I_14, L_14⟩ => (if x_14 = 0 then (some (((-1 : Int32), z, kd, I_14, L_14, R), 0, 0)) else (if 1 ≤ dp then (g_91 n (dp - 1) 0 z kd I_14 L_14 R).bind (fun ⟨⟨x_21, z_21, kd_21, I_21, L_21, R_21⟩, ck_21, cm_21⟩ => (adk ck_21 cm_21 (if x_21 = 0 then (some (((-1 : Int32), z_21, kd_21, I_21, L_21, R_21), 0, 0)) else (if 1 ≤ dp then (g_120 n (dp - 1) 0 z_21 kd_21 I_21 L_21 R_21 0 0 0 0).bind (fun ⟨⟨z_33, kd_33, I_33, L_33, R_33⟩, ck_33, cm_33⟩ => (adk ck_33 cm_33 (if 1 ≤ dp then (g_145 n (dp - 1) (z_33, kd_33, R_33) 0 I_33 L_33 0 0).bind (fun ⟨I_40, L_40⟩ => (if i1 = (-1 : Int32) then (some (((I_40 73 11), z_33, kd_33, I_40, L_40, R_33), 0, 0)) else (if 0 ≤ i1 ∧ (Int32.toNatClampNeg i1) < 16 then (some (((I_40 74 (Int32.toNatClampNeg i1)), z_33, kd_33, I_40, L_40, R_33), 0, 0)) else none))) else none))) else none)))) else none))) else none) else none))) := by rw [g_144.eq_2, if_pos (show (0 : Nat) = 0 from rfl)]
set_option maxHeartbeats 8000000 in
set_option maxRecDepth 100000 in
theorem w_144 (X : GX) : ∀ (n dp d : Nat), dp ≤ d → ∀ (z : Nat) (kd : (Nat → Nat × Nat)) (I : (Nat → Nat → Int32)) (L : (Nat → Nat → Int64)) (R : (Nat → Nat → Option Nat)), Sh z kd R → ∀ (i1 : Int32) (r : Int32) (z1 : Nat) (kd1 : (Nat → Nat × Nat)) (I1 : (Nat → Nat → Int32)) (L1 : (Nat → Nat → Int64)) (R1 : (Nat → Nat → Option Nat)) (k1 m1 : Nat), (g_144 n dp 0 z kd I L R i1 = some ((r, z1, kd1, I1, L1, R1), k1, m1) → ∀ MC MS k m : Nat, k + k1 ≤ MC → m + m1 ≤ MS → K X d 144 MC MS (AI (fun x τ => x = r ∧ τ = (z1, kd1, I1, L1, R1))) 0 [some (.ref 0), some (.int i1)] [] (z, kd, I, L, R) k m) := by
  intro n
  induction n with
  | zero => intro dp d hdp z kd I L R hS  i1 r z1 kd1 I1 L1 R1 k1 m1; exact fun h => by cases h
  | succ n ih =>
    intro dp d hdp z kd I L R hS  i1 r z1 kd1 I1 L1 R1 k1 m1
    · intro h MC MS k m hMC hMS
      rw [e_144_0] at h
      refine K_of b_144_0 h_144_0 ?_
      refine q_iload rfl ?_
      refine q_iconst (-1) (by decide) ?_
      refine q_aload rfl ?_
      refine q_getRs (c0 := 11) (j := 0) rfl rfl (zl hS 0 (by decide)) (sk hS 0 (by decide) rfl) rfl (by decide) (r_0_0 hS) ?_
      obtain ⟨b_6, r_6, h⟩ := Option.bind_eq_some_iff.mp h
      refine q_getRs (c0 := 3) (j := 7) rfl rfl (zl hS 1 (by decide)) (sk hS 1 (by decide) rfl) rfl (by decide) r_6 ?_
      obtain ⟨⟨z_9, k_9⟩, h⟩ := ite_some h
      refine q_getI (c0 := 10) (j := 11) rfl rfl z_9 (fst_eq k_9) (Or.inl rfl) (by decide) ?_
      refine q_iconst (1) (by decide) ?_
      refine q_isub ?_
      obtain ⟨d_14, h⟩ := ite_some h
      obtain ⟨⟨x_14, I_14, L_14⟩, e_14, h⟩ := Option.bind_eq_some_iff.mp h
      dsimp only at h
      refine q_fs3I (a_14 X hS (d := d - 1) (by omega) e_14) (by omega) (by omega) (by omega) rfl (Nat.le_of_ble_eq_true rfl) ?_
      refine q_if_eq (fun c_17 => ?_) (fun c_17 => ?_)
      · rw [if_pos c_17] at h
        refine K_of b_144_27 h_144_27 ?_
        refine q_iconst (-1) (by decide) ?_
        cases h
        exact q_iret rfl (by omega) (by omega) ⟨rfl, rfl⟩
      · rw [if_neg c_17] at h
        refine q_aload rfl ?_
        obtain ⟨d_21, h⟩ := ite_some h
        obtain ⟨⟨⟨x_21, z_21, kd_21, I_21, L_21, R_21⟩, ck_21, cm_21⟩, e_21, h⟩ := Option.bind_eq_some_iff.mp h
        dsimp only at h
        obtain ⟨mk_21, ms_21, h, ek_21, em_21⟩ := adk_some h
        refine q_gv1I (a_91 X hS (d := d - 1) (by omega) e_21) (by omega) (by omega) (by omega) rfl (Nat.le_of_ble_eq_true rfl) ⟨(zl hS 0 (by decide)), congrArg Prod.fst (sk hS 0 (by decide) rfl), by decide⟩ ?_
        have hS_21 := s_91 hS e_21
        refine q_if_ne (fun c_24 => ?_) (fun c_24 => ?_)
        · rw [if_neg c_24] at h
          refine K_of b_144_29 h_144_29 ?_
          refine q_aload rfl ?_
          refine q_getRs (c0 := 11) (j := 3) rfl rfl (zl hS_21 0 (by decide)) (sk hS_21 0 (by decide) rfl) rfl (by decide) (r_0_3 hS_21) ?_
          obtain ⟨d_33, h⟩ := ite_some h
          obtain ⟨⟨⟨z_33, kd_33, I_33, L_33, R_33⟩, ck_33, cm_33⟩, e_33, h⟩ := Option.bind_eq_some_iff.mp h
          dsimp only at h
          obtain ⟨mk_33, ms_33, h, ek_33, em_33⟩ := adk_some h
          refine q_gv1V (a_120 X hS_21 (d := d - 1) (by omega) e_33) (by omega) (by omega) (by omega) rfl (Nat.le_of_ble_eq_true rfl) ⟨(zl hS_21 24 (by decide)), congrArg Prod.fst (sk hS_21 24 (by decide) rfl), by decide⟩ ?_
          have hS_33 := s_120 hS_21 e_33
          refine q_aload rfl ?_
          refine q_getRs (c0 := 11) (j := 4) rfl rfl (zl hS_33 0 (by decide)) (sk hS_33 0 (by decide) rfl) rfl (by decide) (r_0_4 hS_33) ?_
          obtain ⟨d_40, h⟩ := ite_some h
          obtain ⟨⟨I_40, L_40⟩, e_40, h⟩ := Option.bind_eq_some_iff.mp h
          dsimp only at h
          refine q_fv1V (a_145 X hS_33 (d := d - 1) (by omega) e_40) (by omega) (by omega) (by omega) rfl (Nat.le_of_ble_eq_true rfl) ⟨(zl hS_33 73 (by decide)), congrArg Prod.fst (sk hS_33 73 (by decide) rfl), by decide⟩ ?_
          refine q_iload rfl ?_
          refine q_iconst (-1) (by decide) ?_
          refine q_icmp_ne (fun c_45 => ?_) (fun c_45 => ?_)
          · rw [if_neg c_45] at h
            refine K_of b_144_58 h_144_58 ?_
            refine q_aload rfl ?_
            refine q_getRs (c0 := 11) (j := 4) rfl rfl (zl hS_33 0 (by decide)) (sk hS_33 0 (by decide) rfl) rfl (by decide) (r_0_4 hS_33) ?_
            refine q_getRs (c0 := 1) (j := 3) rfl rfl (zl hS_33 73 (by decide)) (sk hS_33 73 (by decide) rfl) rfl (by decide) (r_73_3 hS_33) ?_
            refine q_iload rfl ?_
            obtain ⟨⟨u_66, v_66⟩, h⟩ := ite_some h
            refine q_ialN (Int32.toNatClampNeg i1) (nx u_66) (zl hS_33 74 (by decide)) (sk hS_33 74 (by decide) rfl) v_66 (by decide) ?_
            refine q_end ?_
            refine K_of b_144_67 h_144_67 ?_
            cases h
            exact q_iret rfl (by omega) (by omega) ⟨rfl, rfl⟩
          · rw [if_pos c_45] at h
            refine q_aload rfl ?_
            refine q_getRs (c0 := 11) (j := 4) rfl rfl (zl hS_33 0 (by decide)) (sk hS_33 0 (by decide) rfl) rfl (by decide) (r_0_4 hS_33) ?_
            refine q_getI (c0 := 1) (j := 11) rfl rfl (zl hS_33 73 (by decide)) (sk hS_33 73 (by decide) rfl) (Or.inl rfl) (by decide) ?_
            refine q_goto ?_
            refine K_of b_144_67 h_144_67 ?_
            cases h
            exact q_iret rfl (by omega) (by omega) ⟨rfl, rfl⟩
        · rw [if_pos c_24] at h
          refine q_end ?_
          refine K_of b_144_27 h_144_27 ?_
          refine q_iconst (-1) (by decide) ?_
          cases h
          exact q_iret rfl (by omega) (by omega) ⟨rfl, rfl⟩
set_option maxHeartbeats 8000000 in
set_option maxRecDepth 100000 in
theorem t_144 : ∀ (n dp : Nat) (z : Nat) (kd : (Nat → Nat × Nat)) (I : (Nat → Nat → Int32)) (L : (Nat → Nat → Int64)) (R : (Nat → Nat → Option Nat)), Sh z kd R → ∀ (i1 : Int32) (r : Int32) (z1 : Nat) (kd1 : (Nat → Nat × Nat)) (I1 : (Nat → Nat → Int32)) (L1 : (Nat → Nat → Int64)) (R1 : (Nat → Nat → Option Nat)) (k1 m1 : Nat), (g_144 n dp 0 z kd I L R i1 = some ((r, z1, kd1, I1, L1, R1), k1, m1) → Sh z1 kd1 R1) := by
  intro n
  induction n with
  | zero => intro dp z kd I L R hS i1 r z1 kd1 I1 L1 R1 k1 m1; exact fun h => by cases h
  | succ n ih =>
    intro dp z kd I L R hS i1 r z1 kd1 I1 L1 R1 k1 m1
    · intro h
      rw [e_144_0] at h
      obtain ⟨b_6, r_6, h⟩ := Option.bind_eq_some_iff.mp h
      obtain ⟨⟨z_9, k_9⟩, h⟩ := ite_some h
      obtain ⟨d_14, h⟩ := ite_some h
      obtain ⟨⟨x_14, I_14, L_14⟩, e_14, h⟩ := Option.bind_eq_some_iff.mp h
      dsimp only at h
      by_cases c_17 : x_14 = 0
      · rw [if_pos c_17] at h
        cases h
        exact hS
      · rw [if_neg c_17] at h
        obtain ⟨d_21, h⟩ := ite_some h
        obtain ⟨⟨⟨x_21, z_21, kd_21, I_21, L_21, R_21⟩, ck_21, cm_21⟩, e_21, h⟩ := Option.bind_eq_some_iff.mp h
        dsimp only at h
        obtain ⟨mk_21, ms_21, h, ek_21, em_21⟩ := adk_some h
        have hS_21 := s_91 hS e_21
        by_cases c_24 : x_21 = 0
        · rw [if_pos c_24] at h
          cases h
          exact hS_21
        · rw [if_neg c_24] at h
          obtain ⟨d_33, h⟩ := ite_some h
          obtain ⟨⟨⟨z_33, kd_33, I_33, L_33, R_33⟩, ck_33, cm_33⟩, e_33, h⟩ := Option.bind_eq_some_iff.mp h
          dsimp only at h
          obtain ⟨mk_33, ms_33, h, ek_33, em_33⟩ := adk_some h
          have hS_33 := s_120 hS_21 e_33
          obtain ⟨d_40, h⟩ := ite_some h
          obtain ⟨⟨I_40, L_40⟩, e_40, h⟩ := Option.bind_eq_some_iff.mp h
          dsimp only at h
          by_cases c_45 : i1 = (-1 : Int32)
          · rw [if_pos c_45] at h
            cases h
            exact hS_33
          · rw [if_neg c_45] at h
            obtain ⟨⟨u_66, v_66⟩, h⟩ := ite_some h
            cases h
            exact hS_33
theorem a_144 (X : GX) {z : Nat} {kd : (Nat → Nat × Nat)} {I : (Nat → Nat → Int32)} {L : (Nat → Nat → Int64)} {R : (Nat → Nat → Option Nat)} (hS : Sh z kd R) {n dp d : Nat} (hd : dp ≤ d) {i1 : Int32} {r : Int32} {z1 : Nat} {kd1 : (Nat → Nat × Nat)} {I1 : (Nat → Nat → Int32)} {L1 : (Nat → Nat → Int64)} {R1 : (Nat → Nat → Option Nat)} {k1 m1 : Nat} (h : g_144 n dp 0 z kd I L R i1 = some ((r, z1, kd1, I1, L1, R1), k1, m1)) : Ct X d 144 k1 m1 [.ref 0, .int i1] (z, kd, I, L, R) (AI (fun x τ => x = r ∧ τ = (z1, kd1, I1, L1, R1))) :=
  Ct_of mu_144 (Nat.le_of_ble_eq_true rfl) ((w_144 X n dp d hd z kd I L R hS i1 _ _ _ _ _ _ _ _) h k1 m1 0 0 (by omega) (by omega))
theorem s_144 {z : Nat} {kd : (Nat → Nat × Nat)} {I : (Nat → Nat → Int32)} {L : (Nat → Nat → Int64)} {R : (Nat → Nat → Option Nat)} (hS : Sh z kd R) {n dp : Nat} {i1 : Int32} {r : Int32} {z1 : Nat} {kd1 : (Nat → Nat × Nat)} {I1 : (Nat → Nat → Int32)} {L1 : (Nat → Nat → Int64)} {R1 : (Nat → Nat → Option Nat)} {k1 m1 : Nat} (h : g_144 n dp 0 z kd I L R i1 = some ((r, z1, kd1, I1, L1, R1), k1, m1)) : Sh z1 kd1 R1 := (t_144 n dp z kd I L R hS i1 _ _ _ _ _ _ _ _) h

/-! 147 CutFloor.share(I)I -/
set_option maxHeartbeats 4000000 in
set_option maxRecDepth 100000 in
def g_147 : Nat → Nat → Nat → Nat → (Nat → Nat × Nat) → (Nat → Nat → Int32) → (Nat → Nat → Int64) → (Nat → Nat → Option Nat) → Int32 →  Option ((Int32 × PS) × Nat × Nat)
  | 0, _, _, _, _, _, _, _, _ => none
  | n + 1, dp, lab, z, kd, I, L, R, i1 =>
    if lab = 0 then ((R 1 7).bind (fun b_6 => (if b_6 < z ∧ (kd b_6).1 = 10 then (if 1 ≤ dp then (g_14 n (dp - 1) (z, kd, R) 0 I L i1 (-1 : Int32) ((I b_6 11) - (1 : Int32))).bind (fun ⟨x_14, I_14, L_14⟩ => (if x_14 = 0 then (some (((-1 : Int32), z, kd, I_14, L_14, R), 0, 0)) else (if 1 ≤ dp then (g_91 n (dp - 1) 0 z kd I_14 L_14 R).bind (fun ⟨⟨x_21, z_21, kd_21, I_21, L_21, R_21⟩, ck_21, cm_21⟩ => (adk ck_21 cm_21 (if x_21 = 0 then (some (((-1 : Int32), z_21, kd_21, I_21, L_21, R_21), 0, 0)) else (if 1 ≤ dp then (g_120 n (dp - 1) 0 z_21 kd_21 I_21 L_21 R_21 0 0 0 0).bind (fun ⟨⟨z_33, kd_33, I_33, L_33, R_33⟩, ck_33, cm_33⟩ => (adk ck_33 cm_33 (if 1 ≤ dp then (g_145 n (dp - 1) (z_33, kd_33, R_33) 0 I_33 L_33 0 0).bind (fun ⟨I_40, L_40⟩ => (if 1 ≤ dp then (g_148 n (dp - 1) (z_33, kd_33, R_33) 0 I_40 L_40).bind (fun ⟨I_47, L_47⟩ => (if i1 = (-1 : Int32) then (some (((I_47 73 12), z_33, kd_33, I_47, L_47, R_33), 0, 0)) else (if 0 ≤ i1 ∧ (Int32.toNatClampNeg i1) < 16 then (some (((I_47 76 (Int32.toNatClampNeg i1)), z_33, kd_33, I_47, L_47, R_33), 0, 0)) else none))) else none)) else none))) else none)))) else none))) else none) else none)))
    else none
set_option maxRecDepth 100000 in
theorem e_147_0 (n dp : Nat) (z : Nat) (kd : (Nat → Nat × Nat)) (I : (Nat → Nat → Int32)) (L : (Nat → Nat → Int64)) (R : (Nat → Nat → Option Nat)) (i1 : Int32) : g_147 (n + 1) dp 0 z kd I L R i1 = ((R 1 7).bind (fun b_6 => (if b_6 < z ∧ (kd b_6).1 = 10 then (if 1 ≤ dp then (g_14 n (dp - 1) (z, kd, R) 0 I L i1 (-1 : Int32) ((I b_6 11) - (1 : Int32))).bind (fun ⟨x_14, I_14, L_14⟩ => (if x_14 = 0 then (some (((-1 : Int32), z, kd, I_14, L_14, R), 0, 0)) else (if 1 ≤ dp then (g_91 n (dp - 1) 0 z kd I_14 L_14 R).bind (fun ⟨⟨x_21, z_21, kd_21, I_21, L_21, R_21⟩, ck_21, cm_21⟩ => (adk ck_21 cm_21 (if x_21 = 0 then (some (((-1 : Int32), z_21, kd_21, I_21, L_21, R_21), 0, 0)) else (if 1 ≤ dp then (g_120 n (dp - 1) 0 z_21 kd_21 I_21 L_21 R_21 0 0 0 0).bind (fun ⟨⟨z_33, kd_33, I_33, L_33, R_33⟩, ck_33, cm_33⟩ => (adk ck_33 cm_33 (if 1 ≤ dp then (g_145 n (dp - 1) (z_33, kd_33, R_33) 0 I_33 L_33 0 0).bind (fun ⟨I_40, L_40⟩ => (if 1 ≤ dp then (g_148 n (dp - 1) (z_33, kd_33, R_33) 0 I_40 L_40).bind (fun ⟨I_47, L_47⟩ => (if i1 = (-1 : Int32) then (some (((I_47 73 12), z_33, kd_33, I_47, L_47, R_33), 0, 0)) else (if 0 ≤ i1 ∧ (Int32.toNatClampNeg i1) < 16 then (some (((I_47 76 (Int32.toNatClampNeg i1)), z_33, kd_33, I_47, L_47, R_33), 0, 0)) else none))) else none)) else none))) else none)))) else none))) else none) else none))) := by rw [g_147.eq_2, if_pos (show (0 : Nat) = 0 from rfl)]
set_option maxHeartbeats 8000000 in
set_option maxRecDepth 100000 in
theorem w_147 (X : GX) : ∀ (n dp d : Nat), dp ≤ d → ∀ (z : Nat) (kd : (Nat → Nat × Nat)) (I : (Nat → Nat → Int32)) (L : (Nat → Nat → Int64)) (R : (Nat → Nat → Option Nat)), Sh z kd R → ∀ (i1 : Int32) (r : Int32) (z1 : Nat) (kd1 : (Nat → Nat × Nat)) (I1 : (Nat → Nat → Int32)) (L1 : (Nat → Nat → Int64)) (R1 : (Nat → Nat → Option Nat)) (k1 m1 : Nat), (g_147 n dp 0 z kd I L R i1 = some ((r, z1, kd1, I1, L1, R1), k1, m1) → ∀ MC MS k m : Nat, k + k1 ≤ MC → m + m1 ≤ MS → K X d 147 MC MS (AI (fun x τ => x = r ∧ τ = (z1, kd1, I1, L1, R1))) 0 [some (.ref 0), some (.int i1)] [] (z, kd, I, L, R) k m) := by
  intro n
  induction n with
  | zero => intro dp d hdp z kd I L R hS  i1 r z1 kd1 I1 L1 R1 k1 m1; exact fun h => by cases h
  | succ n ih =>
    intro dp d hdp z kd I L R hS  i1 r z1 kd1 I1 L1 R1 k1 m1
    · intro h MC MS k m hMC hMS
      rw [e_147_0] at h
      refine K_of b_147_0 h_147_0 ?_
      refine q_iload rfl ?_
      refine q_iconst (-1) (by decide) ?_
      refine q_aload rfl ?_
      refine q_getRs (c0 := 11) (j := 0) rfl rfl (zl hS 0 (by decide)) (sk hS 0 (by decide) rfl) rfl (by decide) (r_0_0 hS) ?_
      obtain ⟨b_6, r_6, h⟩ := Option.bind_eq_some_iff.mp h
      refine q_getRs (c0 := 3) (j := 7) rfl rfl (zl hS 1 (by decide)) (sk hS 1 (by decide) rfl) rfl (by decide) r_6 ?_
      obtain ⟨⟨z_9, k_9⟩, h⟩ := ite_some h
      refine q_getI (c0 := 10) (j := 11) rfl rfl z_9 (fst_eq k_9) (Or.inl rfl) (by decide) ?_
      refine q_iconst (1) (by decide) ?_
      refine q_isub ?_
      obtain ⟨d_14, h⟩ := ite_some h
      obtain ⟨⟨x_14, I_14, L_14⟩, e_14, h⟩ := Option.bind_eq_some_iff.mp h
      dsimp only at h
      refine q_fs3I (a_14 X hS (d := d - 1) (by omega) e_14) (by omega) (by omega) (by omega) rfl (Nat.le_of_ble_eq_true rfl) ?_
      refine q_if_eq (fun c_17 => ?_) (fun c_17 => ?_)
      · rw [if_pos c_17] at h
        refine K_of b_147_27 h_147_27 ?_
        refine q_iconst (-1) (by decide) ?_
        cases h
        exact q_iret rfl (by omega) (by omega) ⟨rfl, rfl⟩
      · rw [if_neg c_17] at h
        refine q_aload rfl ?_
        obtain ⟨d_21, h⟩ := ite_some h
        obtain ⟨⟨⟨x_21, z_21, kd_21, I_21, L_21, R_21⟩, ck_21, cm_21⟩, e_21, h⟩ := Option.bind_eq_some_iff.mp h
        dsimp only at h
        obtain ⟨mk_21, ms_21, h, ek_21, em_21⟩ := adk_some h
        refine q_gv1I (a_91 X hS (d := d - 1) (by omega) e_21) (by omega) (by omega) (by omega) rfl (Nat.le_of_ble_eq_true rfl) ⟨(zl hS 0 (by decide)), congrArg Prod.fst (sk hS 0 (by decide) rfl), by decide⟩ ?_
        have hS_21 := s_91 hS e_21
        refine q_if_ne (fun c_24 => ?_) (fun c_24 => ?_)
        · rw [if_neg c_24] at h
          refine K_of b_147_29 h_147_29 ?_
          refine q_aload rfl ?_
          refine q_getRs (c0 := 11) (j := 3) rfl rfl (zl hS_21 0 (by decide)) (sk hS_21 0 (by decide) rfl) rfl (by decide) (r_0_3 hS_21) ?_
          obtain ⟨d_33, h⟩ := ite_some h
          obtain ⟨⟨⟨z_33, kd_33, I_33, L_33, R_33⟩, ck_33, cm_33⟩, e_33, h⟩ := Option.bind_eq_some_iff.mp h
          dsimp only at h
          obtain ⟨mk_33, ms_33, h, ek_33, em_33⟩ := adk_some h
          refine q_gv1V (a_120 X hS_21 (d := d - 1) (by omega) e_33) (by omega) (by omega) (by omega) rfl (Nat.le_of_ble_eq_true rfl) ⟨(zl hS_21 24 (by decide)), congrArg Prod.fst (sk hS_21 24 (by decide) rfl), by decide⟩ ?_
          have hS_33 := s_120 hS_21 e_33
          refine q_aload rfl ?_
          refine q_getRs (c0 := 11) (j := 4) rfl rfl (zl hS_33 0 (by decide)) (sk hS_33 0 (by decide) rfl) rfl (by decide) (r_0_4 hS_33) ?_
          obtain ⟨d_40, h⟩ := ite_some h
          obtain ⟨⟨I_40, L_40⟩, e_40, h⟩ := Option.bind_eq_some_iff.mp h
          dsimp only at h
          refine q_fv1V (a_145 X hS_33 (d := d - 1) (by omega) e_40) (by omega) (by omega) (by omega) rfl (Nat.le_of_ble_eq_true rfl) ⟨(zl hS_33 73 (by decide)), congrArg Prod.fst (sk hS_33 73 (by decide) rfl), by decide⟩ ?_
          refine q_aload rfl ?_
          refine q_getRs (c0 := 11) (j := 4) rfl rfl (zl hS_33 0 (by decide)) (sk hS_33 0 (by decide) rfl) rfl (by decide) (r_0_4 hS_33) ?_
          obtain ⟨d_47, h⟩ := ite_some h
          obtain ⟨⟨I_47, L_47⟩, e_47, h⟩ := Option.bind_eq_some_iff.mp h
          dsimp only at h
          refine q_fv1V (a_148 X hS_33 (d := d - 1) (by omega) e_47) (by omega) (by omega) (by omega) rfl (Nat.le_of_ble_eq_true rfl) ⟨(zl hS_33 73 (by decide)), congrArg Prod.fst (sk hS_33 73 (by decide) rfl), by decide⟩ ?_
          refine q_iload rfl ?_
          refine q_iconst (-1) (by decide) ?_
          refine q_icmp_ne (fun c_52 => ?_) (fun c_52 => ?_)
          · rw [if_neg c_52] at h
            refine K_of b_147_65 h_147_65 ?_
            refine q_aload rfl ?_
            refine q_getRs (c0 := 11) (j := 4) rfl rfl (zl hS_33 0 (by decide)) (sk hS_33 0 (by decide) rfl) rfl (by decide) (r_0_4 hS_33) ?_
            refine q_getRs (c0 := 1) (j := 5) rfl rfl (zl hS_33 73 (by decide)) (sk hS_33 73 (by decide) rfl) rfl (by decide) (r_73_5 hS_33) ?_
            refine q_iload rfl ?_
            obtain ⟨⟨u_73, v_73⟩, h⟩ := ite_some h
            refine q_ialN (Int32.toNatClampNeg i1) (nx u_73) (zl hS_33 76 (by decide)) (sk hS_33 76 (by decide) rfl) v_73 (by decide) ?_
            refine q_end ?_
            refine K_of b_147_74 h_147_74 ?_
            cases h
            exact q_iret rfl (by omega) (by omega) ⟨rfl, rfl⟩
          · rw [if_pos c_52] at h
            refine q_aload rfl ?_
            refine q_getRs (c0 := 11) (j := 4) rfl rfl (zl hS_33 0 (by decide)) (sk hS_33 0 (by decide) rfl) rfl (by decide) (r_0_4 hS_33) ?_
            refine q_getI (c0 := 1) (j := 12) rfl rfl (zl hS_33 73 (by decide)) (sk hS_33 73 (by decide) rfl) (Or.inl rfl) (by decide) ?_
            refine q_goto ?_
            refine K_of b_147_74 h_147_74 ?_
            cases h
            exact q_iret rfl (by omega) (by omega) ⟨rfl, rfl⟩
        · rw [if_pos c_24] at h
          refine q_end ?_
          refine K_of b_147_27 h_147_27 ?_
          refine q_iconst (-1) (by decide) ?_
          cases h
          exact q_iret rfl (by omega) (by omega) ⟨rfl, rfl⟩
set_option maxHeartbeats 8000000 in
set_option maxRecDepth 100000 in
theorem t_147 : ∀ (n dp : Nat) (z : Nat) (kd : (Nat → Nat × Nat)) (I : (Nat → Nat → Int32)) (L : (Nat → Nat → Int64)) (R : (Nat → Nat → Option Nat)), Sh z kd R → ∀ (i1 : Int32) (r : Int32) (z1 : Nat) (kd1 : (Nat → Nat × Nat)) (I1 : (Nat → Nat → Int32)) (L1 : (Nat → Nat → Int64)) (R1 : (Nat → Nat → Option Nat)) (k1 m1 : Nat), (g_147 n dp 0 z kd I L R i1 = some ((r, z1, kd1, I1, L1, R1), k1, m1) → Sh z1 kd1 R1) := by
  intro n
  induction n with
  | zero => intro dp z kd I L R hS i1 r z1 kd1 I1 L1 R1 k1 m1; exact fun h => by cases h
  | succ n ih =>
    intro dp z kd I L R hS i1 r z1 kd1 I1 L1 R1 k1 m1
    · intro h
      rw [e_147_0] at h
      obtain ⟨b_6, r_6, h⟩ := Option.bind_eq_some_iff.mp h
      obtain ⟨⟨z_9, k_9⟩, h⟩ := ite_some h
      obtain ⟨d_14, h⟩ := ite_some h
      obtain ⟨⟨x_14, I_14, L_14⟩, e_14, h⟩ := Option.bind_eq_some_iff.mp h
      dsimp only at h
      by_cases c_17 : x_14 = 0
      · rw [if_pos c_17] at h
        cases h
        exact hS
      · rw [if_neg c_17] at h
        obtain ⟨d_21, h⟩ := ite_some h
        obtain ⟨⟨⟨x_21, z_21, kd_21, I_21, L_21, R_21⟩, ck_21, cm_21⟩, e_21, h⟩ := Option.bind_eq_some_iff.mp h
        dsimp only at h
        obtain ⟨mk_21, ms_21, h, ek_21, em_21⟩ := adk_some h
        have hS_21 := s_91 hS e_21
        by_cases c_24 : x_21 = 0
        · rw [if_pos c_24] at h
          cases h
          exact hS_21
        · rw [if_neg c_24] at h
          obtain ⟨d_33, h⟩ := ite_some h
          obtain ⟨⟨⟨z_33, kd_33, I_33, L_33, R_33⟩, ck_33, cm_33⟩, e_33, h⟩ := Option.bind_eq_some_iff.mp h
          dsimp only at h
          obtain ⟨mk_33, ms_33, h, ek_33, em_33⟩ := adk_some h
          have hS_33 := s_120 hS_21 e_33
          obtain ⟨d_40, h⟩ := ite_some h
          obtain ⟨⟨I_40, L_40⟩, e_40, h⟩ := Option.bind_eq_some_iff.mp h
          dsimp only at h
          obtain ⟨d_47, h⟩ := ite_some h
          obtain ⟨⟨I_47, L_47⟩, e_47, h⟩ := Option.bind_eq_some_iff.mp h
          dsimp only at h
          by_cases c_52 : i1 = (-1 : Int32)
          · rw [if_pos c_52] at h
            cases h
            exact hS_33
          · rw [if_neg c_52] at h
            obtain ⟨⟨u_73, v_73⟩, h⟩ := ite_some h
            cases h
            exact hS_33
theorem a_147 (X : GX) {z : Nat} {kd : (Nat → Nat × Nat)} {I : (Nat → Nat → Int32)} {L : (Nat → Nat → Int64)} {R : (Nat → Nat → Option Nat)} (hS : Sh z kd R) {n dp d : Nat} (hd : dp ≤ d) {i1 : Int32} {r : Int32} {z1 : Nat} {kd1 : (Nat → Nat × Nat)} {I1 : (Nat → Nat → Int32)} {L1 : (Nat → Nat → Int64)} {R1 : (Nat → Nat → Option Nat)} {k1 m1 : Nat} (h : g_147 n dp 0 z kd I L R i1 = some ((r, z1, kd1, I1, L1, R1), k1, m1)) : Ct X d 147 k1 m1 [.ref 0, .int i1] (z, kd, I, L, R) (AI (fun x τ => x = r ∧ τ = (z1, kd1, I1, L1, R1))) :=
  Ct_of mu_147 (Nat.le_of_ble_eq_true rfl) ((w_147 X n dp d hd z kd I L R hS i1 _ _ _ _ _ _ _ _) h k1 m1 0 0 (by omega) (by omega))
theorem s_147 {z : Nat} {kd : (Nat → Nat × Nat)} {I : (Nat → Nat → Int32)} {L : (Nat → Nat → Int64)} {R : (Nat → Nat → Option Nat)} (hS : Sh z kd R) {n dp : Nat} {i1 : Int32} {r : Int32} {z1 : Nat} {kd1 : (Nat → Nat × Nat)} {I1 : (Nat → Nat → Int32)} {L1 : (Nat → Nat → Int64)} {R1 : (Nat → Nat → Option Nat)} {k1 m1 : Nat} (h : g_147 n dp 0 z kd I L R i1 = some ((r, z1, kd1, I1, L1, R1), k1, m1)) : Sh z1 kd1 R1 := (t_147 n dp z kd I L R hS i1 _ _ _ _ _ _ _ _) h

/-! 181 CutFloor.week(I)I -/
set_option maxHeartbeats 4000000 in
set_option maxRecDepth 100000 in
def g_181 : Nat → Nat → Nat → Nat → (Nat → Nat × Nat) → (Nat → Nat → Int32) → (Nat → Nat → Int64) → (Nat → Nat → Option Nat) → Int32 → Int32 → Int32 →  Option ((Int32 × PS) × Nat × Nat)
  | 0, _, _, _, _, _, _, _, _, _, _ => none
  | n + 1, dp, lab, z, kd, I, L, R, i1, i2, i3 =>
    if lab = 0 then (if 1 ≤ dp then (g_14 n (dp - 1) (z, kd, R) 0 I L i1 (0 : Int32) (1000000 : Int32)).bind (fun ⟨x_5, I_5, L_5⟩ => (if x_5 = 0 then (if 1 ≤ dp then (g_15 n (dp - 1) (z, kd, R) 0 I_5 L_5 (-1 : Int32)).bind (fun ⟨x_13, I_13, L_13⟩ => (some ((x_13, z, kd, I_13, L_13, R), 0, 0))) else none) else (if 1 ≤ dp then (g_182 n (dp - 1) (z, kd, R) 0 I_5 L_5 i1 0 0).bind (fun ⟨I_19, L_19⟩ => (if 1 ≤ dp then (g_81 n (dp - 1) (z, kd, R) 0 I_19 L_19 0 0 0 0).bind (fun ⟨I_26, L_26⟩ => (g_181 n dp 1 z kd I_26 L_26 R i1 (0 : Int32) (0 : Int32))) else none)) else none))) else none)
    else if lab = 1 then (if (5 : Int32) ≤ i3 then (if ((¬ (0 : Int32) < 0) ∧ (¬ (0 : Int32) < 0) ∧ (¬ (15 : Int32) < 0) ∧ (Int32.toNatClampNeg (0 : Int32)) + (Int32.toNatClampNeg (15 : Int32)) ≤ 15 ∧ (Int32.toNatClampNeg (0 : Int32)) + (Int32.toNatClampNeg (15 : Int32)) ≤ 15) ∧ 1 ≤ dp then (stI (va_up I 91 (va_cpy (I 90) (I 91) (Int32.toNatClampNeg (0 : Int32)) (Int32.toNatClampNeg (0 : Int32)) (Int32.toNatClampNeg (15 : Int32)))) (fun I_113 => (stI (u2 I_113 0 17 (1 : Int32)) (fun I_118 => (if 1 ≤ dp then (g_19 n (dp - 1) (z, kd, R) 0 I_118 L i2).bind (fun ⟨x_123, I_123, L_123⟩ => (some ((x_123, z, kd, I_123, L_123, R), 0, 0))) else none))))) else none) else (if 0 ≤ (i3 * (3 : Int32)) ∧ (Int32.toNatClampNeg (i3 * (3 : Int32))) < 15 then (if 0 ≤ ((i3 * (3 : Int32)) + (1 : Int32)) ∧ (Int32.toNatClampNeg ((i3 * (3 : Int32)) + (1 : Int32))) < 15 then (if 0 ≤ ((i3 * (3 : Int32)) + (2 : Int32)) ∧ (Int32.toNatClampNeg ((i3 * (3 : Int32)) + (2 : Int32))) < 15 then (if 1 ≤ dp then (g_92 n (dp - 1) 0 z kd I L R (I 90 (Int32.toNatClampNeg (i3 * (3 : Int32)))) (I 90 (Int32.toNatClampNeg ((i3 * (3 : Int32)) + (1 : Int32)))) (I 90 (Int32.toNatClampNeg ((i3 * (3 : Int32)) + (2 : Int32)))) 0).bind (fun ⟨⟨x_72, z_72, kd_72, I_72, L_72, R_72⟩, ck_72, cm_72⟩ => (adk ck_72 cm_72 (if x_72 = (-1 : Int32) then (if 1 ≤ dp then (g_15 n (dp - 1) (z_72, kd_72, R_72) 0 I_72 L_72 (-3 : Int32)).bind (fun ⟨x_86, I_86, L_86⟩ => (some ((x_86, z_72, kd_72, I_86, L_86, R_72), 0, 0))) else none) else (g_181 n dp 1 z_72 kd_72 I_72 L_72 R_72 i1 (i2 + x_72) (i3 + Int32.ofInt (1)))))) else none) else none) else none) else none))
    else none
set_option maxRecDepth 100000 in
theorem e_181_0 (n dp : Nat) (z : Nat) (kd : (Nat → Nat × Nat)) (I : (Nat → Nat → Int32)) (L : (Nat → Nat → Int64)) (R : (Nat → Nat → Option Nat)) (i1 : Int32) (i2 : Int32) (i3 : Int32) : g_181 (n + 1) dp 0 z kd I L R i1 i2 i3 = (if 1 ≤ dp then (g_14 n (dp - 1) (z, kd, R) 0 I L i1 (0 : Int32) (1000000 : Int32)).bind (fun ⟨x_5, I_5, L_5⟩ => (if x_5 = 0 then (if 1 ≤ dp then (g_15 n (dp - 1) (z, kd, R) 0 I_5 L_5 (-1 : Int32)).bind (fun ⟨x_13, I_13, L_13⟩ => (some ((x_13, z, kd, I_13, L_13, R), 0, 0))) else none) else (if 1 ≤ dp then (g_182 n (dp - 1) (z, kd, R) 0 I_5 L_5 i1 0 0).bind (fun ⟨I_19, L_19⟩ => (if 1 ≤ dp then (g_81 n (dp - 1) (z, kd, R) 0 I_19 L_19 0 0 0 0).bind (fun ⟨I_26, L_26⟩ => (g_181 n dp 1 z kd I_26 L_26 R i1 (0 : Int32) (0 : Int32))) else none)) else none))) else none) := by rw [g_181.eq_2, if_pos (show (0 : Nat) = 0 from rfl)]
set_option maxRecDepth 100000 in
theorem e_181_1 (n dp : Nat) (z : Nat) (kd : (Nat → Nat × Nat)) (I : (Nat → Nat → Int32)) (L : (Nat → Nat → Int64)) (R : (Nat → Nat → Option Nat)) (i1 : Int32) (i2 : Int32) (i3 : Int32) : g_181 (n + 1) dp 1 z kd I L R i1 i2 i3 = (if (5 : Int32) ≤ i3 then (if ((¬ (0 : Int32) < 0) ∧ (¬ (0 : Int32) < 0) ∧ (¬ (15 : Int32) < 0) ∧ (Int32.toNatClampNeg (0 : Int32)) + (Int32.toNatClampNeg (15 : Int32)) ≤ 15 ∧ (Int32.toNatClampNeg (0 : Int32)) + (Int32.toNatClampNeg (15 : Int32)) ≤ 15) ∧ 1 ≤ dp then (stI (va_up I 91 (va_cpy (I 90) (I 91) (Int32.toNatClampNeg (0 : Int32)) (Int32.toNatClampNeg (0 : Int32)) (Int32.toNatClampNeg (15 : Int32)))) (fun I_113 => (stI (u2 I_113 0 17 (1 : Int32)) (fun I_118 => (if 1 ≤ dp then (g_19 n (dp - 1) (z, kd, R) 0 I_118 L i2).bind (fun ⟨x_123, I_123, L_123⟩ => (some ((x_123, z, kd, I_123, L_123, R), 0, 0))) else none))))) else none) else (if 0 ≤ (i3 * (3 : Int32)) ∧ (Int32.toNatClampNeg (i3 * (3 : Int32))) < 15 then (if 0 ≤ ((i3 * (3 : Int32)) + (1 : Int32)) ∧ (Int32.toNatClampNeg ((i3 * (3 : Int32)) + (1 : Int32))) < 15 then (if 0 ≤ ((i3 * (3 : Int32)) + (2 : Int32)) ∧ (Int32.toNatClampNeg ((i3 * (3 : Int32)) + (2 : Int32))) < 15 then (if 1 ≤ dp then (g_92 n (dp - 1) 0 z kd I L R (I 90 (Int32.toNatClampNeg (i3 * (3 : Int32)))) (I 90 (Int32.toNatClampNeg ((i3 * (3 : Int32)) + (1 : Int32)))) (I 90 (Int32.toNatClampNeg ((i3 * (3 : Int32)) + (2 : Int32)))) 0).bind (fun ⟨⟨x_72, z_72, kd_72, I_72, L_72, R_72⟩, ck_72, cm_72⟩ => (adk ck_72 cm_72 (if x_72 = (-1 : Int32) then (if 1 ≤ dp then (g_15 n (dp - 1) (z_72, kd_72, R_72) 0 I_72 L_72 (-3 : Int32)).bind (fun ⟨x_86, I_86, L_86⟩ => (some ((x_86, z_72, kd_72, I_86, L_86, R_72), 0, 0))) else none) else (g_181 n dp 1 z_72 kd_72 I_72 L_72 R_72 i1 (i2 + x_72) (i3 + Int32.ofInt (1)))))) else none) else none) else none) else none)) := by rw [g_181.eq_2, if_neg (show ¬ ((1 : Nat) = 0) by decide), if_pos (show (1 : Nat) = 1 from rfl)]
set_option maxHeartbeats 8000000 in
set_option maxRecDepth 100000 in
theorem w_181 (X : GX) : ∀ (n dp d : Nat), dp ≤ d → ∀ (z : Nat) (kd : (Nat → Nat × Nat)) (I : (Nat → Nat → Int32)) (L : (Nat → Nat → Int64)) (R : (Nat → Nat → Option Nat)), Sh z kd R → ∀ (i1 : Int32) (i2 : Int32) (i3 : Int32) (r : Int32) (z1 : Nat) (kd1 : (Nat → Nat × Nat)) (I1 : (Nat → Nat → Int32)) (L1 : (Nat → Nat → Int64)) (R1 : (Nat → Nat → Option Nat)) (k1 m1 : Nat), (g_181 n dp 0 z kd I L R i1 i2 i3 = some ((r, z1, kd1, I1, L1, R1), k1, m1) → ∀ MC MS k m : Nat, k + k1 ≤ MC → m + m1 ≤ MS → K X d 181 MC MS (AI (fun x τ => x = r ∧ τ = (z1, kd1, I1, L1, R1))) 0 [some (.ref 0), some (.int i1), none, none, none, none] [] (z, kd, I, L, R) k m) ∧
    (g_181 n dp 1 z kd I L R i1 i2 i3 = some ((r, z1, kd1, I1, L1, R1), k1, m1) → ∀ MC MS k m : Nat, k + k1 ≤ MC → m + m1 ≤ MS → K X d 181 MC MS (AI (fun x τ => x = r ∧ τ = (z1, kd1, I1, L1, R1))) 33 [some (.ref 0), some (.int i1), some (.int i2), some (.int i3), none, none] [] (z, kd, I, L, R) k m) := by
  intro n
  induction n with
  | zero => intro dp d hdp z kd I L R hS  i1 i2 i3 r z1 kd1 I1 L1 R1 k1 m1; exact ⟨(fun h => by cases h), (fun h => by cases h)⟩
  | succ n ih =>
    intro dp d hdp z kd I L R hS  i1 i2 i3 r z1 kd1 I1 L1 R1 k1 m1
    refine ⟨?_, ?_⟩
    · intro h MC MS k m hMC hMS
      rw [e_181_0] at h
      refine K_of b_181_0 h_181_0 ?_
      refine q_iload rfl ?_
      refine q_iconst (0) (by decide) ?_
      refine q_iconst (1000000) (by decide) ?_
      obtain ⟨d_5, h⟩ := ite_some h
      obtain ⟨⟨x_5, I_5, L_5⟩, e_5, h⟩ := Option.bind_eq_some_iff.mp h
      dsimp only at h
      refine q_fs3I (a_14 X hS (d := d - 1) (by omega) e_5) (by omega) (by omega) (by omega) rfl (Nat.le_of_ble_eq_true rfl) ?_
      refine q_if_ne (fun c_8 => ?_) (fun c_8 => ?_)
      · rw [if_neg c_8] at h
        refine K_of b_181_17 h_181_17 ?_
        refine q_aload rfl ?_
        refine q_iload rfl ?_
        obtain ⟨d_19, h⟩ := ite_some h
        obtain ⟨⟨I_19, L_19⟩, e_19, h⟩ := Option.bind_eq_some_iff.mp h
        dsimp only at h
        refine q_fv2V (a_182 X hS (d := d - 1) (by omega) e_19) (by omega) (by omega) (by omega) rfl (Nat.le_of_ble_eq_true rfl) ⟨(zl hS 0 (by decide)), congrArg Prod.fst (sk hS 0 (by decide) rfl), by decide⟩ ?_
        refine q_aload rfl ?_
        refine q_getRs (c0 := 11) (j := 3) rfl rfl (zl hS 0 (by decide)) (sk hS 0 (by decide) rfl) rfl (by decide) (r_0_3 hS) ?_
        obtain ⟨d_26, h⟩ := ite_some h
        obtain ⟨⟨I_26, L_26⟩, e_26, h⟩ := Option.bind_eq_some_iff.mp h
        dsimp only at h
        refine q_fv1V (a_81 X hS (d := d - 1) (by omega) e_26) (by omega) (by omega) (by omega) rfl (Nat.le_of_ble_eq_true rfl) ⟨(zl hS 24 (by decide)), congrArg Prod.fst (sk hS 24 (by decide) rfl), by decide⟩ ?_
        refine q_iconst (0) (by decide) ?_
        refine q_istore (ls1 := [some (.ref 0), some (.int i1), some (.int (0 : Int32)), none, none, none]) (Nat.le_of_ble_eq_true rfl) rfl ?_
        refine q_iconst (0) (by decide) ?_
        refine q_istore (ls1 := [some (.ref 0), some (.int i1), some (.int (0 : Int32)), some (.int (0 : Int32)), none, none]) (Nat.le_of_ble_eq_true rfl) rfl ?_
        refine q_end ?_
        exact (ih dp d hdp _ _ _ _ _ hS i1 (0 : Int32) (0 : Int32) _ _ _ _ _ _ _ _).2 h MC MS _ _ (by omega) (by omega)
      · rw [if_pos c_8] at h
        refine q_aload rfl ?_
        refine q_iconst (-1) (by decide) ?_
        obtain ⟨d_13, h⟩ := ite_some h
        obtain ⟨⟨x_13, I_13, L_13⟩, e_13, h⟩ := Option.bind_eq_some_iff.mp h
        dsimp only at h
        refine q_fv2I (a_15 X hS (d := d - 1) (by omega) e_13) (by omega) (by omega) (by omega) rfl (Nat.le_of_ble_eq_true rfl) ⟨(zl hS 0 (by decide)), congrArg Prod.fst (sk hS 0 (by decide) rfl), by decide⟩ ?_
        cases h
        exact q_iret rfl (by omega) (by omega) ⟨rfl, rfl⟩
    · intro h MC MS k m hMC hMS
      rw [e_181_1] at h
      refine K_of b_181_33 h_181_33 ?_
      refine q_iload rfl ?_
      refine q_iconst (5) (by decide) ?_
      refine q_icmp_ge (fun c_35 => ?_) (fun c_35 => ?_)
      · rw [if_pos c_35] at h
        refine K_of b_181_101 h_181_101 ?_
        refine q_aload rfl ?_
        refine q_getRs (c0 := 11) (j := 8) rfl rfl (zl hS 0 (by decide)) (sk hS 0 (by decide) rfl) rfl (by decide) (r_0_8 hS) ?_
        refine q_iconst (0) (by decide) ?_
        refine q_aload rfl ?_
        refine q_getRs (c0 := 11) (j := 9) rfl rfl (zl hS 0 (by decide)) (sk hS 0 (by decide) rfl) rfl (by decide) (r_0_9 hS) ?_
        refine q_iconst (0) (by decide) ?_
        refine q_iconst (15) (by decide) ?_
        obtain ⟨⟨⟨q1_113, q2_113, q3_113, q4_113, q5_113⟩, d_113⟩, h⟩ := ite_some h
        refine q_copy (Nat.le_of_ble_eq_true rfl) (zl hS 90 (by decide)) (zl hS 91 (by decide)) (sk hS 90 (by decide) rfl) (sk hS 91 (by decide) rfl) q1_113 q2_113 q3_113 q4_113 q5_113 (Nat.le_trans d_113 hdp) ?_
        obtain ⟨I_113, nI_113, h⟩ := stI_some h
        refine q_nI nI_113 ?_
        refine q_aload rfl ?_
        refine q_iconst (1) (by decide) ?_
        refine q_putZ (c0 := 11) (j := 17) rfl rfl (zl hS 0 (by decide)) (sk hS 0 (by decide) rfl) rfl (Or.inr rfl) ?_
        obtain ⟨I_118, nI_118, h⟩ := stI_some h
        refine q_nI nI_118 ?_
        refine q_aload rfl ?_
        refine q_iload rfl ?_
        obtain ⟨d_123, h⟩ := ite_some h
        obtain ⟨⟨x_123, I_123, L_123⟩, e_123, h⟩ := Option.bind_eq_some_iff.mp h
        dsimp only at h
        refine q_fv2I (a_19 X hS (d := d - 1) (by omega) e_123) (by omega) (by omega) (by omega) rfl (Nat.le_of_ble_eq_true rfl) ⟨(zl hS 0 (by decide)), congrArg Prod.fst (sk hS 0 (by decide) rfl), by decide⟩ ?_
        cases h
        exact q_iret rfl (by omega) (by omega) ⟨rfl, rfl⟩
      · rw [if_neg c_35] at h
        refine q_iload rfl ?_
        refine q_iconst (3) (by decide) ?_
        refine q_imul ?_
        refine q_istore (ls1 := [some (.ref 0), some (.int i1), some (.int i2), some (.int i3), some (.int (i3 * (3 : Int32))), none]) (Nat.le_of_ble_eq_true rfl) rfl ?_
        refine q_aload rfl ?_
        refine q_getRs (c0 := 11) (j := 3) rfl rfl (zl hS 0 (by decide)) (sk hS 0 (by decide) rfl) rfl (by decide) (r_0_3 hS) ?_
        refine q_aload rfl ?_
        refine q_getRs (c0 := 11) (j := 8) rfl rfl (zl hS 0 (by decide)) (sk hS 0 (by decide) rfl) rfl (by decide) (r_0_8 hS) ?_
        refine q_iload rfl ?_
        obtain ⟨⟨u_53, v_53⟩, h⟩ := ite_some h
        refine q_ialN (Int32.toNatClampNeg (i3 * (3 : Int32))) (nx u_53) (zl hS 90 (by decide)) (sk hS 90 (by decide) rfl) v_53 (by decide) ?_
        refine q_aload rfl ?_
        refine q_getRs (c0 := 11) (j := 8) rfl rfl (zl hS 0 (by decide)) (sk hS 0 (by decide) rfl) rfl (by decide) (r_0_8 hS) ?_
        refine q_iload rfl ?_
        refine q_iconst (1) (by decide) ?_
        refine q_iadd ?_
        obtain ⟨⟨u_62, v_62⟩, h⟩ := ite_some h
        refine q_ialN (Int32.toNatClampNeg ((i3 * (3 : Int32)) + (1 : Int32))) (nx u_62) (zl hS 90 (by decide)) (sk hS 90 (by decide) rfl) v_62 (by decide) ?_
        refine q_aload rfl ?_
        refine q_getRs (c0 := 11) (j := 8) rfl rfl (zl hS 0 (by decide)) (sk hS 0 (by decide) rfl) rfl (by decide) (r_0_8 hS) ?_
        refine q_iload rfl ?_
        refine q_iconst (2) (by decide) ?_
        refine q_iadd ?_
        obtain ⟨⟨u_71, v_71⟩, h⟩ := ite_some h
        refine q_ialN (Int32.toNatClampNeg ((i3 * (3 : Int32)) + (2 : Int32))) (nx u_71) (zl hS 90 (by decide)) (sk hS 90 (by decide) rfl) v_71 (by decide) ?_
        obtain ⟨d_72, h⟩ := ite_some h
        obtain ⟨⟨⟨x_72, z_72, kd_72, I_72, L_72, R_72⟩, ck_72, cm_72⟩, e_72, h⟩ := Option.bind_eq_some_iff.mp h
        dsimp only at h
        obtain ⟨mk_72, ms_72, h, ek_72, em_72⟩ := adk_some h
        refine q_gv4I (a_92 X hS (d := d - 1) (by omega) e_72) (by omega) (by omega) (by omega) rfl (Nat.le_of_ble_eq_true rfl) ⟨(zl hS 24 (by decide)), congrArg Prod.fst (sk hS 24 (by decide) rfl), by decide⟩ ?_
        have hS_72 := s_92 hS e_72
        refine q_istore (ls1 := [some (.ref 0), some (.int i1), some (.int i2), some (.int i3), some (.int (i3 * (3 : Int32))), some (.int x_72)]) (Nat.le_of_ble_eq_true rfl) rfl ?_
        refine q_iload rfl ?_
        refine q_iconst (-1) (by decide) ?_
        refine q_icmp_ne (fun c_80 => ?_) (fun c_80 => ?_)
        · rw [if_neg c_80] at h
          refine K_of b_181_90 h_181_90 ?_
          refine q_iload rfl ?_
          refine q_iload rfl ?_
          refine q_iadd ?_
          refine q_istore (ls1 := [some (.ref 0), some (.int i1), some (.int (i2 + x_72)), some (.int i3), some (.int (i3 * (3 : Int32))), some (.int x_72)]) (Nat.le_of_ble_eq_true rfl) rfl ?_
          refine q_iinc (ls1 := [some (.ref 0), some (.int i1), some (.int (i2 + x_72)), some (.int (i3 + Int32.ofInt (1))), some (.int (i3 * (3 : Int32))), some (.int x_72)]) rfl rfl ?_
          refine q_goto ?_
          refine K_mask [true, true, true, true, false, false] (Nat.le_of_ble_eq_true rfl) ?_
          exact (ih dp d hdp _ _ _ _ _ hS_72 i1 (i2 + x_72) (i3 + Int32.ofInt (1)) _ _ _ _ _ _ _ _).2 h MC MS _ _ (by omega) (by omega)
        · rw [if_pos c_80] at h
          refine q_aload rfl ?_
          refine q_iconst (-3) (by decide) ?_
          obtain ⟨d_86, h⟩ := ite_some h
          obtain ⟨⟨x_86, I_86, L_86⟩, e_86, h⟩ := Option.bind_eq_some_iff.mp h
          dsimp only at h
          refine q_fv2I (a_15 X hS_72 (d := d - 1) (by omega) e_86) (by omega) (by omega) (by omega) rfl (Nat.le_of_ble_eq_true rfl) ⟨(zl hS_72 0 (by decide)), congrArg Prod.fst (sk hS_72 0 (by decide) rfl), by decide⟩ ?_
          cases h
          exact q_iret rfl (by omega) (by omega) ⟨rfl, rfl⟩
set_option maxHeartbeats 8000000 in
set_option maxRecDepth 100000 in
theorem t_181 : ∀ (n dp : Nat) (z : Nat) (kd : (Nat → Nat × Nat)) (I : (Nat → Nat → Int32)) (L : (Nat → Nat → Int64)) (R : (Nat → Nat → Option Nat)), Sh z kd R → ∀ (i1 : Int32) (i2 : Int32) (i3 : Int32) (r : Int32) (z1 : Nat) (kd1 : (Nat → Nat × Nat)) (I1 : (Nat → Nat → Int32)) (L1 : (Nat → Nat → Int64)) (R1 : (Nat → Nat → Option Nat)) (k1 m1 : Nat), (g_181 n dp 0 z kd I L R i1 i2 i3 = some ((r, z1, kd1, I1, L1, R1), k1, m1) → Sh z1 kd1 R1) ∧
    (g_181 n dp 1 z kd I L R i1 i2 i3 = some ((r, z1, kd1, I1, L1, R1), k1, m1) → Sh z1 kd1 R1) := by
  intro n
  induction n with
  | zero => intro dp z kd I L R hS i1 i2 i3 r z1 kd1 I1 L1 R1 k1 m1; exact ⟨(fun h => by cases h), (fun h => by cases h)⟩
  | succ n ih =>
    intro dp z kd I L R hS i1 i2 i3 r z1 kd1 I1 L1 R1 k1 m1
    refine ⟨?_, ?_⟩
    · intro h
      rw [e_181_0] at h
      obtain ⟨d_5, h⟩ := ite_some h
      obtain ⟨⟨x_5, I_5, L_5⟩, e_5, h⟩ := Option.bind_eq_some_iff.mp h
      dsimp only at h
      by_cases c_8 : x_5 = 0
      · rw [if_pos c_8] at h
        obtain ⟨d_13, h⟩ := ite_some h
        obtain ⟨⟨x_13, I_13, L_13⟩, e_13, h⟩ := Option.bind_eq_some_iff.mp h
        dsimp only at h
        cases h
        exact hS
      · rw [if_neg c_8] at h
        obtain ⟨d_19, h⟩ := ite_some h
        obtain ⟨⟨I_19, L_19⟩, e_19, h⟩ := Option.bind_eq_some_iff.mp h
        dsimp only at h
        obtain ⟨d_26, h⟩ := ite_some h
        obtain ⟨⟨I_26, L_26⟩, e_26, h⟩ := Option.bind_eq_some_iff.mp h
        dsimp only at h
        exact (ih dp _ _ _ _ _ hS i1 (0 : Int32) (0 : Int32) _ _ _ _ _ _ _ _).2 h
    · intro h
      rw [e_181_1] at h
      by_cases c_35 : (5 : Int32) ≤ i3
      · rw [if_pos c_35] at h
        obtain ⟨⟨⟨q1_113, q2_113, q3_113, q4_113, q5_113⟩, d_113⟩, h⟩ := ite_some h
        obtain ⟨I_113, nI_113, h⟩ := stI_some h
        obtain ⟨I_118, nI_118, h⟩ := stI_some h
        obtain ⟨d_123, h⟩ := ite_some h
        obtain ⟨⟨x_123, I_123, L_123⟩, e_123, h⟩ := Option.bind_eq_some_iff.mp h
        dsimp only at h
        cases h
        exact hS
      · rw [if_neg c_35] at h
        obtain ⟨⟨u_53, v_53⟩, h⟩ := ite_some h
        obtain ⟨⟨u_62, v_62⟩, h⟩ := ite_some h
        obtain ⟨⟨u_71, v_71⟩, h⟩ := ite_some h
        obtain ⟨d_72, h⟩ := ite_some h
        obtain ⟨⟨⟨x_72, z_72, kd_72, I_72, L_72, R_72⟩, ck_72, cm_72⟩, e_72, h⟩ := Option.bind_eq_some_iff.mp h
        dsimp only at h
        obtain ⟨mk_72, ms_72, h, ek_72, em_72⟩ := adk_some h
        have hS_72 := s_92 hS e_72
        by_cases c_80 : x_72 = (-1 : Int32)
        · rw [if_pos c_80] at h
          obtain ⟨d_86, h⟩ := ite_some h
          obtain ⟨⟨x_86, I_86, L_86⟩, e_86, h⟩ := Option.bind_eq_some_iff.mp h
          dsimp only at h
          cases h
          exact hS_72
        · rw [if_neg c_80] at h
          exact (ih dp _ _ _ _ _ hS_72 i1 (i2 + x_72) (i3 + Int32.ofInt (1)) _ _ _ _ _ _ _ _).2 h
theorem a_181 (X : GX) {z : Nat} {kd : (Nat → Nat × Nat)} {I : (Nat → Nat → Int32)} {L : (Nat → Nat → Int64)} {R : (Nat → Nat → Option Nat)} (hS : Sh z kd R) {n dp d : Nat} (hd : dp ≤ d) {i1 : Int32} {r : Int32} {z1 : Nat} {kd1 : (Nat → Nat × Nat)} {I1 : (Nat → Nat → Int32)} {L1 : (Nat → Nat → Int64)} {R1 : (Nat → Nat → Option Nat)} {k1 m1 : Nat} (h : g_181 n dp 0 z kd I L R i1 0 0 = some ((r, z1, kd1, I1, L1, R1), k1, m1)) : Ct X d 181 k1 m1 [.ref 0, .int i1] (z, kd, I, L, R) (AI (fun x τ => x = r ∧ τ = (z1, kd1, I1, L1, R1))) :=
  Ct_of mu_181 (Nat.le_of_ble_eq_true rfl) ((w_181 X n dp d hd z kd I L R hS i1 0 0 _ _ _ _ _ _ _ _).1 h k1 m1 0 0 (by omega) (by omega))
theorem s_181 {z : Nat} {kd : (Nat → Nat × Nat)} {I : (Nat → Nat → Int32)} {L : (Nat → Nat → Int64)} {R : (Nat → Nat → Option Nat)} (hS : Sh z kd R) {n dp : Nat} {i1 : Int32} {r : Int32} {z1 : Nat} {kd1 : (Nat → Nat × Nat)} {I1 : (Nat → Nat → Int32)} {L1 : (Nat → Nat → Int64)} {R1 : (Nat → Nat → Option Nat)} {k1 m1 : Nat} (h : g_181 n dp 0 z kd I L R i1 0 0 = some ((r, z1, kd1, I1, L1, R1), k1, m1)) : Sh z1 kd1 R1 := (t_181 n dp z kd I L R hS i1 0 0 _ _ _ _ _ _ _ _).1 h

