/-! 3 CutFloor$Tree.<init>()V -/
set_option maxHeartbeats 4000000 in
set_option maxRecDepth 100000 in
def g_3 : Nat → Nat → Nat → Nat → (Nat → Nat × Nat) → (Nat → Nat → Int32) → (Nat → Nat → Int64) → (Nat → Nat → Option Nat) → Nat →  Option ((PS) × Nat × Nat)
  | 0, _, _, _, _, _, _, _, _ => none
  | n + 1, dp, lab, z, kd, I, L, R, a0 =>
    if lab = 0 then (if 1 ≤ dp then (adk 1 24 (stI (z + 1) (fun z_7 => (stI (va_up kd z (13, 24)) (fun kd_7 => (stI (va_up I z (fun _ => 0)) (fun I_7 => (stI (va_up L z (fun _ => 0)) (fun L_7 => (stI (va_up R z (fun _ => none)) (fun R_7 => (if a0 < z_7 ∧ (kd_7 a0).1 = 10 then (stI (u2 R_7 a0 0 (some z)) (fun R_9 => (adk 1 24 (stI (z_7 + 1) (fun z_15 => (stI (va_up kd_7 z_7 (13, 24)) (fun kd_15 => (stI (va_up I_7 z_7 (fun _ => 0)) (fun I_15 => (stI (va_up L_7 z_7 (fun _ => 0)) (fun L_15 => (stI (va_up R_9 z_7 (fun _ => none)) (fun R_15 => (if a0 < z_15 ∧ (kd_15 a0).1 = 10 then (stI (u2 R_15 a0 1 (some z_7)) (fun R_17 => (adk 1 24 (stI (z_15 + 1) (fun z_23 => (stI (va_up kd_15 z_15 (13, 24)) (fun kd_23 => (stI (va_up I_15 z_15 (fun _ => 0)) (fun I_23 => (stI (va_up L_15 z_15 (fun _ => 0)) (fun L_23 => (stI (va_up R_17 z_15 (fun _ => none)) (fun R_23 => (if a0 < z_23 ∧ (kd_23 a0).1 = 10 then (stI (u2 R_23 a0 2 (some z_15)) (fun R_25 => (adk 1 24 (stI (z_23 + 1) (fun z_31 => (stI (va_up kd_23 z_23 (13, 24)) (fun kd_31 => (stI (va_up I_23 z_23 (fun _ => 0)) (fun I_31 => (stI (va_up L_23 z_23 (fun _ => 0)) (fun L_31 => (stI (va_up R_25 z_23 (fun _ => none)) (fun R_31 => (if a0 < z_31 ∧ (kd_31 a0).1 = 10 then (stI (u2 R_31 a0 3 (some z_23)) (fun R_33 => (adk 1 24 (stI (z_31 + 1) (fun z_39 => (stI (va_up kd_31 z_31 (13, 24)) (fun kd_39 => (stI (va_up I_31 z_31 (fun _ => 0)) (fun I_39 => (stI (va_up L_31 z_31 (fun _ => 0)) (fun L_39 => (stI (va_up R_33 z_31 (fun _ => none)) (fun R_39 => (if a0 < z_39 ∧ (kd_39 a0).1 = 10 then (stI (u2 R_39 a0 4 (some z_31)) (fun R_41 => (adk 1 16 (stI (z_39 + 1) (fun z_47 => (stI (va_up kd_39 z_39 (13, 16)) (fun kd_47 => (stI (va_up I_39 z_39 (fun _ => 0)) (fun I_47 => (stI (va_up L_39 z_39 (fun _ => 0)) (fun L_47 => (stI (va_up R_41 z_39 (fun _ => none)) (fun R_47 => (if a0 < z_47 ∧ (kd_47 a0).1 = 10 then (stI (u2 R_47 a0 5 (some z_39)) (fun R_49 => (adk 1 16 (stI (z_47 + 1) (fun z_55 => (stI (va_up kd_47 z_47 (13, 16)) (fun kd_55 => (stI (va_up I_47 z_47 (fun _ => 0)) (fun I_55 => (stI (va_up L_47 z_47 (fun _ => 0)) (fun L_55 => (stI (va_up R_49 z_47 (fun _ => none)) (fun R_55 => (if a0 < z_55 ∧ (kd_55 a0).1 = 10 then (stI (u2 R_55 a0 6 (some z_47)) (fun R_57 => (adk 1 160 (stI (z_55 + 1) (fun z_64 => (stI (va_up kd_55 z_55 (13, 160)) (fun kd_64 => (stI (va_up I_55 z_55 (fun _ => 0)) (fun I_64 => (stI (va_up L_55 z_55 (fun _ => 0)) (fun L_64 => (stI (va_up R_57 z_55 (fun _ => none)) (fun R_64 => (if a0 < z_64 ∧ (kd_64 a0).1 = 10 then (stI (u2 R_64 a0 7 (some z_55)) (fun R_66 => (adk 1 400 (stI (z_64 + 1) (fun z_73 => (stI (va_up kd_64 z_64 (13, 400)) (fun kd_73 => (stI (va_up I_64 z_64 (fun _ => 0)) (fun I_73 => (stI (va_up L_64 z_64 (fun _ => 0)) (fun L_73 => (stI (va_up R_66 z_64 (fun _ => none)) (fun R_73 => (if a0 < z_73 ∧ (kd_73 a0).1 = 10 then (stI (u2 R_73 a0 8 (some z_64)) (fun R_75 => (adk 1 400 (stI (z_73 + 1) (fun z_82 => (stI (va_up kd_73 z_73 (13, 400)) (fun kd_82 => (stI (va_up I_73 z_73 (fun _ => 0)) (fun I_82 => (stI (va_up L_73 z_73 (fun _ => 0)) (fun L_82 => (stI (va_up R_75 z_73 (fun _ => none)) (fun R_82 => (if a0 < z_82 ∧ (kd_82 a0).1 = 10 then (stI (u2 R_82 a0 9 (some z_73)) (fun R_84 => (if a0 < z_82 ∧ (kd_82 a0).1 = 10 then (stI (u2 I_82 a0 10 (0 : Int32)) (fun I_89 => (if a0 < z_82 ∧ (kd_82 a0).1 = 10 then (stI (u2 I_89 a0 11 (0 : Int32)) (fun I_94 => (if a0 < z_82 ∧ (kd_82 a0).1 = 10 then (stI (u2 I_94 a0 12 (0 : Int32)) (fun I_99 => (if a0 < z_82 ∧ (kd_82 a0).1 = 10 then (stI (u2 I_99 a0 13 (0 : Int32)) (fun I_104 => (some ((z_82, kd_82, I_104, L_82, R_84), 0, 0)))) else none))) else none))) else none))) else none))) else none)))))))))))))) else none)))))))))))))) else none)))))))))))))) else none)))))))))))))) else none)))))))))))))) else none)))))))))))))) else none)))))))))))))) else none)))))))))))))) else none)))))))))))))) else none)))))))))))) else none)
    else none
set_option maxRecDepth 100000 in
theorem e_3_0 (n dp : Nat) (z : Nat) (kd : (Nat → Nat × Nat)) (I : (Nat → Nat → Int32)) (L : (Nat → Nat → Int64)) (R : (Nat → Nat → Option Nat)) (a0 : Nat) : g_3 (n + 1) dp 0 z kd I L R a0 = (if 1 ≤ dp then (adk 1 24 (stI (z + 1) (fun z_7 => (stI (va_up kd z (13, 24)) (fun kd_7 => (stI (va_up I z (fun _ => 0)) (fun I_7 => (stI (va_up L z (fun _ => 0)) (fun L_7 => (stI (va_up R z (fun _ => none)) (fun R_7 => (if a0 < z_7 ∧ (kd_7 a0).1 = 10 then (stI (u2 R_7 a0 0 (some z)) (fun R_9 => (adk 1 24 (stI (z_7 + 1) (fun z_15 => (stI (va_up kd_7 z_7 (13, 24)) (fun kd_15 => (stI (va_up I_7 z_7 (fun _ => 0)) (fun I_15 => (stI (va_up L_7 z_7 (fun _ => 0)) (fun L_15 => (stI (va_up R_9 z_7 (fun _ => none)) (fun R_15 => (if a0 < z_15 ∧ (kd_15 a0).1 = 10 then (stI (u2 R_15 a0 1 (some z_7)) (fun R_17 => (adk 1 24 (stI (z_15 + 1) (fun z_23 => (stI (va_up kd_15 z_15 (13, 24)) (fun kd_23 => (stI (va_up I_15 z_15 (fun _ => 0)) (fun I_23 => (stI (va_up L_15 z_15 (fun _ => 0)) (fun L_23 => (stI (va_up R_17 z_15 (fun _ => none)) (fun R_23 => (if a0 < z_23 ∧ (kd_23 a0).1 = 10 then (stI (u2 R_23 a0 2 (some z_15)) (fun R_25 => (adk 1 24 (stI (z_23 + 1) (fun z_31 => (stI (va_up kd_23 z_23 (13, 24)) (fun kd_31 => (stI (va_up I_23 z_23 (fun _ => 0)) (fun I_31 => (stI (va_up L_23 z_23 (fun _ => 0)) (fun L_31 => (stI (va_up R_25 z_23 (fun _ => none)) (fun R_31 => (if a0 < z_31 ∧ (kd_31 a0).1 = 10 then (stI (u2 R_31 a0 3 (some z_23)) (fun R_33 => (adk 1 24 (stI (z_31 + 1) (fun z_39 => (stI (va_up kd_31 z_31 (13, 24)) (fun kd_39 => (stI (va_up I_31 z_31 (fun _ => 0)) (fun I_39 => (stI (va_up L_31 z_31 (fun _ => 0)) (fun L_39 => (stI (va_up R_33 z_31 (fun _ => none)) (fun R_39 => (if a0 < z_39 ∧ (kd_39 a0).1 = 10 then (stI (u2 R_39 a0 4 (some z_31)) (fun R_41 => (adk 1 16 (stI (z_39 + 1) (fun z_47 => (stI (va_up kd_39 z_39 (13, 16)) (fun kd_47 => (stI (va_up I_39 z_39 (fun _ => 0)) (fun I_47 => (stI (va_up L_39 z_39 (fun _ => 0)) (fun L_47 => (stI (va_up R_41 z_39 (fun _ => none)) (fun R_47 => (if a0 < z_47 ∧ (kd_47 a0).1 = 10 then (stI (u2 R_47 a0 5 (some z_39)) (fun R_49 => (adk 1 16 (stI (z_47 + 1) (fun z_55 => (stI (va_up kd_47 z_47 (13, 16)) (fun kd_55 => (stI (va_up I_47 z_47 (fun _ => 0)) (fun I_55 => (stI (va_up L_47 z_47 (fun _ => 0)) (fun L_55 => (stI (va_up R_49 z_47 (fun _ => none)) (fun R_55 => (if a0 < z_55 ∧ (kd_55 a0).1 = 10 then (stI (u2 R_55 a0 6 (some z_47)) (fun R_57 => (adk 1 160 (stI (z_55 + 1) (fun z_64 => (stI (va_up kd_55 z_55 (13, 160)) (fun kd_64 => (stI (va_up I_55 z_55 (fun _ => 0)) (fun I_64 => (stI (va_up L_55 z_55 (fun _ => 0)) (fun L_64 => (stI (va_up R_57 z_55 (fun _ => none)) (fun R_64 => (if a0 < z_64 ∧ (kd_64 a0).1 = 10 then (stI (u2 R_64 a0 7 (some z_55)) (fun R_66 => (adk 1 400 (stI (z_64 + 1) (fun z_73 => (stI (va_up kd_64 z_64 (13, 400)) (fun kd_73 => (stI (va_up I_64 z_64 (fun _ => 0)) (fun I_73 => (stI (va_up L_64 z_64 (fun _ => 0)) (fun L_73 => (stI (va_up R_66 z_64 (fun _ => none)) (fun R_73 => (if a0 < z_73 ∧ (kd_73 a0).1 = 10 then (stI (u2 R_73 a0 8 (some z_64)) (fun R_75 => (adk 1 400 (stI (z_73 + 1) (fun z_82 => (stI (va_up kd_73 z_73 (13, 400)) (fun kd_82 => (stI (va_up I_73 z_73 (fun _ => 0)) (fun I_82 => (stI (va_up L_73 z_73 (fun _ => 0)) (fun L_82 => (stI (va_up R_75 z_73 (fun _ => none)) (fun R_82 => (if a0 < z_82 ∧ (kd_82 a0).1 = 10 then (stI (u2 R_82 a0 9 (some z_73)) (fun R_84 => (if a0 < z_82 ∧ (kd_82 a0).1 = 10 then (stI (u2 I_82 a0 10 (0 : Int32)) (fun I_89 => (if a0 < z_82 ∧ (kd_82 a0).1 = 10 then (stI (u2 I_89 a0 11 (0 : Int32)) (fun I_94 => (if a0 < z_82 ∧ (kd_82 a0).1 = 10 then (stI (u2 I_94 a0 12 (0 : Int32)) (fun I_99 => (if a0 < z_82 ∧ (kd_82 a0).1 = 10 then (stI (u2 I_99 a0 13 (0 : Int32)) (fun I_104 => (some ((z_82, kd_82, I_104, L_82, R_84), 0, 0)))) else none))) else none))) else none))) else none))) else none)))))))))))))) else none)))))))))))))) else none)))))))))))))) else none)))))))))))))) else none)))))))))))))) else none)))))))))))))) else none)))))))))))))) else none)))))))))))))) else none)))))))))))))) else none)))))))))))) else none) := by rw [g_3.eq_2, if_pos (show (0 : Nat) = 0 from rfl)]
set_option maxHeartbeats 8000000 in
set_option maxRecDepth 100000 in
theorem w_3 (X : GX) : ∀ (n dp d : Nat), dp ≤ d → ∀ (z : Nat) (kd : (Nat → Nat × Nat)) (I : (Nat → Nat → Int32)) (L : (Nat → Nat → Int64)) (R : (Nat → Nat → Option Nat)), ∀ (a0 : Nat) (z1 : Nat) (kd1 : (Nat → Nat × Nat)) (I1 : (Nat → Nat → Int32)) (L1 : (Nat → Nat → Int64)) (R1 : (Nat → Nat → Option Nat)) (k1 m1 : Nat), (g_3 n dp 0 z kd I L R a0 = some ((z1, kd1, I1, L1, R1), k1, m1) → ∀ MC MS k m : Nat, k + k1 ≤ MC → m + m1 ≤ MS → K X d 3 MC MS (AV (fun τ => τ = (z1, kd1, I1, L1, R1))) 0 [some (.ref a0)] [] (z, kd, I, L, R) k m) := by
  intro n
  induction n with
  | zero => intro dp d hdp z kd I L R  a0 z1 kd1 I1 L1 R1 k1 m1; exact fun h => by cases h
  | succ n ih =>
    intro dp d hdp z kd I L R  a0 z1 kd1 I1 L1 R1 k1 m1
    · intro h MC MS k m hMC hMS
      rw [e_3_0] at h
      refine K_of b_3_0 h_3_0 ?_
      refine q_aload rfl ?_
      obtain ⟨d_1, h⟩ := ite_some h
      refine q_obj (Nat.le_of_ble_eq_true rfl) (Nat.le_trans d_1 hdp) ?_
      refine q_aload rfl ?_
      refine q_iconst (24) (by decide) ?_
      obtain ⟨mk_7, ms_7, h, ek_7, em_7⟩ := adk_some h
      refine q_newa (m0 := 24) (by decide) (by decide) (by decide) (by decide) (by omega) (by omega) ?_
      obtain ⟨z_7, nz_7, h⟩ := stI_some h
      obtain ⟨kd_7, nkd_7, h⟩ := stI_some h
      obtain ⟨I_7, nI_7, h⟩ := stI_some h
      obtain ⟨L_7, nL_7, h⟩ := stI_some h
      obtain ⟨R_7, nR_7, h⟩ := stI_some h
      refine q_n5 nz_7 nkd_7 nI_7 nL_7 nR_7 ?_
      obtain ⟨⟨z_9, k_9⟩, h⟩ := ite_some h
      refine q_putR (c0 := 10) (j := 0) rfl rfl z_9 (fst_eq k_9) rfl ?_
      obtain ⟨R_9, nR_9, h⟩ := stI_some h
      refine q_nR nR_9 ?_
      refine q_aload rfl ?_
      refine q_iconst (24) (by decide) ?_
      obtain ⟨mk_15, ms_15, h, ek_15, em_15⟩ := adk_some h
      refine q_newa (m0 := 24) (by decide) (by decide) (by decide) (by decide) (by omega) (by omega) ?_
      obtain ⟨z_15, nz_15, h⟩ := stI_some h
      obtain ⟨kd_15, nkd_15, h⟩ := stI_some h
      obtain ⟨I_15, nI_15, h⟩ := stI_some h
      obtain ⟨L_15, nL_15, h⟩ := stI_some h
      obtain ⟨R_15, nR_15, h⟩ := stI_some h
      refine q_n5 nz_15 nkd_15 nI_15 nL_15 nR_15 ?_
      obtain ⟨⟨z_17, k_17⟩, h⟩ := ite_some h
      refine q_putR (c0 := 10) (j := 1) rfl rfl z_17 (fst_eq k_17) rfl ?_
      obtain ⟨R_17, nR_17, h⟩ := stI_some h
      refine q_nR nR_17 ?_
      refine q_aload rfl ?_
      refine q_iconst (24) (by decide) ?_
      obtain ⟨mk_23, ms_23, h, ek_23, em_23⟩ := adk_some h
      refine q_newa (m0 := 24) (by decide) (by decide) (by decide) (by decide) (by omega) (by omega) ?_
      obtain ⟨z_23, nz_23, h⟩ := stI_some h
      obtain ⟨kd_23, nkd_23, h⟩ := stI_some h
      obtain ⟨I_23, nI_23, h⟩ := stI_some h
      obtain ⟨L_23, nL_23, h⟩ := stI_some h
      obtain ⟨R_23, nR_23, h⟩ := stI_some h
      refine q_n5 nz_23 nkd_23 nI_23 nL_23 nR_23 ?_
      obtain ⟨⟨z_25, k_25⟩, h⟩ := ite_some h
      refine q_putR (c0 := 10) (j := 2) rfl rfl z_25 (fst_eq k_25) rfl ?_
      obtain ⟨R_25, nR_25, h⟩ := stI_some h
      refine q_nR nR_25 ?_
      refine q_aload rfl ?_
      refine q_iconst (24) (by decide) ?_
      obtain ⟨mk_31, ms_31, h, ek_31, em_31⟩ := adk_some h
      refine q_newa (m0 := 24) (by decide) (by decide) (by decide) (by decide) (by omega) (by omega) ?_
      obtain ⟨z_31, nz_31, h⟩ := stI_some h
      obtain ⟨kd_31, nkd_31, h⟩ := stI_some h
      obtain ⟨I_31, nI_31, h⟩ := stI_some h
      obtain ⟨L_31, nL_31, h⟩ := stI_some h
      obtain ⟨R_31, nR_31, h⟩ := stI_some h
      refine q_n5 nz_31 nkd_31 nI_31 nL_31 nR_31 ?_
      obtain ⟨⟨z_33, k_33⟩, h⟩ := ite_some h
      refine q_putR (c0 := 10) (j := 3) rfl rfl z_33 (fst_eq k_33) rfl ?_
      obtain ⟨R_33, nR_33, h⟩ := stI_some h
      refine q_nR nR_33 ?_
      refine q_aload rfl ?_
      refine q_iconst (24) (by decide) ?_
      obtain ⟨mk_39, ms_39, h, ek_39, em_39⟩ := adk_some h
      refine q_newa (m0 := 24) (by decide) (by decide) (by decide) (by decide) (by omega) (by omega) ?_
      obtain ⟨z_39, nz_39, h⟩ := stI_some h
      obtain ⟨kd_39, nkd_39, h⟩ := stI_some h
      obtain ⟨I_39, nI_39, h⟩ := stI_some h
      obtain ⟨L_39, nL_39, h⟩ := stI_some h
      obtain ⟨R_39, nR_39, h⟩ := stI_some h
      refine q_n5 nz_39 nkd_39 nI_39 nL_39 nR_39 ?_
      obtain ⟨⟨z_41, k_41⟩, h⟩ := ite_some h
      refine q_putR (c0 := 10) (j := 4) rfl rfl z_41 (fst_eq k_41) rfl ?_
      obtain ⟨R_41, nR_41, h⟩ := stI_some h
      refine q_nR nR_41 ?_
      refine q_aload rfl ?_
      refine q_iconst (16) (by decide) ?_
      obtain ⟨mk_47, ms_47, h, ek_47, em_47⟩ := adk_some h
      refine q_newa (m0 := 16) (by decide) (by decide) (by decide) (by decide) (by omega) (by omega) ?_
      obtain ⟨z_47, nz_47, h⟩ := stI_some h
      obtain ⟨kd_47, nkd_47, h⟩ := stI_some h
      obtain ⟨I_47, nI_47, h⟩ := stI_some h
      obtain ⟨L_47, nL_47, h⟩ := stI_some h
      obtain ⟨R_47, nR_47, h⟩ := stI_some h
      refine q_n5 nz_47 nkd_47 nI_47 nL_47 nR_47 ?_
      obtain ⟨⟨z_49, k_49⟩, h⟩ := ite_some h
      refine q_putR (c0 := 10) (j := 5) rfl rfl z_49 (fst_eq k_49) rfl ?_
      obtain ⟨R_49, nR_49, h⟩ := stI_some h
      refine q_nR nR_49 ?_
      refine q_aload rfl ?_
      refine q_iconst (16) (by decide) ?_
      obtain ⟨mk_55, ms_55, h, ek_55, em_55⟩ := adk_some h
      refine q_newa (m0 := 16) (by decide) (by decide) (by decide) (by decide) (by omega) (by omega) ?_
      obtain ⟨z_55, nz_55, h⟩ := stI_some h
      obtain ⟨kd_55, nkd_55, h⟩ := stI_some h
      obtain ⟨I_55, nI_55, h⟩ := stI_some h
      obtain ⟨L_55, nL_55, h⟩ := stI_some h
      obtain ⟨R_55, nR_55, h⟩ := stI_some h
      refine q_n5 nz_55 nkd_55 nI_55 nL_55 nR_55 ?_
      obtain ⟨⟨z_57, k_57⟩, h⟩ := ite_some h
      refine q_putR (c0 := 10) (j := 6) rfl rfl z_57 (fst_eq k_57) rfl ?_
      obtain ⟨R_57, nR_57, h⟩ := stI_some h
      refine q_nR nR_57 ?_
      refine q_aload rfl ?_
      refine q_iconst (160) (by decide) ?_
      obtain ⟨mk_64, ms_64, h, ek_64, em_64⟩ := adk_some h
      refine q_newa (m0 := 160) (by decide) (by decide) (by decide) (by decide) (by omega) (by omega) ?_
      obtain ⟨z_64, nz_64, h⟩ := stI_some h
      obtain ⟨kd_64, nkd_64, h⟩ := stI_some h
      obtain ⟨I_64, nI_64, h⟩ := stI_some h
      obtain ⟨L_64, nL_64, h⟩ := stI_some h
      obtain ⟨R_64, nR_64, h⟩ := stI_some h
      refine q_n5 nz_64 nkd_64 nI_64 nL_64 nR_64 ?_
      obtain ⟨⟨z_66, k_66⟩, h⟩ := ite_some h
      refine q_putR (c0 := 10) (j := 7) rfl rfl z_66 (fst_eq k_66) rfl ?_
      obtain ⟨R_66, nR_66, h⟩ := stI_some h
      refine q_nR nR_66 ?_
      refine q_aload rfl ?_
      refine q_iconst (400) (by decide) ?_
      obtain ⟨mk_73, ms_73, h, ek_73, em_73⟩ := adk_some h
      refine q_newa (m0 := 400) (by decide) (by decide) (by decide) (by decide) (by omega) (by omega) ?_
      obtain ⟨z_73, nz_73, h⟩ := stI_some h
      obtain ⟨kd_73, nkd_73, h⟩ := stI_some h
      obtain ⟨I_73, nI_73, h⟩ := stI_some h
      obtain ⟨L_73, nL_73, h⟩ := stI_some h
      obtain ⟨R_73, nR_73, h⟩ := stI_some h
      refine q_n5 nz_73 nkd_73 nI_73 nL_73 nR_73 ?_
      obtain ⟨⟨z_75, k_75⟩, h⟩ := ite_some h
      refine q_putR (c0 := 10) (j := 8) rfl rfl z_75 (fst_eq k_75) rfl ?_
      obtain ⟨R_75, nR_75, h⟩ := stI_some h
      refine q_nR nR_75 ?_
      refine q_aload rfl ?_
      refine q_iconst (400) (by decide) ?_
      obtain ⟨mk_82, ms_82, h, ek_82, em_82⟩ := adk_some h
      refine q_newa (m0 := 400) (by decide) (by decide) (by decide) (by decide) (by omega) (by omega) ?_
      obtain ⟨z_82, nz_82, h⟩ := stI_some h
      obtain ⟨kd_82, nkd_82, h⟩ := stI_some h
      obtain ⟨I_82, nI_82, h⟩ := stI_some h
      obtain ⟨L_82, nL_82, h⟩ := stI_some h
      obtain ⟨R_82, nR_82, h⟩ := stI_some h
      refine q_n5 nz_82 nkd_82 nI_82 nL_82 nR_82 ?_
      obtain ⟨⟨z_84, k_84⟩, h⟩ := ite_some h
      refine q_putR (c0 := 10) (j := 9) rfl rfl z_84 (fst_eq k_84) rfl ?_
      obtain ⟨R_84, nR_84, h⟩ := stI_some h
      refine q_nR nR_84 ?_
      refine q_aload rfl ?_
      refine q_iconst (0) (by decide) ?_
      obtain ⟨⟨z_89, k_89⟩, h⟩ := ite_some h
      refine q_putI (c0 := 10) (j := 10) rfl rfl z_89 (fst_eq k_89) rfl ?_
      obtain ⟨I_89, nI_89, h⟩ := stI_some h
      refine q_nI nI_89 ?_
      refine q_aload rfl ?_
      refine q_iconst (0) (by decide) ?_
      obtain ⟨⟨z_94, k_94⟩, h⟩ := ite_some h
      refine q_putI (c0 := 10) (j := 11) rfl rfl z_94 (fst_eq k_94) rfl ?_
      obtain ⟨I_94, nI_94, h⟩ := stI_some h
      refine q_nI nI_94 ?_
      refine q_aload rfl ?_
      refine q_iconst (0) (by decide) ?_
      obtain ⟨⟨z_99, k_99⟩, h⟩ := ite_some h
      refine q_putI (c0 := 10) (j := 12) rfl rfl z_99 (fst_eq k_99) rfl ?_
      obtain ⟨I_99, nI_99, h⟩ := stI_some h
      refine q_nI nI_99 ?_
      refine q_aload rfl ?_
      refine q_iconst (0) (by decide) ?_
      obtain ⟨⟨z_104, k_104⟩, h⟩ := ite_some h
      refine q_putI (c0 := 10) (j := 13) rfl rfl z_104 (fst_eq k_104) rfl ?_
      obtain ⟨I_104, nI_104, h⟩ := stI_some h
      refine q_nI nI_104 ?_
      cases h
      exact q_vret rfl (by omega) (by omega) rfl
set_option maxHeartbeats 8000000 in
set_option maxRecDepth 100000 in
theorem t_3 : ∀ (n dp : Nat) (z : Nat) (kd : (Nat → Nat × Nat)) (I : (Nat → Nat → Int32)) (L : (Nat → Nat → Int64)) (R : (Nat → Nat → Option Nat)), Sh z kd R → ∀ (a0 : Nat) (z1 : Nat) (kd1 : (Nat → Nat × Nat)) (I1 : (Nat → Nat → Int32)) (L1 : (Nat → Nat → Int64)) (R1 : (Nat → Nat → Option Nat)) (k1 m1 : Nat), 144 ≤ a0 → (g_3 n dp 0 z kd I L R a0 = some ((z1, kd1, I1, L1, R1), k1, m1) → Sh z1 kd1 R1) := by
  intro n
  induction n with
  | zero => intro dp z kd I L R hS a0 z1 kd1 I1 L1 R1 k1 m1 ha; exact fun h => by cases h
  | succ n ih =>
    intro dp z kd I L R hS a0 z1 kd1 I1 L1 R1 k1 m1 ha
    · intro h
      rw [e_3_0] at h
      obtain ⟨d_1, h⟩ := ite_some h
      obtain ⟨mk_7, ms_7, h, ek_7, em_7⟩ := adk_some h
      obtain ⟨z_7, nz_7, h⟩ := stI_some h
      obtain ⟨kd_7, nkd_7, h⟩ := stI_some h
      obtain ⟨I_7, nI_7, h⟩ := stI_some h
      obtain ⟨L_7, nL_7, h⟩ := stI_some h
      obtain ⟨R_7, nR_7, h⟩ := stI_some h
      have hS_7 : Sh z_7 kd_7 R_7 := by rw [nz_7, nkd_7, nR_7]; exact Sh_alo hS
      obtain ⟨⟨z_9, k_9⟩, h⟩ := ite_some h
      obtain ⟨R_9, nR_9, h⟩ := stI_some h
      have hS_9 : Sh z_7 kd_7 R_9 := by rw [nR_9]; exact Sh_putb hS_7 ha
      obtain ⟨mk_15, ms_15, h, ek_15, em_15⟩ := adk_some h
      obtain ⟨z_15, nz_15, h⟩ := stI_some h
      obtain ⟨kd_15, nkd_15, h⟩ := stI_some h
      obtain ⟨I_15, nI_15, h⟩ := stI_some h
      obtain ⟨L_15, nL_15, h⟩ := stI_some h
      obtain ⟨R_15, nR_15, h⟩ := stI_some h
      have hS_15 : Sh z_15 kd_15 R_15 := by rw [nz_15, nkd_15, nR_15]; exact Sh_alo hS_9
      obtain ⟨⟨z_17, k_17⟩, h⟩ := ite_some h
      obtain ⟨R_17, nR_17, h⟩ := stI_some h
      have hS_17 : Sh z_15 kd_15 R_17 := by rw [nR_17]; exact Sh_putb hS_15 ha
      obtain ⟨mk_23, ms_23, h, ek_23, em_23⟩ := adk_some h
      obtain ⟨z_23, nz_23, h⟩ := stI_some h
      obtain ⟨kd_23, nkd_23, h⟩ := stI_some h
      obtain ⟨I_23, nI_23, h⟩ := stI_some h
      obtain ⟨L_23, nL_23, h⟩ := stI_some h
      obtain ⟨R_23, nR_23, h⟩ := stI_some h
      have hS_23 : Sh z_23 kd_23 R_23 := by rw [nz_23, nkd_23, nR_23]; exact Sh_alo hS_17
      obtain ⟨⟨z_25, k_25⟩, h⟩ := ite_some h
      obtain ⟨R_25, nR_25, h⟩ := stI_some h
      have hS_25 : Sh z_23 kd_23 R_25 := by rw [nR_25]; exact Sh_putb hS_23 ha
      obtain ⟨mk_31, ms_31, h, ek_31, em_31⟩ := adk_some h
      obtain ⟨z_31, nz_31, h⟩ := stI_some h
      obtain ⟨kd_31, nkd_31, h⟩ := stI_some h
      obtain ⟨I_31, nI_31, h⟩ := stI_some h
      obtain ⟨L_31, nL_31, h⟩ := stI_some h
      obtain ⟨R_31, nR_31, h⟩ := stI_some h
      have hS_31 : Sh z_31 kd_31 R_31 := by rw [nz_31, nkd_31, nR_31]; exact Sh_alo hS_25
      obtain ⟨⟨z_33, k_33⟩, h⟩ := ite_some h
      obtain ⟨R_33, nR_33, h⟩ := stI_some h
      have hS_33 : Sh z_31 kd_31 R_33 := by rw [nR_33]; exact Sh_putb hS_31 ha
      obtain ⟨mk_39, ms_39, h, ek_39, em_39⟩ := adk_some h
      obtain ⟨z_39, nz_39, h⟩ := stI_some h
      obtain ⟨kd_39, nkd_39, h⟩ := stI_some h
      obtain ⟨I_39, nI_39, h⟩ := stI_some h
      obtain ⟨L_39, nL_39, h⟩ := stI_some h
      obtain ⟨R_39, nR_39, h⟩ := stI_some h
      have hS_39 : Sh z_39 kd_39 R_39 := by rw [nz_39, nkd_39, nR_39]; exact Sh_alo hS_33
      obtain ⟨⟨z_41, k_41⟩, h⟩ := ite_some h
      obtain ⟨R_41, nR_41, h⟩ := stI_some h
      have hS_41 : Sh z_39 kd_39 R_41 := by rw [nR_41]; exact Sh_putb hS_39 ha
      obtain ⟨mk_47, ms_47, h, ek_47, em_47⟩ := adk_some h
      obtain ⟨z_47, nz_47, h⟩ := stI_some h
      obtain ⟨kd_47, nkd_47, h⟩ := stI_some h
      obtain ⟨I_47, nI_47, h⟩ := stI_some h
      obtain ⟨L_47, nL_47, h⟩ := stI_some h
      obtain ⟨R_47, nR_47, h⟩ := stI_some h
      have hS_47 : Sh z_47 kd_47 R_47 := by rw [nz_47, nkd_47, nR_47]; exact Sh_alo hS_41
      obtain ⟨⟨z_49, k_49⟩, h⟩ := ite_some h
      obtain ⟨R_49, nR_49, h⟩ := stI_some h
      have hS_49 : Sh z_47 kd_47 R_49 := by rw [nR_49]; exact Sh_putb hS_47 ha
      obtain ⟨mk_55, ms_55, h, ek_55, em_55⟩ := adk_some h
      obtain ⟨z_55, nz_55, h⟩ := stI_some h
      obtain ⟨kd_55, nkd_55, h⟩ := stI_some h
      obtain ⟨I_55, nI_55, h⟩ := stI_some h
      obtain ⟨L_55, nL_55, h⟩ := stI_some h
      obtain ⟨R_55, nR_55, h⟩ := stI_some h
      have hS_55 : Sh z_55 kd_55 R_55 := by rw [nz_55, nkd_55, nR_55]; exact Sh_alo hS_49
      obtain ⟨⟨z_57, k_57⟩, h⟩ := ite_some h
      obtain ⟨R_57, nR_57, h⟩ := stI_some h
      have hS_57 : Sh z_55 kd_55 R_57 := by rw [nR_57]; exact Sh_putb hS_55 ha
      obtain ⟨mk_64, ms_64, h, ek_64, em_64⟩ := adk_some h
      obtain ⟨z_64, nz_64, h⟩ := stI_some h
      obtain ⟨kd_64, nkd_64, h⟩ := stI_some h
      obtain ⟨I_64, nI_64, h⟩ := stI_some h
      obtain ⟨L_64, nL_64, h⟩ := stI_some h
      obtain ⟨R_64, nR_64, h⟩ := stI_some h
      have hS_64 : Sh z_64 kd_64 R_64 := by rw [nz_64, nkd_64, nR_64]; exact Sh_alo hS_57
      obtain ⟨⟨z_66, k_66⟩, h⟩ := ite_some h
      obtain ⟨R_66, nR_66, h⟩ := stI_some h
      have hS_66 : Sh z_64 kd_64 R_66 := by rw [nR_66]; exact Sh_putb hS_64 ha
      obtain ⟨mk_73, ms_73, h, ek_73, em_73⟩ := adk_some h
      obtain ⟨z_73, nz_73, h⟩ := stI_some h
      obtain ⟨kd_73, nkd_73, h⟩ := stI_some h
      obtain ⟨I_73, nI_73, h⟩ := stI_some h
      obtain ⟨L_73, nL_73, h⟩ := stI_some h
      obtain ⟨R_73, nR_73, h⟩ := stI_some h
      have hS_73 : Sh z_73 kd_73 R_73 := by rw [nz_73, nkd_73, nR_73]; exact Sh_alo hS_66
      obtain ⟨⟨z_75, k_75⟩, h⟩ := ite_some h
      obtain ⟨R_75, nR_75, h⟩ := stI_some h
      have hS_75 : Sh z_73 kd_73 R_75 := by rw [nR_75]; exact Sh_putb hS_73 ha
      obtain ⟨mk_82, ms_82, h, ek_82, em_82⟩ := adk_some h
      obtain ⟨z_82, nz_82, h⟩ := stI_some h
      obtain ⟨kd_82, nkd_82, h⟩ := stI_some h
      obtain ⟨I_82, nI_82, h⟩ := stI_some h
      obtain ⟨L_82, nL_82, h⟩ := stI_some h
      obtain ⟨R_82, nR_82, h⟩ := stI_some h
      have hS_82 : Sh z_82 kd_82 R_82 := by rw [nz_82, nkd_82, nR_82]; exact Sh_alo hS_75
      obtain ⟨⟨z_84, k_84⟩, h⟩ := ite_some h
      obtain ⟨R_84, nR_84, h⟩ := stI_some h
      have hS_84 : Sh z_82 kd_82 R_84 := by rw [nR_84]; exact Sh_putb hS_82 ha
      obtain ⟨⟨z_89, k_89⟩, h⟩ := ite_some h
      obtain ⟨I_89, nI_89, h⟩ := stI_some h
      obtain ⟨⟨z_94, k_94⟩, h⟩ := ite_some h
      obtain ⟨I_94, nI_94, h⟩ := stI_some h
      obtain ⟨⟨z_99, k_99⟩, h⟩ := ite_some h
      obtain ⟨I_99, nI_99, h⟩ := stI_some h
      obtain ⟨⟨z_104, k_104⟩, h⟩ := ite_some h
      obtain ⟨I_104, nI_104, h⟩ := stI_some h
      cases h
      exact hS_84
theorem a_3 (X : GX) {z : Nat} {kd : (Nat → Nat × Nat)} {I : (Nat → Nat → Int32)} {L : (Nat → Nat → Int64)} {R : (Nat → Nat → Option Nat)} {n dp d : Nat} (hd : dp ≤ d) {a0 : Nat} {z1 : Nat} {kd1 : (Nat → Nat × Nat)} {I1 : (Nat → Nat → Int32)} {L1 : (Nat → Nat → Int64)} {R1 : (Nat → Nat → Option Nat)} {k1 m1 : Nat} (h : g_3 n dp 0 z kd I L R a0 = some ((z1, kd1, I1, L1, R1), k1, m1)) : Ct X d 3 k1 m1 [.ref a0] (z, kd, I, L, R) (AV (fun τ => τ = (z1, kd1, I1, L1, R1))) :=
  Ct_of mu_3 (Nat.le_of_ble_eq_true rfl) ((w_3 X n dp d hd z kd I L R a0 _ _ _ _ _ _ _) h k1 m1 0 0 (by omega) (by omega))
theorem s_3 {z : Nat} {kd : (Nat → Nat × Nat)} {I : (Nat → Nat → Int32)} {L : (Nat → Nat → Int64)} {R : (Nat → Nat → Option Nat)} (hS : Sh z kd R) {n dp : Nat} {a0 : Nat} {z1 : Nat} {kd1 : (Nat → Nat × Nat)} {I1 : (Nat → Nat → Int32)} {L1 : (Nat → Nat → Int64)} {R1 : (Nat → Nat → Option Nat)} {k1 m1 : Nat} (ha : 144 ≤ a0) (h : g_3 n dp 0 z kd I L R a0 = some ((z1, kd1, I1, L1, R1), k1, m1)) : Sh z1 kd1 R1 := (t_3 n dp z kd I L R hS a0 _ _ _ _ _ _ _ ha) h

/-! 2 CutFloor$Hall.<init>()V -/
set_option maxHeartbeats 4000000 in
set_option maxRecDepth 100000 in
def g_2 : Nat → Nat → Nat → Nat → (Nat → Nat × Nat) → (Nat → Nat → Int32) → (Nat → Nat → Int64) → (Nat → Nat → Option Nat) → Nat →  Option ((PS) × Nat × Nat)
  | 0, _, _, _, _, _, _, _, _ => none
  | n + 1, dp, lab, z, kd, I, L, R, a0 =>
    if lab = 0 then (if 1 ≤ dp then (adk 1 3 (stI (z + 1) (fun z_6 => (stI (va_up kd z (13, 3)) (fun kd_6 => (stI (va_up I z (fun _ => 0)) (fun I_6 => (stI (va_up L z (fun _ => 0)) (fun L_6 => (stI (va_up R z (fun _ => none)) (fun R_6 => (if a0 < z_6 ∧ (kd_6 a0).1 = 3 then (stI (u2 R_6 a0 0 (some z)) (fun R_8 => (adk 1 30 (stI (z_6 + 1) (fun z_14 => (stI (va_up kd_6 z_6 (13, 30)) (fun kd_14 => (stI (va_up I_6 z_6 (fun _ => 0)) (fun I_14 => (stI (va_up L_6 z_6 (fun _ => 0)) (fun L_14 => (stI (va_up R_8 z_6 (fun _ => none)) (fun R_14 => (if a0 < z_14 ∧ (kd_14 a0).1 = 3 then (stI (u2 R_14 a0 1 (some z_6)) (fun R_16 => (adk 1 30 (stI (z_14 + 1) (fun z_22 => (stI (va_up kd_14 z_14 (13, 30)) (fun kd_22 => (stI (va_up I_14 z_14 (fun _ => 0)) (fun I_22 => (stI (va_up L_14 z_14 (fun _ => 0)) (fun L_22 => (stI (va_up R_16 z_14 (fun _ => none)) (fun R_22 => (if a0 < z_22 ∧ (kd_22 a0).1 = 3 then (stI (u2 R_22 a0 2 (some z_14)) (fun R_24 => (adk 1 4 (stI (z_22 + 1) (fun z_29 => (stI (va_up kd_22 z_22 (13, 4)) (fun kd_29 => (stI (va_up I_22 z_22 (fun _ => 0)) (fun I_29 => (stI (va_up L_22 z_22 (fun _ => 0)) (fun L_29 => (stI (va_up R_24 z_22 (fun _ => none)) (fun R_29 => (if a0 < z_29 ∧ (kd_29 a0).1 = 3 then (stI (u2 R_29 a0 3 (some z_22)) (fun R_31 => (adk 1 8 (stI (z_29 + 1) (fun z_37 => (stI (va_up kd_29 z_29 (13, 8)) (fun kd_37 => (stI (va_up I_29 z_29 (fun _ => 0)) (fun I_37 => (stI (va_up L_29 z_29 (fun _ => 0)) (fun L_37 => (stI (va_up R_31 z_29 (fun _ => none)) (fun R_37 => (if a0 < z_37 ∧ (kd_37 a0).1 = 3 then (stI (u2 R_37 a0 4 (some z_29)) (fun R_39 => (adk 1 112 (stI (z_37 + 1) (fun z_45 => (stI (va_up kd_37 z_37 (13, 112)) (fun kd_45 => (stI (va_up I_37 z_37 (fun _ => 0)) (fun I_45 => (stI (va_up L_37 z_37 (fun _ => 0)) (fun L_45 => (stI (va_up R_39 z_37 (fun _ => none)) (fun R_45 => (if a0 < z_45 ∧ (kd_45 a0).1 = 3 then (stI (u2 R_45 a0 5 (some z_37)) (fun R_47 => (adk 1 40 (stI (z_45 + 1) (fun z_53 => (stI (va_up kd_45 z_45 (13, 40)) (fun kd_53 => (stI (va_up I_45 z_45 (fun _ => 0)) (fun I_53 => (stI (va_up L_45 z_45 (fun _ => 0)) (fun L_53 => (stI (va_up R_47 z_45 (fun _ => none)) (fun R_53 => (if a0 < z_53 ∧ (kd_53 a0).1 = 3 then (stI (u2 R_53 a0 6 (some z_45)) (fun R_55 => (adk 1 (clN 10).2.2 (stI (z_53 + 1) (fun z_59 => (stI (va_up kd_53 z_53 (10, 0)) (fun kd_59 => (stI (va_up I_53 z_53 (fun _ => 0)) (fun I_59 => (stI (va_up L_53 z_53 (fun _ => 0)) (fun L_59 => (stI (va_up R_55 z_53 (fun _ => none)) (fun R_59 => (if 1 ≤ dp then (if z_53 < z_59 ∧ (kd_59 z_53).1 = 10 then (g_3 n (dp - 1) 0 z_59 kd_59 I_59 L_59 R_59 z_53).bind (fun ⟨⟨z_63, kd_63, I_63, L_63, R_63⟩, ck_63, cm_63⟩ => (adk ck_63 cm_63 (if a0 < z_63 ∧ (kd_63 a0).1 = 3 then (stI (u2 R_63 a0 7 (some z_53)) (fun R_66 => (if a0 < z_63 ∧ (kd_63 a0).1 = 3 then (stI (u2 I_63 a0 8 (0 : Int32)) (fun I_71 => (if a0 < z_63 ∧ (kd_63 a0).1 = 3 then (stI (u2 I_71 a0 9 (0 : Int32)) (fun I_76 => (if a0 < z_63 ∧ (kd_63 a0).1 = 3 then (stI (u2 I_76 a0 10 (0 : Int32)) (fun I_81 => (if a0 < z_63 ∧ (kd_63 a0).1 = 3 then (stI (u2 I_81 a0 11 (0 : Int32)) (fun I_86 => (if a0 < z_63 ∧ (kd_63 a0).1 = 3 then (stI (u2 I_86 a0 12 (5 : Int32)) (fun I_91 => (some ((z_63, kd_63, I_91, L_63, R_66), 0, 0)))) else none))) else none))) else none))) else none))) else none))) else none))) else none) else none)))))))))))))) else none)))))))))))))) else none)))))))))))))) else none)))))))))))))) else none)))))))))))))) else none)))))))))))))) else none)))))))))))))) else none)))))))))))) else none)
    else none
set_option maxRecDepth 100000 in
theorem e_2_0 (n dp : Nat) (z : Nat) (kd : (Nat → Nat × Nat)) (I : (Nat → Nat → Int32)) (L : (Nat → Nat → Int64)) (R : (Nat → Nat → Option Nat)) (a0 : Nat) : g_2 (n + 1) dp 0 z kd I L R a0 = (if 1 ≤ dp then (adk 1 3 (stI (z + 1) (fun z_6 => (stI (va_up kd z (13, 3)) (fun kd_6 => (stI (va_up I z (fun _ => 0)) (fun I_6 => (stI (va_up L z (fun _ => 0)) (fun L_6 => (stI (va_up R z (fun _ => none)) (fun R_6 => (if a0 < z_6 ∧ (kd_6 a0).1 = 3 then (stI (u2 R_6 a0 0 (some z)) (fun R_8 => (adk 1 30 (stI (z_6 + 1) (fun z_14 => (stI (va_up kd_6 z_6 (13, 30)) (fun kd_14 => (stI (va_up I_6 z_6 (fun _ => 0)) (fun I_14 => (stI (va_up L_6 z_6 (fun _ => 0)) (fun L_14 => (stI (va_up R_8 z_6 (fun _ => none)) (fun R_14 => (if a0 < z_14 ∧ (kd_14 a0).1 = 3 then (stI (u2 R_14 a0 1 (some z_6)) (fun R_16 => (adk 1 30 (stI (z_14 + 1) (fun z_22 => (stI (va_up kd_14 z_14 (13, 30)) (fun kd_22 => (stI (va_up I_14 z_14 (fun _ => 0)) (fun I_22 => (stI (va_up L_14 z_14 (fun _ => 0)) (fun L_22 => (stI (va_up R_16 z_14 (fun _ => none)) (fun R_22 => (if a0 < z_22 ∧ (kd_22 a0).1 = 3 then (stI (u2 R_22 a0 2 (some z_14)) (fun R_24 => (adk 1 4 (stI (z_22 + 1) (fun z_29 => (stI (va_up kd_22 z_22 (13, 4)) (fun kd_29 => (stI (va_up I_22 z_22 (fun _ => 0)) (fun I_29 => (stI (va_up L_22 z_22 (fun _ => 0)) (fun L_29 => (stI (va_up R_24 z_22 (fun _ => none)) (fun R_29 => (if a0 < z_29 ∧ (kd_29 a0).1 = 3 then (stI (u2 R_29 a0 3 (some z_22)) (fun R_31 => (adk 1 8 (stI (z_29 + 1) (fun z_37 => (stI (va_up kd_29 z_29 (13, 8)) (fun kd_37 => (stI (va_up I_29 z_29 (fun _ => 0)) (fun I_37 => (stI (va_up L_29 z_29 (fun _ => 0)) (fun L_37 => (stI (va_up R_31 z_29 (fun _ => none)) (fun R_37 => (if a0 < z_37 ∧ (kd_37 a0).1 = 3 then (stI (u2 R_37 a0 4 (some z_29)) (fun R_39 => (adk 1 112 (stI (z_37 + 1) (fun z_45 => (stI (va_up kd_37 z_37 (13, 112)) (fun kd_45 => (stI (va_up I_37 z_37 (fun _ => 0)) (fun I_45 => (stI (va_up L_37 z_37 (fun _ => 0)) (fun L_45 => (stI (va_up R_39 z_37 (fun _ => none)) (fun R_45 => (if a0 < z_45 ∧ (kd_45 a0).1 = 3 then (stI (u2 R_45 a0 5 (some z_37)) (fun R_47 => (adk 1 40 (stI (z_45 + 1) (fun z_53 => (stI (va_up kd_45 z_45 (13, 40)) (fun kd_53 => (stI (va_up I_45 z_45 (fun _ => 0)) (fun I_53 => (stI (va_up L_45 z_45 (fun _ => 0)) (fun L_53 => (stI (va_up R_47 z_45 (fun _ => none)) (fun R_53 => (if a0 < z_53 ∧ (kd_53 a0).1 = 3 then (stI (u2 R_53 a0 6 (some z_45)) (fun R_55 => (adk 1 (clN 10).2.2 (stI (z_53 + 1) (fun z_59 => (stI (va_up kd_53 z_53 (10, 0)) (fun kd_59 => (stI (va_up I_53 z_53 (fun _ => 0)) (fun I_59 => (stI (va_up L_53 z_53 (fun _ => 0)) (fun L_59 => (stI (va_up R_55 z_53 (fun _ => none)) (fun R_59 => (if 1 ≤ dp then (if z_53 < z_59 ∧ (kd_59 z_53).1 = 10 then (g_3 n (dp - 1) 0 z_59 kd_59 I_59 L_59 R_59 z_53).bind (fun ⟨⟨z_63, kd_63, I_63, L_63, R_63⟩, ck_63, cm_63⟩ => (adk ck_63 cm_63 (if a0 < z_63 ∧ (kd_63 a0).1 = 3 then (stI (u2 R_63 a0 7 (some z_53)) (fun R_66 => (if a0 < z_63 ∧ (kd_63 a0).1 = 3 then (stI (u2 I_63 a0 8 (0 : Int32)) (fun I_71 => (if a0 < z_63 ∧ (kd_63 a0).1 = 3 then (stI (u2 I_71 a0 9 (0 : Int32)) (fun I_76 => (if a0 < z_63 ∧ (kd_63 a0).1 = 3 then (stI (u2 I_76 a0 10 (0 : Int32)) (fun I_81 => (if a0 < z_63 ∧ (kd_63 a0).1 = 3 then (stI (u2 I_81 a0 11 (0 : Int32)) (fun I_86 => (if a0 < z_63 ∧ (kd_63 a0).1 = 3 then (stI (u2 I_86 a0 12 (5 : Int32)) (fun I_91 => (some ((z_63, kd_63, I_91, L_63, R_66), 0, 0)))) else none))) else none))) else none))) else none))) else none))) else none))) else none) else none)))))))))))))) else none)))))))))))))) else none)))))))))))))) else none)))))))))))))) else none)))))))))))))) else none)))))))))))))) else none)))))))))))))) else none)))))))))))) else none) := by rw [g_2.eq_2, if_pos (show (0 : Nat) = 0 from rfl)]
set_option maxHeartbeats 8000000 in
set_option maxRecDepth 100000 in
theorem w_2 (X : GX) : ∀ (n dp d : Nat), dp ≤ d → ∀ (z : Nat) (kd : (Nat → Nat × Nat)) (I : (Nat → Nat → Int32)) (L : (Nat → Nat → Int64)) (R : (Nat → Nat → Option Nat)), ∀ (a0 : Nat) (z1 : Nat) (kd1 : (Nat → Nat × Nat)) (I1 : (Nat → Nat → Int32)) (L1 : (Nat → Nat → Int64)) (R1 : (Nat → Nat → Option Nat)) (k1 m1 : Nat), (g_2 n dp 0 z kd I L R a0 = some ((z1, kd1, I1, L1, R1), k1, m1) → ∀ MC MS k m : Nat, k + k1 ≤ MC → m + m1 ≤ MS → K X d 2 MC MS (AV (fun τ => τ = (z1, kd1, I1, L1, R1))) 0 [some (.ref a0)] [] (z, kd, I, L, R) k m) := by
  intro n
  induction n with
  | zero => intro dp d hdp z kd I L R  a0 z1 kd1 I1 L1 R1 k1 m1; exact fun h => by cases h
  | succ n ih =>
    intro dp d hdp z kd I L R  a0 z1 kd1 I1 L1 R1 k1 m1
    · intro h MC MS k m hMC hMS
      rw [e_2_0] at h
      refine K_of b_2_0 h_2_0 ?_
      refine q_aload rfl ?_
      obtain ⟨d_1, h⟩ := ite_some h
      refine q_obj (Nat.le_of_ble_eq_true rfl) (Nat.le_trans d_1 hdp) ?_
      refine q_aload rfl ?_
      refine q_iconst (3) (by decide) ?_
      obtain ⟨mk_6, ms_6, h, ek_6, em_6⟩ := adk_some h
      refine q_newa (m0 := 3) (by decide) (by decide) (by decide) (by decide) (by omega) (by omega) ?_
      obtain ⟨z_6, nz_6, h⟩ := stI_some h
      obtain ⟨kd_6, nkd_6, h⟩ := stI_some h
      obtain ⟨I_6, nI_6, h⟩ := stI_some h
      obtain ⟨L_6, nL_6, h⟩ := stI_some h
      obtain ⟨R_6, nR_6, h⟩ := stI_some h
      refine q_n5 nz_6 nkd_6 nI_6 nL_6 nR_6 ?_
      obtain ⟨⟨z_8, k_8⟩, h⟩ := ite_some h
      refine q_putR (c0 := 3) (j := 0) rfl rfl z_8 (fst_eq k_8) rfl ?_
      obtain ⟨R_8, nR_8, h⟩ := stI_some h
      refine q_nR nR_8 ?_
      refine q_aload rfl ?_
      refine q_iconst (30) (by decide) ?_
      obtain ⟨mk_14, ms_14, h, ek_14, em_14⟩ := adk_some h
      refine q_newa (m0 := 30) (by decide) (by decide) (by decide) (by decide) (by omega) (by omega) ?_
      obtain ⟨z_14, nz_14, h⟩ := stI_some h
      obtain ⟨kd_14, nkd_14, h⟩ := stI_some h
      obtain ⟨I_14, nI_14, h⟩ := stI_some h
      obtain ⟨L_14, nL_14, h⟩ := stI_some h
      obtain ⟨R_14, nR_14, h⟩ := stI_some h
      refine q_n5 nz_14 nkd_14 nI_14 nL_14 nR_14 ?_
      obtain ⟨⟨z_16, k_16⟩, h⟩ := ite_some h
      refine q_putR (c0 := 3) (j := 1) rfl rfl z_16 (fst_eq k_16) rfl ?_
      obtain ⟨R_16, nR_16, h⟩ := stI_some h
      refine q_nR nR_16 ?_
      refine q_aload rfl ?_
      refine q_iconst (30) (by decide) ?_
      obtain ⟨mk_22, ms_22, h, ek_22, em_22⟩ := adk_some h
      refine q_newa (m0 := 30) (by decide) (by decide) (by decide) (by decide) (by omega) (by omega) ?_
      obtain ⟨z_22, nz_22, h⟩ := stI_some h
      obtain ⟨kd_22, nkd_22, h⟩ := stI_some h
      obtain ⟨I_22, nI_22, h⟩ := stI_some h
      obtain ⟨L_22, nL_22, h⟩ := stI_some h
      obtain ⟨R_22, nR_22, h⟩ := stI_some h
      refine q_n5 nz_22 nkd_22 nI_22 nL_22 nR_22 ?_
      obtain ⟨⟨z_24, k_24⟩, h⟩ := ite_some h
      refine q_putR (c0 := 3) (j := 2) rfl rfl z_24 (fst_eq k_24) rfl ?_
      obtain ⟨R_24, nR_24, h⟩ := stI_some h
      refine q_nR nR_24 ?_
      refine q_aload rfl ?_
      refine q_iconst (4) (by decide) ?_
      obtain ⟨mk_29, ms_29, h, ek_29, em_29⟩ := adk_some h
      refine q_newa (m0 := 4) (by decide) (by decide) (by decide) (by decide) (by omega) (by omega) ?_
      obtain ⟨z_29, nz_29, h⟩ := stI_some h
      obtain ⟨kd_29, nkd_29, h⟩ := stI_some h
      obtain ⟨I_29, nI_29, h⟩ := stI_some h
      obtain ⟨L_29, nL_29, h⟩ := stI_some h
      obtain ⟨R_29, nR_29, h⟩ := stI_some h
      refine q_n5 nz_29 nkd_29 nI_29 nL_29 nR_29 ?_
      obtain ⟨⟨z_31, k_31⟩, h⟩ := ite_some h
      refine q_putR (c0 := 3) (j := 3) rfl rfl z_31 (fst_eq k_31) rfl ?_
      obtain ⟨R_31, nR_31, h⟩ := stI_some h
      refine q_nR nR_31 ?_
      refine q_aload rfl ?_
      refine q_iconst (8) (by decide) ?_
      obtain ⟨mk_37, ms_37, h, ek_37, em_37⟩ := adk_some h
      refine q_newa (m0 := 8) (by decide) (by decide) (by decide) (by decide) (by omega) (by omega) ?_
      obtain ⟨z_37, nz_37, h⟩ := stI_some h
      obtain ⟨kd_37, nkd_37, h⟩ := stI_some h
      obtain ⟨I_37, nI_37, h⟩ := stI_some h
      obtain ⟨L_37, nL_37, h⟩ := stI_some h
      obtain ⟨R_37, nR_37, h⟩ := stI_some h
      refine q_n5 nz_37 nkd_37 nI_37 nL_37 nR_37 ?_
      obtain ⟨⟨z_39, k_39⟩, h⟩ := ite_some h
      refine q_putR (c0 := 3) (j := 4) rfl rfl z_39 (fst_eq k_39) rfl ?_
      obtain ⟨R_39, nR_39, h⟩ := stI_some h
      refine q_nR nR_39 ?_
      refine q_aload rfl ?_
      refine q_iconst (112) (by decide) ?_
      obtain ⟨mk_45, ms_45, h, ek_45, em_45⟩ := adk_some h
      refine q_newa (m0 := 112) (by decide) (by decide) (by decide) (by decide) (by omega) (by omega) ?_
      obtain ⟨z_45, nz_45, h⟩ := stI_some h
      obtain ⟨kd_45, nkd_45, h⟩ := stI_some h
      obtain ⟨I_45, nI_45, h⟩ := stI_some h
      obtain ⟨L_45, nL_45, h⟩ := stI_some h
      obtain ⟨R_45, nR_45, h⟩ := stI_some h
      refine q_n5 nz_45 nkd_45 nI_45 nL_45 nR_45 ?_
      obtain ⟨⟨z_47, k_47⟩, h⟩ := ite_some h
      refine q_putR (c0 := 3) (j := 5) rfl rfl z_47 (fst_eq k_47) rfl ?_
      obtain ⟨R_47, nR_47, h⟩ := stI_some h
      refine q_nR nR_47 ?_
      refine q_aload rfl ?_
      refine q_iconst (40) (by decide) ?_
      obtain ⟨mk_53, ms_53, h, ek_53, em_53⟩ := adk_some h
      refine q_newa (m0 := 40) (by decide) (by decide) (by decide) (by decide) (by omega) (by omega) ?_
      obtain ⟨z_53, nz_53, h⟩ := stI_some h
      obtain ⟨kd_53, nkd_53, h⟩ := stI_some h
      obtain ⟨I_53, nI_53, h⟩ := stI_some h
      obtain ⟨L_53, nL_53, h⟩ := stI_some h
      obtain ⟨R_53, nR_53, h⟩ := stI_some h
      refine q_n5 nz_53 nkd_53 nI_53 nL_53 nR_53 ?_
      obtain ⟨⟨z_55, k_55⟩, h⟩ := ite_some h
      refine q_putR (c0 := 3) (j := 6) rfl rfl z_55 (fst_eq k_55) rfl ?_
      obtain ⟨R_55, nR_55, h⟩ := stI_some h
      refine q_nR nR_55 ?_
      refine q_aload rfl ?_
      obtain ⟨mk_59, ms_59, h, ek_59, em_59⟩ := adk_some h
      refine q_new (by omega) (by omega) ?_
      obtain ⟨z_59, nz_59, h⟩ := stI_some h
      obtain ⟨kd_59, nkd_59, h⟩ := stI_some h
      obtain ⟨I_59, nI_59, h⟩ := stI_some h
      obtain ⟨L_59, nL_59, h⟩ := stI_some h
      obtain ⟨R_59, nR_59, h⟩ := stI_some h
      refine q_n5 nz_59 nkd_59 nI_59 nL_59 nR_59 ?_
      refine q_dup rfl ?_
      obtain ⟨d_63, h⟩ := ite_some h
      obtain ⟨⟨zr_63, kr_63⟩, h⟩ := ite_some h
      obtain ⟨⟨⟨z_63, kd_63, I_63, L_63, R_63⟩, ck_63, cm_63⟩, e_63, h⟩ := Option.bind_eq_some_iff.mp h
      dsimp only at h
      obtain ⟨mk_63, ms_63, h, ek_63, em_63⟩ := adk_some h
      refine q_gi1V (a_3 X (d := d - 1) (by omega) e_63) (by omega) (by omega) (by omega) rfl (Nat.le_of_ble_eq_true rfl) ⟨zr_63, kr_63, by decide⟩ ?_
      obtain ⟨⟨z_66, k_66⟩, h⟩ := ite_some h
      refine q_putR (c0 := 3) (j := 7) rfl rfl z_66 (fst_eq k_66) rfl ?_
      obtain ⟨R_66, nR_66, h⟩ := stI_some h
      refine q_nR nR_66 ?_
      refine q_aload rfl ?_
      refine q_iconst (0) (by decide) ?_
      obtain ⟨⟨z_71, k_71⟩, h⟩ := ite_some h
      refine q_putI (c0 := 3) (j := 8) rfl rfl z_71 (fst_eq k_71) rfl ?_
      obtain ⟨I_71, nI_71, h⟩ := stI_some h
      refine q_nI nI_71 ?_
      refine q_aload rfl ?_
      refine q_iconst (0) (by decide) ?_
      obtain ⟨⟨z_76, k_76⟩, h⟩ := ite_some h
      refine q_putI (c0 := 3) (j := 9) rfl rfl z_76 (fst_eq k_76) rfl ?_
      obtain ⟨I_76, nI_76, h⟩ := stI_some h
      refine q_nI nI_76 ?_
      refine q_aload rfl ?_
      refine q_iconst (0) (by decide) ?_
      obtain ⟨⟨z_81, k_81⟩, h⟩ := ite_some h
      refine q_putI (c0 := 3) (j := 10) rfl rfl z_81 (fst_eq k_81) rfl ?_
      obtain ⟨I_81, nI_81, h⟩ := stI_some h
      refine q_nI nI_81 ?_
      refine q_aload rfl ?_
      refine q_iconst (0) (by decide) ?_
      obtain ⟨⟨z_86, k_86⟩, h⟩ := ite_some h
      refine q_putI (c0 := 3) (j := 11) rfl rfl z_86 (fst_eq k_86) rfl ?_
      obtain ⟨I_86, nI_86, h⟩ := stI_some h
      refine q_nI nI_86 ?_
      refine q_aload rfl ?_
      refine q_iconst (5) (by decide) ?_
      obtain ⟨⟨z_91, k_91⟩, h⟩ := ite_some h
      refine q_putI (c0 := 3) (j := 12) rfl rfl z_91 (fst_eq k_91) rfl ?_
      obtain ⟨I_91, nI_91, h⟩ := stI_some h
      refine q_nI nI_91 ?_
      cases h
      exact q_vret rfl (by omega) (by omega) rfl
set_option maxHeartbeats 8000000 in
set_option maxRecDepth 100000 in
theorem t_2 : ∀ (n dp : Nat) (z : Nat) (kd : (Nat → Nat × Nat)) (I : (Nat → Nat → Int32)) (L : (Nat → Nat → Int64)) (R : (Nat → Nat → Option Nat)), Sh z kd R → ∀ (a0 : Nat) (z1 : Nat) (kd1 : (Nat → Nat × Nat)) (I1 : (Nat → Nat → Int32)) (L1 : (Nat → Nat → Int64)) (R1 : (Nat → Nat → Option Nat)) (k1 m1 : Nat), 144 ≤ a0 → (g_2 n dp 0 z kd I L R a0 = some ((z1, kd1, I1, L1, R1), k1, m1) → Sh z1 kd1 R1) := by
  intro n
  induction n with
  | zero => intro dp z kd I L R hS a0 z1 kd1 I1 L1 R1 k1 m1 ha; exact fun h => by cases h
  | succ n ih =>
    intro dp z kd I L R hS a0 z1 kd1 I1 L1 R1 k1 m1 ha
    · intro h
      rw [e_2_0] at h
      obtain ⟨d_1, h⟩ := ite_some h
      obtain ⟨mk_6, ms_6, h, ek_6, em_6⟩ := adk_some h
      obtain ⟨z_6, nz_6, h⟩ := stI_some h
      obtain ⟨kd_6, nkd_6, h⟩ := stI_some h
      obtain ⟨I_6, nI_6, h⟩ := stI_some h
      obtain ⟨L_6, nL_6, h⟩ := stI_some h
      obtain ⟨R_6, nR_6, h⟩ := stI_some h
      have hS_6 : Sh z_6 kd_6 R_6 := by rw [nz_6, nkd_6, nR_6]; exact Sh_alo hS
      obtain ⟨⟨z_8, k_8⟩, h⟩ := ite_some h
      obtain ⟨R_8, nR_8, h⟩ := stI_some h
      have hS_8 : Sh z_6 kd_6 R_8 := by rw [nR_8]; exact Sh_putb hS_6 ha
      obtain ⟨mk_14, ms_14, h, ek_14, em_14⟩ := adk_some h
      obtain ⟨z_14, nz_14, h⟩ := stI_some h
      obtain ⟨kd_14, nkd_14, h⟩ := stI_some h
      obtain ⟨I_14, nI_14, h⟩ := stI_some h
      obtain ⟨L_14, nL_14, h⟩ := stI_some h
      obtain ⟨R_14, nR_14, h⟩ := stI_some h
      have hS_14 : Sh z_14 kd_14 R_14 := by rw [nz_14, nkd_14, nR_14]; exact Sh_alo hS_8
      obtain ⟨⟨z_16, k_16⟩, h⟩ := ite_some h
      obtain ⟨R_16, nR_16, h⟩ := stI_some h
      have hS_16 : Sh z_14 kd_14 R_16 := by rw [nR_16]; exact Sh_putb hS_14 ha
      obtain ⟨mk_22, ms_22, h, ek_22, em_22⟩ := adk_some h
      obtain ⟨z_22, nz_22, h⟩ := stI_some h
      obtain ⟨kd_22, nkd_22, h⟩ := stI_some h
      obtain ⟨I_22, nI_22, h⟩ := stI_some h
      obtain ⟨L_22, nL_22, h⟩ := stI_some h
      obtain ⟨R_22, nR_22, h⟩ := stI_some h
      have hS_22 : Sh z_22 kd_22 R_22 := by rw [nz_22, nkd_22, nR_22]; exact Sh_alo hS_16
      obtain ⟨⟨z_24, k_24⟩, h⟩ := ite_some h
      obtain ⟨R_24, nR_24, h⟩ := stI_some h
      have hS_24 : Sh z_22 kd_22 R_24 := by rw [nR_24]; exact Sh_putb hS_22 ha
      obtain ⟨mk_29, ms_29, h, ek_29, em_29⟩ := adk_some h
      obtain ⟨z_29, nz_29, h⟩ := stI_some h
      obtain ⟨kd_29, nkd_29, h⟩ := stI_some h
      obtain ⟨I_29, nI_29, h⟩ := stI_some h
      obtain ⟨L_29, nL_29, h⟩ := stI_some h
      obtain ⟨R_29, nR_29, h⟩ := stI_some h
      have hS_29 : Sh z_29 kd_29 R_29 := by rw [nz_29, nkd_29, nR_29]; exact Sh_alo hS_24
      obtain ⟨⟨z_31, k_31⟩, h⟩ := ite_some h
      obtain ⟨R_31, nR_31, h⟩ := stI_some h
      have hS_31 : Sh z_29 kd_29 R_31 := by rw [nR_31]; exact Sh_putb hS_29 ha
      obtain ⟨mk_37, ms_37, h, ek_37, em_37⟩ := adk_some h
      obtain ⟨z_37, nz_37, h⟩ := stI_some h
      obtain ⟨kd_37, nkd_37, h⟩ := stI_some h
      obtain ⟨I_37, nI_37, h⟩ := stI_some h
      obtain ⟨L_37, nL_37, h⟩ := stI_some h
      obtain ⟨R_37, nR_37, h⟩ := stI_some h
      have hS_37 : Sh z_37 kd_37 R_37 := by rw [nz_37, nkd_37, nR_37]; exact Sh_alo hS_31
      obtain ⟨⟨z_39, k_39⟩, h⟩ := ite_some h
      obtain ⟨R_39, nR_39, h⟩ := stI_some h
      have hS_39 : Sh z_37 kd_37 R_39 := by rw [nR_39]; exact Sh_putb hS_37 ha
      obtain ⟨mk_45, ms_45, h, ek_45, em_45⟩ := adk_some h
      obtain ⟨z_45, nz_45, h⟩ := stI_some h
      obtain ⟨kd_45, nkd_45, h⟩ := stI_some h
      obtain ⟨I_45, nI_45, h⟩ := stI_some h
      obtain ⟨L_45, nL_45, h⟩ := stI_some h
      obtain ⟨R_45, nR_45, h⟩ := stI_some h
      have hS_45 : Sh z_45 kd_45 R_45 := by rw [nz_45, nkd_45, nR_45]; exact Sh_alo hS_39
      obtain ⟨⟨z_47, k_47⟩, h⟩ := ite_some h
      obtain ⟨R_47, nR_47, h⟩ := stI_some h
      have hS_47 : Sh z_45 kd_45 R_47 := by rw [nR_47]; exact Sh_putb hS_45 ha
      obtain ⟨mk_53, ms_53, h, ek_53, em_53⟩ := adk_some h
      obtain ⟨z_53, nz_53, h⟩ := stI_some h
      obtain ⟨kd_53, nkd_53, h⟩ := stI_some h
      obtain ⟨I_53, nI_53, h⟩ := stI_some h
      obtain ⟨L_53, nL_53, h⟩ := stI_some h
      obtain ⟨R_53, nR_53, h⟩ := stI_some h
      have hS_53 : Sh z_53 kd_53 R_53 := by rw [nz_53, nkd_53, nR_53]; exact Sh_alo hS_47
      obtain ⟨⟨z_55, k_55⟩, h⟩ := ite_some h
      obtain ⟨R_55, nR_55, h⟩ := stI_some h
      have hS_55 : Sh z_53 kd_53 R_55 := by rw [nR_55]; exact Sh_putb hS_53 ha
      obtain ⟨mk_59, ms_59, h, ek_59, em_59⟩ := adk_some h
      obtain ⟨z_59, nz_59, h⟩ := stI_some h
      obtain ⟨kd_59, nkd_59, h⟩ := stI_some h
      obtain ⟨I_59, nI_59, h⟩ := stI_some h
      obtain ⟨L_59, nL_59, h⟩ := stI_some h
      obtain ⟨R_59, nR_59, h⟩ := stI_some h
      have hS_59 : Sh z_59 kd_59 R_59 := by rw [nz_59, nkd_59, nR_59]; exact Sh_alo hS_55
      obtain ⟨d_63, h⟩ := ite_some h
      obtain ⟨⟨zr_63, kr_63⟩, h⟩ := ite_some h
      obtain ⟨⟨⟨z_63, kd_63, I_63, L_63, R_63⟩, ck_63, cm_63⟩, e_63, h⟩ := Option.bind_eq_some_iff.mp h
      dsimp only at h
      obtain ⟨mk_63, ms_63, h, ek_63, em_63⟩ := adk_some h
      have hS_63 := s_3 hS_59 (ha := hS_55.1) e_63
      obtain ⟨⟨z_66, k_66⟩, h⟩ := ite_some h
      obtain ⟨R_66, nR_66, h⟩ := stI_some h
      have hS_66 : Sh z_63 kd_63 R_66 := by rw [nR_66]; exact Sh_putb hS_63 ha
      obtain ⟨⟨z_71, k_71⟩, h⟩ := ite_some h
      obtain ⟨I_71, nI_71, h⟩ := stI_some h
      obtain ⟨⟨z_76, k_76⟩, h⟩ := ite_some h
      obtain ⟨I_76, nI_76, h⟩ := stI_some h
      obtain ⟨⟨z_81, k_81⟩, h⟩ := ite_some h
      obtain ⟨I_81, nI_81, h⟩ := stI_some h
      obtain ⟨⟨z_86, k_86⟩, h⟩ := ite_some h
      obtain ⟨I_86, nI_86, h⟩ := stI_some h
      obtain ⟨⟨z_91, k_91⟩, h⟩ := ite_some h
      obtain ⟨I_91, nI_91, h⟩ := stI_some h
      cases h
      exact hS_66
theorem a_2 (X : GX) {z : Nat} {kd : (Nat → Nat × Nat)} {I : (Nat → Nat → Int32)} {L : (Nat → Nat → Int64)} {R : (Nat → Nat → Option Nat)} {n dp d : Nat} (hd : dp ≤ d) {a0 : Nat} {z1 : Nat} {kd1 : (Nat → Nat × Nat)} {I1 : (Nat → Nat → Int32)} {L1 : (Nat → Nat → Int64)} {R1 : (Nat → Nat → Option Nat)} {k1 m1 : Nat} (h : g_2 n dp 0 z kd I L R a0 = some ((z1, kd1, I1, L1, R1), k1, m1)) : Ct X d 2 k1 m1 [.ref a0] (z, kd, I, L, R) (AV (fun τ => τ = (z1, kd1, I1, L1, R1))) :=
  Ct_of mu_2 (Nat.le_of_ble_eq_true rfl) ((w_2 X n dp d hd z kd I L R a0 _ _ _ _ _ _ _) h k1 m1 0 0 (by omega) (by omega))
theorem s_2 {z : Nat} {kd : (Nat → Nat × Nat)} {I : (Nat → Nat → Int32)} {L : (Nat → Nat → Int64)} {R : (Nat → Nat → Option Nat)} (hS : Sh z kd R) {n dp : Nat} {a0 : Nat} {z1 : Nat} {kd1 : (Nat → Nat × Nat)} {I1 : (Nat → Nat → Int32)} {L1 : (Nat → Nat → Int64)} {R1 : (Nat → Nat → Option Nat)} {k1 m1 : Nat} (ha : 144 ≤ a0) (h : g_2 n dp 0 z kd I L R a0 = some ((z1, kd1, I1, L1, R1), k1, m1)) : Sh z1 kd1 R1 := (t_2 n dp z kd I L R hS a0 _ _ _ _ _ _ _ ha) h

/-! 4 CutFloor$Asker.<init>(LCutFloor$Hall;)V -/
set_option maxHeartbeats 4000000 in
set_option maxRecDepth 100000 in
def g_4 : Nat → Nat → Nat → Nat → (Nat → Nat × Nat) → (Nat → Nat → Int32) → (Nat → Nat → Int64) → (Nat → Nat → Option Nat) → Nat → Nat →  Option ((PS) × Nat × Nat)
  | 0, _, _, _, _, _, _, _, _, _ => none
  | n + 1, dp, lab, z, kd, I, L, R, a0, a1 =>
    if lab = 0 then (if 1 ≤ dp then (adk 1 5 (stI (z + 1) (fun z_6 => (stI (va_up kd z (13, 5)) (fun kd_6 => (stI (va_up I z (fun _ => 0)) (fun I_6 => (stI (va_up L z (fun _ => 0)) (fun L_6 => (stI (va_up R z (fun _ => none)) (fun R_6 => (if a0 < z_6 ∧ (kd_6 a0).1 = 0 then (stI (u2 R_6 a0 1 (some z)) (fun R_8 => (adk 1 64 (stI (z_6 + 1) (fun z_14 => (stI (va_up kd_6 z_6 (13, 64)) (fun kd_14 => (stI (va_up I_6 z_6 (fun _ => 0)) (fun I_14 => (stI (va_up L_6 z_6 (fun _ => 0)) (fun L_14 => (stI (va_up R_8 z_6 (fun _ => none)) (fun R_14 => (if a0 < z_14 ∧ (kd_14 a0).1 = 0 then (stI (u2 R_14 a0 2 (some z_6)) (fun R_16 => (if a0 < z_14 ∧ (kd_14 a0).1 = 0 then (stI (u2 I_14 a0 3 (0 : Int32)) (fun I_21 => (if a0 < z_14 ∧ (kd_14 a0).1 = 0 then (stI (u2 I_21 a0 4 (0 : Int32)) (fun I_26 => (if a0 < z_14 ∧ (kd_14 a0).1 = 0 then (stI (u2 R_16 a0 0 (some a1)) (fun R_31 => (some ((z_14, kd_14, I_26, L_14, R_31), 0, 0)))) else none))) else none))) else none))) else none)))))))))))))) else none)))))))))))) else none)
    else none
set_option maxRecDepth 100000 in
theorem e_4_0 (n dp : Nat) (z : Nat) (kd : (Nat → Nat × Nat)) (I : (Nat → Nat → Int32)) (L : (Nat → Nat → Int64)) (R : (Nat → Nat → Option Nat)) (a0 : Nat) (a1 : Nat) : g_4 (n + 1) dp 0 z kd I L R a0 a1 = (if 1 ≤ dp then (adk 1 5 (stI (z + 1) (fun z_6 => (stI (va_up kd z (13, 5)) (fun kd_6 => (stI (va_up I z (fun _ => 0)) (fun I_6 => (stI (va_up L z (fun _ => 0)) (fun L_6 => (stI (va_up R z (fun _ => none)) (fun R_6 => (if a0 < z_6 ∧ (kd_6 a0).1 = 0 then (stI (u2 R_6 a0 1 (some z)) (fun R_8 => (adk 1 64 (stI (z_6 + 1) (fun z_14 => (stI (va_up kd_6 z_6 (13, 64)) (fun kd_14 => (stI (va_up I_6 z_6 (fun _ => 0)) (fun I_14 => (stI (va_up L_6 z_6 (fun _ => 0)) (fun L_14 => (stI (va_up R_8 z_6 (fun _ => none)) (fun R_14 => (if a0 < z_14 ∧ (kd_14 a0).1 = 0 then (stI (u2 R_14 a0 2 (some z_6)) (fun R_16 => (if a0 < z_14 ∧ (kd_14 a0).1 = 0 then (stI (u2 I_14 a0 3 (0 : Int32)) (fun I_21 => (if a0 < z_14 ∧ (kd_14 a0).1 = 0 then (stI (u2 I_21 a0 4 (0 : Int32)) (fun I_26 => (if a0 < z_14 ∧ (kd_14 a0).1 = 0 then (stI (u2 R_16 a0 0 (some a1)) (fun R_31 => (some ((z_14, kd_14, I_26, L_14, R_31), 0, 0)))) else none))) else none))) else none))) else none)))))))))))))) else none)))))))))))) else none) := by rw [g_4.eq_2, if_pos (show (0 : Nat) = 0 from rfl)]
set_option maxHeartbeats 8000000 in
set_option maxRecDepth 100000 in
theorem w_4 (X : GX) : ∀ (n dp d : Nat), dp ≤ d → ∀ (z : Nat) (kd : (Nat → Nat × Nat)) (I : (Nat → Nat → Int32)) (L : (Nat → Nat → Int64)) (R : (Nat → Nat → Option Nat)), ∀ (a0 : Nat) (a1 : Nat) (z1 : Nat) (kd1 : (Nat → Nat × Nat)) (I1 : (Nat → Nat → Int32)) (L1 : (Nat → Nat → Int64)) (R1 : (Nat → Nat → Option Nat)) (k1 m1 : Nat), (g_4 n dp 0 z kd I L R a0 a1 = some ((z1, kd1, I1, L1, R1), k1, m1) → ∀ MC MS k m : Nat, k + k1 ≤ MC → m + m1 ≤ MS → K X d 4 MC MS (AV (fun τ => τ = (z1, kd1, I1, L1, R1))) 0 [some (.ref a0), some (.ref a1)] [] (z, kd, I, L, R) k m) := by
  intro n
  induction n with
  | zero => intro dp d hdp z kd I L R  a0 a1 z1 kd1 I1 L1 R1 k1 m1; exact fun h => by cases h
  | succ n ih =>
    intro dp d hdp z kd I L R  a0 a1 z1 kd1 I1 L1 R1 k1 m1
    · intro h MC MS k m hMC hMS
      rw [e_4_0] at h
      refine K_of b_4_0 h_4_0 ?_
      refine q_aload rfl ?_
      obtain ⟨d_1, h⟩ := ite_some h
      refine q_obj (Nat.le_of_ble_eq_true rfl) (Nat.le_trans d_1 hdp) ?_
      refine q_aload rfl ?_
      refine q_iconst (5) (by decide) ?_
      obtain ⟨mk_6, ms_6, h, ek_6, em_6⟩ := adk_some h
      refine q_newa (m0 := 5) (by decide) (by decide) (by decide) (by decide) (by omega) (by omega) ?_
      obtain ⟨z_6, nz_6, h⟩ := stI_some h
      obtain ⟨kd_6, nkd_6, h⟩ := stI_some h
      obtain ⟨I_6, nI_6, h⟩ := stI_some h
      obtain ⟨L_6, nL_6, h⟩ := stI_some h
      obtain ⟨R_6, nR_6, h⟩ := stI_some h
      refine q_n5 nz_6 nkd_6 nI_6 nL_6 nR_6 ?_
      obtain ⟨⟨z_8, k_8⟩, h⟩ := ite_some h
      refine q_putR (c0 := 0) (j := 1) rfl rfl z_8 (fst_eq k_8) rfl ?_
      obtain ⟨R_8, nR_8, h⟩ := stI_some h
      refine q_nR nR_8 ?_
      refine q_aload rfl ?_
      refine q_iconst (64) (by decide) ?_
      obtain ⟨mk_14, ms_14, h, ek_14, em_14⟩ := adk_some h
      refine q_newa (m0 := 64) (by decide) (by decide) (by decide) (by decide) (by omega) (by omega) ?_
      obtain ⟨z_14, nz_14, h⟩ := stI_some h
      obtain ⟨kd_14, nkd_14, h⟩ := stI_some h
      obtain ⟨I_14, nI_14, h⟩ := stI_some h
      obtain ⟨L_14, nL_14, h⟩ := stI_some h
      obtain ⟨R_14, nR_14, h⟩ := stI_some h
      refine q_n5 nz_14 nkd_14 nI_14 nL_14 nR_14 ?_
      obtain ⟨⟨z_16, k_16⟩, h⟩ := ite_some h
      refine q_putR (c0 := 0) (j := 2) rfl rfl z_16 (fst_eq k_16) rfl ?_
      obtain ⟨R_16, nR_16, h⟩ := stI_some h
      refine q_nR nR_16 ?_
      refine q_aload rfl ?_
      refine q_iconst (0) (by decide) ?_
      obtain ⟨⟨z_21, k_21⟩, h⟩ := ite_some h
      refine q_putZ (c0 := 0) (j := 3) rfl rfl z_21 (fst_eq k_21) rfl (Or.inl rfl) ?_
      obtain ⟨I_21, nI_21, h⟩ := stI_some h
      refine q_nI nI_21 ?_
      refine q_aload rfl ?_
      refine q_iconst (0) (by decide) ?_
      obtain ⟨⟨z_26, k_26⟩, h⟩ := ite_some h
      refine q_putI (c0 := 0) (j := 4) rfl rfl z_26 (fst_eq k_26) rfl ?_
      obtain ⟨I_26, nI_26, h⟩ := stI_some h
      refine q_nI nI_26 ?_
      refine q_aload rfl ?_
      refine q_aload rfl ?_
      obtain ⟨⟨z_31, k_31⟩, h⟩ := ite_some h
      refine q_putR (c0 := 0) (j := 0) rfl rfl z_31 (fst_eq k_31) rfl ?_
      obtain ⟨R_31, nR_31, h⟩ := stI_some h
      refine q_nR nR_31 ?_
      cases h
      exact q_vret rfl (by omega) (by omega) rfl
theorem a_4 (X : GX) {z : Nat} {kd : (Nat → Nat × Nat)} {I : (Nat → Nat → Int32)} {L : (Nat → Nat → Int64)} {R : (Nat → Nat → Option Nat)} {n dp d : Nat} (hd : dp ≤ d) {a0 : Nat} {a1 : Nat} {z1 : Nat} {kd1 : (Nat → Nat × Nat)} {I1 : (Nat → Nat → Int32)} {L1 : (Nat → Nat → Int64)} {R1 : (Nat → Nat → Option Nat)} {k1 m1 : Nat} (h : g_4 n dp 0 z kd I L R a0 a1 = some ((z1, kd1, I1, L1, R1), k1, m1)) : Ct X d 4 k1 m1 [.ref a0, .ref a1] (z, kd, I, L, R) (AV (fun τ => τ = (z1, kd1, I1, L1, R1))) :=
  Ct_of mu_4 (Nat.le_of_ble_eq_true rfl) ((w_4 X n dp d hd z kd I L R a0 a1 _ _ _ _ _ _ _) h k1 m1 0 0 (by omega) (by omega))

/-! 6 CutFloor$Offers.<init>()V -/
set_option maxHeartbeats 4000000 in
set_option maxRecDepth 100000 in
def g_6 : Nat → Nat → Nat → Nat → (Nat → Nat × Nat) → (Nat → Nat → Int32) → (Nat → Nat → Int64) → (Nat → Nat → Option Nat) → Nat →  Option ((PS) × Nat × Nat)
  | 0, _, _, _, _, _, _, _, _ => none
  | n + 1, dp, lab, z, kd, I, L, R, a0 =>
    if lab = 0 then (if 1 ≤ dp then (adk 1 192 (stI (z + 1) (fun z_8 => (stI (va_up kd z (13, 192)) (fun kd_8 => (stI (va_up I z (fun _ => 0)) (fun I_8 => (stI (va_up L z (fun _ => 0)) (fun L_8 => (stI (va_up R z (fun _ => none)) (fun R_8 => (if a0 < z_8 ∧ (kd_8 a0).1 = 6 then (stI (u2 R_8 a0 0 (some z)) (fun R_10 => (adk 1 192 (stI (z_8 + 1) (fun z_17 => (stI (va_up kd_8 z_8 (13, 192)) (fun kd_17 => (stI (va_up I_8 z_8 (fun _ => 0)) (fun I_17 => (stI (va_up L_8 z_8 (fun _ => 0)) (fun L_17 => (stI (va_up R_10 z_8 (fun _ => none)) (fun R_17 => (if a0 < z_17 ∧ (kd_17 a0).1 = 6 then (stI (u2 R_17 a0 1 (some z_8)) (fun R_19 => (adk 1 192 (stI (z_17 + 1) (fun z_26 => (stI (va_up kd_17 z_17 (13, 192)) (fun kd_26 => (stI (va_up I_17 z_17 (fun _ => 0)) (fun I_26 => (stI (va_up L_17 z_17 (fun _ => 0)) (fun L_26 => (stI (va_up R_19 z_17 (fun _ => none)) (fun R_26 => (if a0 < z_26 ∧ (kd_26 a0).1 = 6 then (stI (u2 R_26 a0 2 (some z_17)) (fun R_28 => (adk 1 192 (stI (z_26 + 1) (fun z_35 => (stI (va_up kd_26 z_26 (13, 192)) (fun kd_35 => (stI (va_up I_26 z_26 (fun _ => 0)) (fun I_35 => (stI (va_up L_26 z_26 (fun _ => 0)) (fun L_35 => (stI (va_up R_28 z_26 (fun _ => none)) (fun R_35 => (if a0 < z_35 ∧ (kd_35 a0).1 = 6 then (stI (u2 R_35 a0 3 (some z_26)) (fun R_37 => (adk 1 192 (stI (z_35 + 1) (fun z_44 => (stI (va_up kd_35 z_35 (13, 192)) (fun kd_44 => (stI (va_up I_35 z_35 (fun _ => 0)) (fun I_44 => (stI (va_up L_35 z_35 (fun _ => 0)) (fun L_44 => (stI (va_up R_37 z_35 (fun _ => none)) (fun R_44 => (if a0 < z_44 ∧ (kd_44 a0).1 = 6 then (stI (u2 R_44 a0 4 (some z_35)) (fun R_46 => (adk 1 3 (stI (z_44 + 1) (fun z_51 => (stI (va_up kd_44 z_44 (13, 3)) (fun kd_51 => (stI (va_up I_44 z_44 (fun _ => 0)) (fun I_51 => (stI (va_up L_44 z_44 (fun _ => 0)) (fun L_51 => (stI (va_up R_46 z_44 (fun _ => none)) (fun R_51 => (if a0 < z_51 ∧ (kd_51 a0).1 = 6 then (stI (u2 R_51 a0 5 (some z_44)) (fun R_53 => (adk 1 3 (stI (z_51 + 1) (fun z_58 => (stI (va_up kd_51 z_51 (13, 3)) (fun kd_58 => (stI (va_up I_51 z_51 (fun _ => 0)) (fun I_58 => (stI (va_up L_51 z_51 (fun _ => 0)) (fun L_58 => (stI (va_up R_53 z_51 (fun _ => none)) (fun R_58 => (if a0 < z_58 ∧ (kd_58 a0).1 = 6 then (stI (u2 R_58 a0 6 (some z_51)) (fun R_60 => (adk 1 5 (stI (z_58 + 1) (fun z_65 => (stI (va_up kd_58 z_58 (13, 5)) (fun kd_65 => (stI (va_up I_58 z_58 (fun _ => 0)) (fun I_65 => (stI (va_up L_58 z_58 (fun _ => 0)) (fun L_65 => (stI (va_up R_60 z_58 (fun _ => none)) (fun R_65 => (if a0 < z_65 ∧ (kd_65 a0).1 = 6 then (stI (u2 R_65 a0 7 (some z_58)) (fun R_67 => (adk 1 5 (stI (z_65 + 1) (fun z_72 => (stI (va_up kd_65 z_65 (13, 5)) (fun kd_72 => (stI (va_up I_65 z_65 (fun _ => 0)) (fun I_72 => (stI (va_up L_65 z_65 (fun _ => 0)) (fun L_72 => (stI (va_up R_67 z_65 (fun _ => none)) (fun R_72 => (if a0 < z_72 ∧ (kd_72 a0).1 = 6 then (stI (u2 R_72 a0 8 (some z_65)) (fun R_74 => (adk 1 5 (stI (z_72 + 1) (fun z_79 => (stI (va_up kd_72 z_72 (13, 5)) (fun kd_79 => (stI (va_up I_72 z_72 (fun _ => 0)) (fun I_79 => (stI (va_up L_72 z_72 (fun _ => 0)) (fun L_79 => (stI (va_up R_74 z_72 (fun _ => none)) (fun R_79 => (if a0 < z_79 ∧ (kd_79 a0).1 = 6 then (stI (u2 R_79 a0 9 (some z_72)) (fun R_81 => (adk 1 5 (stI (z_79 + 1) (fun z_86 => (stI (va_up kd_79 z_79 (13, 5)) (fun kd_86 => (stI (va_up I_79 z_79 (fun _ => 0)) (fun I_86 => (stI (va_up L_79 z_79 (fun _ => 0)) (fun L_86 => (stI (va_up R_81 z_79 (fun _ => none)) (fun R_86 => (if a0 < z_86 ∧ (kd_86 a0).1 = 6 then (stI (u2 R_86 a0 10 (some z_79)) (fun R_88 => (adk 1 1024 (stI (z_86 + 1) (fun z_95 => (stI (va_up kd_86 z_86 (13, 1024)) (fun kd_95 => (stI (va_up I_86 z_86 (fun _ => 0)) (fun I_95 => (stI (va_up L_86 z_86 (fun _ => 0)) (fun L_95 => (stI (va_up R_88 z_86 (fun _ => none)) (fun R_95 => (if a0 < z_95 ∧ (kd_95 a0).1 = 6 then (stI (u2 R_95 a0 11 (some z_86)) (fun R_97 => (adk 1 1024 (stI (z_95 + 1) (fun z_104 => (stI (va_up kd_95 z_95 (13, 1024)) (fun kd_104 => (stI (va_up I_95 z_95 (fun _ => 0)) (fun I_104 => (stI (va_up L_95 z_95 (fun _ => 0)) (fun L_104 => (stI (va_up R_97 z_95 (fun _ => none)) (fun R_104 => (if a0 < z_104 ∧ (kd_104 a0).1 = 6 then (stI (u2 R_104 a0 12 (some z_95)) (fun R_106 => (adk 1 32 (stI (z_104 + 1) (fun z_112 => (stI (va_up kd_104 z_104 (13, 32)) (fun kd_112 => (stI (va_up I_104 z_104 (fun _ => 0)) (fun I_112 => (stI (va_up L_104 z_104 (fun _ => 0)) (fun L_112 => (stI (va_up R_106 z_104 (fun _ => none)) (fun R_112 => (if a0 < z_112 ∧ (kd_112 a0).1 = 6 then (stI (u2 R_112 a0 13 (some z_104)) (fun R_114 => (adk 1 1024 (stI (z_112 + 1) (fun z_121 => (stI (va_up kd_112 z_112 (13, 1024)) (fun kd_121 => (stI (va_up I_112 z_112 (fun _ => 0)) (fun I_121 => (stI (va_up L_112 z_112 (fun _ => 0)) (fun L_121 => (stI (va_up R_114 z_112 (fun _ => none)) (fun R_121 => (if a0 < z_121 ∧ (kd_121 a0).1 = 6 then (stI (u2 R_121 a0 14 (some z_112)) (fun R_123 => (adk 1 1024 (stI (z_121 + 1) (fun z_130 => (stI (va_up kd_121 z_121 (13, 1024)) (fun kd_130 => (stI (va_up I_121 z_121 (fun _ => 0)) (fun I_130 => (stI (va_up L_121 z_121 (fun _ => 0)) (fun L_130 => (stI (va_up R_123 z_121 (fun _ => none)) (fun R_130 => (if a0 < z_130 ∧ (kd_130 a0).1 = 6 then (stI (u2 R_130 a0 15 (some z_121)) (fun R_132 => (adk 1 32 (stI (z_130 + 1) (fun z_138 => (stI (va_up kd_130 z_130 (13, 32)) (fun kd_138 => (stI (va_up I_130 z_130 (fun _ => 0)) (fun I_138 => (stI (va_up L_130 z_130 (fun _ => 0)) (fun L_138 => (stI (va_up R_132 z_130 (fun _ => none)) (fun R_138 => (if a0 < z_138 ∧ (kd_138 a0).1 = 6 then (stI (u2 R_138 a0 16 (some z_130)) (fun R_140 => (if a0 < z_138 ∧ (kd_138 a0).1 = 6 then (stI (u2 I_138 a0 17 (0 : Int32)) (fun I_145 => (if a0 < z_138 ∧ (kd_138 a0).1 = 6 then (stI (u2 I_145 a0 18 (0 : Int32)) (fun I_150 => (if a0 < z_138 ∧ (kd_138 a0).1 = 6 then (stI (u2 I_150 a0 19 (1 : Int32)) (fun I_155 => (some ((z_138, kd_138, I_155, L_138, R_140), 0, 0)))) else none))) else none))) else none))) else none)))))))))))))) else none)))))))))))))) else none)))))))))))))) else none)))))))))))))) else none)))))))))))))) else none)))))))))))))) else none)))))))))))))) else none)))))))))))))) else none)))))))))))))) else none)))))))))))))) else none)))))))))))))) else none)))))))))))))) else none)))))))))))))) else none)))))))))))))) else none)))))))))))))) else none)))))))))))))) else none)))))))))))) else none)
    else none
set_option maxRecDepth 100000 in
theorem e_6_0 (n dp : Nat) (z : Nat) (kd : (Nat → Nat × Nat)) (I : (Nat → Nat → Int32)) (L : (Nat → Nat → Int64)) (R : (Nat → Nat → Option Nat)) (a0 : Nat) : g_6 (n + 1) dp 0 z kd I L R a0 = (if 1 ≤ dp then (adk 1 192 (stI (z + 1) (fun z_8 => (stI (va_up kd z (13, 192)) (fun kd_8 => (stI (va_up I z (fun _ => 0)) (fun I_8 => (stI (va_up L z (fun _ => 0)) (fun L_8 => (stI (va_up R z (fun _ => none)) (fun R_8 => (if a0 < z_8 ∧ (kd_8 a0).1 = 6 then (stI (u2 R_8 a0 0 (some z)) (fun R_10 => (adk 1 192 (stI (z_8 + 1) (fun z_17 => (stI (va_up kd_8 z_8 (13, 192)) (fun kd_17 => (stI (va_up I_8 z_8 (fun _ => 0)) (fun I_17 => (stI (va_up L_8 z_8 (fun _ => 0)) (fun L_17 => (stI (va_up R_10 z_8 (fun _ => none)) (fun R_17 => (if a0 < z_17 ∧ (kd_17 a0).1 = 6 then (stI (u2 R_17 a0 1 (some z_8)) (fun R_19 => (adk 1 192 (stI (z_17 + 1) (fun z_26 => (stI (va_up kd_17 z_17 (13, 192)) (fun kd_26 => (stI (va_up I_17 z_17 (fun _ => 0)) (fun I_26 => (stI (va_up L_17 z_17 (fun _ => 0)) (fun L_26 => (stI (va_up R_19 z_17 (fun _ => none)) (fun R_26 => (if a0 < z_26 ∧ (kd_26 a0).1 = 6 then (stI (u2 R_26 a0 2 (some z_17)) (fun R_28 => (adk 1 192 (stI (z_26 + 1) (fun z_35 => (stI (va_up kd_26 z_26 (13, 192)) (fun kd_35 => (stI (va_up I_26 z_26 (fun _ => 0)) (fun I_35 => (stI (va_up L_26 z_26 (fun _ => 0)) (fun L_35 => (stI (va_up R_28 z_26 (fun _ => none)) (fun R_35 => (if a0 < z_35 ∧ (kd_35 a0).1 = 6 then (stI (u2 R_35 a0 3 (some z_26)) (fun R_37 => (adk 1 192 (stI (z_35 + 1) (fun z_44 => (stI (va_up kd_35 z_35 (13, 192)) (fun kd_44 => (stI (va_up I_35 z_35 (fun _ => 0)) (fun I_44 => (stI (va_up L_35 z_35 (fun _ => 0)) (fun L_44 => (stI (va_up R_37 z_35 (fun _ => none)) (fun R_44 => (if a0 < z_44 ∧ (kd_44 a0).1 = 6 then (stI (u2 R_44 a0 4 (some z_35)) (fun R_46 => (adk 1 3 (stI (z_44 + 1) (fun z_51 => (stI (va_up kd_44 z_44 (13, 3)) (fun kd_51 => (stI (va_up I_44 z_44 (fun _ => 0)) (fun I_51 => (stI (va_up L_44 z_44 (fun _ => 0)) (fun L_51 => (stI (va_up R_46 z_44 (fun _ => none)) (fun R_51 => (if a0 < z_51 ∧ (kd_51 a0).1 = 6 then (stI (u2 R_51 a0 5 (some z_44)) (fun R_53 => (adk 1 3 (stI (z_51 + 1) (fun z_58 => (stI (va_up kd_51 z_51 (13, 3)) (fun kd_58 => (stI (va_up I_51 z_51 (fun _ => 0)) (fun I_58 => (stI (va_up L_51 z_51 (fun _ => 0)) (fun L_58 => (stI (va_up R_53 z_51 (fun _ => none)) (fun R_58 => (if a0 < z_58 ∧ (kd_58 a0).1 = 6 then (stI (u2 R_58 a0 6 (some z_51)) (fun R_60 => (adk 1 5 (stI (z_58 + 1) (fun z_65 => (stI (va_up kd_58 z_58 (13, 5)) (fun kd_65 => (stI (va_up I_58 z_58 (fun _ => 0)) (fun I_65 => (stI (va_up L_58 z_58 (fun _ => 0)) (fun L_65 => (stI (va_up R_60 z_58 (fun _ => none)) (fun R_65 => (if a0 < z_65 ∧ (kd_65 a0).1 = 6 then (stI (u2 R_65 a0 7 (some z_58)) (fun R_67 => (adk 1 5 (stI (z_65 + 1) (fun z_72 => (stI (va_up kd_65 z_65 (13, 5)) (fun kd_72 => (stI (va_up I_65 z_65 (fun _ => 0)) (fun I_72 => (stI (va_up L_65 z_65 (fun _ => 0)) (fun L_72 => (stI (va_up R_67 z_65 (fun _ => none)) (fun R_72 => (if a0 < z_72 ∧ (kd_72 a0).1 = 6 then (stI (u2 R_72 a0 8 (some z_65)) (fun R_74 => (adk 1 5 (stI (z_72 + 1) (fun z_79 => (stI (va_up kd_72 z_72 (13, 5)) (fun kd_79 => (stI (va_up I_72 z_72 (fun _ => 0)) (fun I_79 => (stI (va_up L_72 z_72 (fun _ => 0)) (fun L_79 => (stI (va_up R_74 z_72 (fun _ => none)) (fun R_79 => (if a0 < z_79 ∧ (kd_79 a0).1 = 6 then (stI (u2 R_79 a0 9 (some z_72)) (fun R_81 => (adk 1 5 (stI (z_79 + 1) (fun z_86 => (stI (va_up kd_79 z_79 (13, 5)) (fun kd_86 => (stI (va_up I_79 z_79 (fun _ => 0)) (fun I_86 => (stI (va_up L_79 z_79 (fun _ => 0)) (fun L_86 => (stI (va_up R_81 z_79 (fun _ => none)) (fun R_86 => (if a0 < z_86 ∧ (kd_86 a0).1 = 6 then (stI (u2 R_86 a0 10 (some z_79)) (fun R_88 => (adk 1 1024 (stI (z_86 + 1) (fun z_95 => (stI (va_up kd_86 z_86 (13, 1024)) (fun kd_95 => (stI (va_up I_86 z_86 (fun _ => 0)) (fun I_95 => (stI (va_up L_86 z_86 (fun _ => 0)) (fun L_95 => (stI (va_up R_88 z_86 (fun _ => none)) (fun R_95 => (if a0 < z_95 ∧ (kd_95 a0).1 = 6 then (stI (u2 R_95 a0 11 (some z_86)) (fun R_97 => (adk 1 1024 (stI (z_95 + 1) (fun z_104 => (stI (va_up kd_95 z_95 (13, 1024)) (fun kd_104 => (stI (va_up I_95 z_95 (fun _ => 0)) (fun I_104 => (stI (va_up L_95 z_95 (fun _ => 0)) (fun L_104 => (stI (va_up R_97 z_95 (fun _ => none)) (fun R_104 => (if a0 < z_104 ∧ (kd_104 a0).1 = 6 then (stI (u2 R_104 a0 12 (some z_95)) (fun R_106 => (adk 1 32 (stI (z_104 + 1) (fun z_112 => (stI (va_up kd_104 z_104 (13, 32)) (fun kd_112 => (stI (va_up I_104 z_104 (fun _ => 0)) (fun I_112 => (stI (va_up L_104 z_104 (fun _ => 0)) (fun L_112 => (stI (va_up R_106 z_104 (fun _ => none)) (fun R_112 => (if a0 < z_112 ∧ (kd_112 a0).1 = 6 then (stI (u2 R_112 a0 13 (some z_104)) (fun R_114 => (adk 1 1024 (stI (z_112 + 1) (fun z_121 => (stI (va_up kd_112 z_112 (13, 1024)) (fun kd_121 => (stI (va_up I_112 z_112 (fun _ => 0)) (fun I_121 => (stI (va_up L_112 z_112 (fun _ => 0)) (fun L_121 => (stI (va_up R_114 z_112 (fun _ => none)) (fun R_121 => (if a0 < z_121 ∧ (kd_121 a0).1 = 6 then (stI (u2 R_121 a0 14 (some z_112)) (fun R_123 => (adk 1 1024 (stI (z_121 + 1) (fun z_130 => (stI (va_up kd_121 z_121 (13, 1024)) (fun kd_130 => (stI (va_up I_121 z_121 (fun _ => 0)) (fun I_130 => (stI (va_up L_121 z_121 (fun _ => 0)) (fun L_130 => (stI (va_up R_123 z_121 (fun _ => none)) (fun R_130 => (if a0 < z_130 ∧ (kd_130 a0).1 = 6 then (stI (u2 R_130 a0 15 (some z_121)) (fun R_132 => (adk 1 32 (stI (z_130 + 1) (fun z_138 => (stI (va_up kd_130 z_130 (13, 32)) (fun kd_138 => (stI (va_up I_130 z_130 (fun _ => 0)) (fun I_138 => (stI (va_up L_130 z_130 (fun _ => 0)) (fun L_138 => (stI (va_up R_132 z_130 (fun _ => none)) (fun R_138 => (if a0 < z_138 ∧ (kd_138 a0).1 = 6 then (stI (u2 R_138 a0 16 (some z_130)) (fun R_140 => (if a0 < z_138 ∧ (kd_138 a0).1 = 6 then (stI (u2 I_138 a0 17 (0 : Int32)) (fun I_145 => (if a0 < z_138 ∧ (kd_138 a0).1 = 6 then (stI (u2 I_145 a0 18 (0 : Int32)) (fun I_150 => (if a0 < z_138 ∧ (kd_138 a0).1 = 6 then (stI (u2 I_150 a0 19 (1 : Int32)) (fun I_155 => (some ((z_138, kd_138, I_155, L_138, R_140), 0, 0)))) else none))) else none))) else none))) else none)))))))))))))) else none)))))))))))))) else none)))))))))))))) else none)))))))))))))) else none)))))))))))))) else none)))))))))))))) else none)))))))))))))) else none)))))))))))))) else none)))))))))))))) else none)))))))))))))) else none)))))))))))))) else none)))))))))))))) else none)))))))))))))) else none)))))))))))))) else none)))))))))))))) else none)))))))))))))) else none)))))))))))) else none) := by rw [g_6.eq_2, if_pos (show (0 : Nat) = 0 from rfl)]
set_option maxHeartbeats 8000000 in
set_option maxRecDepth 100000 in
theorem w_6 (X : GX) : ∀ (n dp d : Nat), dp ≤ d → ∀ (z : Nat) (kd : (Nat → Nat × Nat)) (I : (Nat → Nat → Int32)) (L : (Nat → Nat → Int64)) (R : (Nat → Nat → Option Nat)), ∀ (a0 : Nat) (z1 : Nat) (kd1 : (Nat → Nat × Nat)) (I1 : (Nat → Nat → Int32)) (L1 : (Nat → Nat → Int64)) (R1 : (Nat → Nat → Option Nat)) (k1 m1 : Nat), (g_6 n dp 0 z kd I L R a0 = some ((z1, kd1, I1, L1, R1), k1, m1) → ∀ MC MS k m : Nat, k + k1 ≤ MC → m + m1 ≤ MS → K X d 6 MC MS (AV (fun τ => τ = (z1, kd1, I1, L1, R1))) 0 [some (.ref a0)] [] (z, kd, I, L, R) k m) := by
  intro n
  induction n with
  | zero => intro dp d hdp z kd I L R  a0 z1 kd1 I1 L1 R1 k1 m1; exact fun h => by cases h
  | succ n ih =>
    intro dp d hdp z kd I L R  a0 z1 kd1 I1 L1 R1 k1 m1
    · intro h MC MS k m hMC hMS
      rw [e_6_0] at h
      refine K_of b_6_0 h_6_0 ?_
      refine q_aload rfl ?_
      obtain ⟨d_1, h⟩ := ite_some h
      refine q_obj (Nat.le_of_ble_eq_true rfl) (Nat.le_trans d_1 hdp) ?_
      refine q_aload rfl ?_
      refine q_iconst (192) (by decide) ?_
      obtain ⟨mk_8, ms_8, h, ek_8, em_8⟩ := adk_some h
      refine q_newa (m0 := 192) (by decide) (by decide) (by decide) (by decide) (by omega) (by omega) ?_
      obtain ⟨z_8, nz_8, h⟩ := stI_some h
      obtain ⟨kd_8, nkd_8, h⟩ := stI_some h
      obtain ⟨I_8, nI_8, h⟩ := stI_some h
      obtain ⟨L_8, nL_8, h⟩ := stI_some h
      obtain ⟨R_8, nR_8, h⟩ := stI_some h
      refine q_n5 nz_8 nkd_8 nI_8 nL_8 nR_8 ?_
      obtain ⟨⟨z_10, k_10⟩, h⟩ := ite_some h
      refine q_putR (c0 := 6) (j := 0) rfl rfl z_10 (fst_eq k_10) rfl ?_
      obtain ⟨R_10, nR_10, h⟩ := stI_some h
      refine q_nR nR_10 ?_
      refine q_aload rfl ?_
      refine q_iconst (192) (by decide) ?_
      obtain ⟨mk_17, ms_17, h, ek_17, em_17⟩ := adk_some h
      refine q_newa (m0 := 192) (by decide) (by decide) (by decide) (by decide) (by omega) (by omega) ?_
      obtain ⟨z_17, nz_17, h⟩ := stI_some h
      obtain ⟨kd_17, nkd_17, h⟩ := stI_some h
      obtain ⟨I_17, nI_17, h⟩ := stI_some h
      obtain ⟨L_17, nL_17, h⟩ := stI_some h
      obtain ⟨R_17, nR_17, h⟩ := stI_some h
      refine q_n5 nz_17 nkd_17 nI_17 nL_17 nR_17 ?_
      obtain ⟨⟨z_19, k_19⟩, h⟩ := ite_some h
      refine q_putR (c0 := 6) (j := 1) rfl rfl z_19 (fst_eq k_19) rfl ?_
      obtain ⟨R_19, nR_19, h⟩ := stI_some h
      refine q_nR nR_19 ?_
      refine q_aload rfl ?_
      refine q_iconst (192) (by decide) ?_
      obtain ⟨mk_26, ms_26, h, ek_26, em_26⟩ := adk_some h
      refine q_newa (m0 := 192) (by decide) (by decide) (by decide) (by decide) (by omega) (by omega) ?_
      obtain ⟨z_26, nz_26, h⟩ := stI_some h
      obtain ⟨kd_26, nkd_26, h⟩ := stI_some h
      obtain ⟨I_26, nI_26, h⟩ := stI_some h
      obtain ⟨L_26, nL_26, h⟩ := stI_some h
      obtain ⟨R_26, nR_26, h⟩ := stI_some h
      refine q_n5 nz_26 nkd_26 nI_26 nL_26 nR_26 ?_
      obtain ⟨⟨z_28, k_28⟩, h⟩ := ite_some h
      refine q_putR (c0 := 6) (j := 2) rfl rfl z_28 (fst_eq k_28) rfl ?_
      obtain ⟨R_28, nR_28, h⟩ := stI_some h
      refine q_nR nR_28 ?_
      refine q_aload rfl ?_
      refine q_iconst (192) (by decide) ?_
      obtain ⟨mk_35, ms_35, h, ek_35, em_35⟩ := adk_some h
      refine q_newa (m0 := 192) (by decide) (by decide) (by decide) (by decide) (by omega) (by omega) ?_
      obtain ⟨z_35, nz_35, h⟩ := stI_some h
      obtain ⟨kd_35, nkd_35, h⟩ := stI_some h
      obtain ⟨I_35, nI_35, h⟩ := stI_some h
      obtain ⟨L_35, nL_35, h⟩ := stI_some h
      obtain ⟨R_35, nR_35, h⟩ := stI_some h
      refine q_n5 nz_35 nkd_35 nI_35 nL_35 nR_35 ?_
      obtain ⟨⟨z_37, k_37⟩, h⟩ := ite_some h
      refine q_putR (c0 := 6) (j := 3) rfl rfl z_37 (fst_eq k_37) rfl ?_
      obtain ⟨R_37, nR_37, h⟩ := stI_some h
      refine q_nR nR_37 ?_
      refine q_aload rfl ?_
      refine q_iconst (192) (by decide) ?_
      obtain ⟨mk_44, ms_44, h, ek_44, em_44⟩ := adk_some h
      refine q_newa (m0 := 192) (by decide) (by decide) (by decide) (by decide) (by omega) (by omega) ?_
      obtain ⟨z_44, nz_44, h⟩ := stI_some h
      obtain ⟨kd_44, nkd_44, h⟩ := stI_some h
      obtain ⟨I_44, nI_44, h⟩ := stI_some h
      obtain ⟨L_44, nL_44, h⟩ := stI_some h
      obtain ⟨R_44, nR_44, h⟩ := stI_some h
      refine q_n5 nz_44 nkd_44 nI_44 nL_44 nR_44 ?_
      obtain ⟨⟨z_46, k_46⟩, h⟩ := ite_some h
      refine q_putR (c0 := 6) (j := 4) rfl rfl z_46 (fst_eq k_46) rfl ?_
      obtain ⟨R_46, nR_46, h⟩ := stI_some h
      refine q_nR nR_46 ?_
      refine q_aload rfl ?_
      refine q_iconst (3) (by decide) ?_
      obtain ⟨mk_51, ms_51, h, ek_51, em_51⟩ := adk_some h
      refine q_newa (m0 := 3) (by decide) (by decide) (by decide) (by decide) (by omega) (by omega) ?_
      obtain ⟨z_51, nz_51, h⟩ := stI_some h
      obtain ⟨kd_51, nkd_51, h⟩ := stI_some h
      obtain ⟨I_51, nI_51, h⟩ := stI_some h
      obtain ⟨L_51, nL_51, h⟩ := stI_some h
      obtain ⟨R_51, nR_51, h⟩ := stI_some h
      refine q_n5 nz_51 nkd_51 nI_51 nL_51 nR_51 ?_
      obtain ⟨⟨z_53, k_53⟩, h⟩ := ite_some h
      refine q_putR (c0 := 6) (j := 5) rfl rfl z_53 (fst_eq k_53) rfl ?_
      obtain ⟨R_53, nR_53, h⟩ := stI_some h
      refine q_nR nR_53 ?_
      refine q_aload rfl ?_
      refine q_iconst (3) (by decide) ?_
      obtain ⟨mk_58, ms_58, h, ek_58, em_58⟩ := adk_some h
      refine q_newa (m0 := 3) (by decide) (by decide) (by decide) (by decide) (by omega) (by omega) ?_
      obtain ⟨z_58, nz_58, h⟩ := stI_some h
      obtain ⟨kd_58, nkd_58, h⟩ := stI_some h
      obtain ⟨I_58, nI_58, h⟩ := stI_some h
      obtain ⟨L_58, nL_58, h⟩ := stI_some h
      obtain ⟨R_58, nR_58, h⟩ := stI_some h
      refine q_n5 nz_58 nkd_58 nI_58 nL_58 nR_58 ?_
      obtain ⟨⟨z_60, k_60⟩, h⟩ := ite_some h
      refine q_putR (c0 := 6) (j := 6) rfl rfl z_60 (fst_eq k_60) rfl ?_
      obtain ⟨R_60, nR_60, h⟩ := stI_some h
      refine q_nR nR_60 ?_
      refine q_aload rfl ?_
      refine q_iconst (5) (by decide) ?_
      obtain ⟨mk_65, ms_65, h, ek_65, em_65⟩ := adk_some h
      refine q_newa (m0 := 5) (by decide) (by decide) (by decide) (by decide) (by omega) (by omega) ?_
      obtain ⟨z_65, nz_65, h⟩ := stI_some h
      obtain ⟨kd_65, nkd_65, h⟩ := stI_some h
      obtain ⟨I_65, nI_65, h⟩ := stI_some h
      obtain ⟨L_65, nL_65, h⟩ := stI_some h
      obtain ⟨R_65, nR_65, h⟩ := stI_some h
      refine q_n5 nz_65 nkd_65 nI_65 nL_65 nR_65 ?_
      obtain ⟨⟨z_67, k_67⟩, h⟩ := ite_some h
      refine q_putR (c0 := 6) (j := 7) rfl rfl z_67 (fst_eq k_67) rfl ?_
      obtain ⟨R_67, nR_67, h⟩ := stI_some h
      refine q_nR nR_67 ?_
      refine q_aload rfl ?_
      refine q_iconst (5) (by decide) ?_
      obtain ⟨mk_72, ms_72, h, ek_72, em_72⟩ := adk_some h
      refine q_newa (m0 := 5) (by decide) (by decide) (by decide) (by decide) (by omega) (by omega) ?_
      obtain ⟨z_72, nz_72, h⟩ := stI_some h
      obtain ⟨kd_72, nkd_72, h⟩ := stI_some h
      obtain ⟨I_72, nI_72, h⟩ := stI_some h
      obtain ⟨L_72, nL_72, h⟩ := stI_some h
      obtain ⟨R_72, nR_72, h⟩ := stI_some h
      refine q_n5 nz_72 nkd_72 nI_72 nL_72 nR_72 ?_
      obtain ⟨⟨z_74, k_74⟩, h⟩ := ite_some h
      refine q_putR (c0 := 6) (j := 8) rfl rfl z_74 (fst_eq k_74) rfl ?_
      obtain ⟨R_74, nR_74, h⟩ := stI_some h
      refine q_nR nR_74 ?_
      refine q_aload rfl ?_
      refine q_iconst (5) (by decide) ?_
      obtain ⟨mk_79, ms_79, h, ek_79, em_79⟩ := adk_some h
      refine q_newa (m0 := 5) (by decide) (by decide) (by decide) (by decide) (by omega) (by omega) ?_
      obtain ⟨z_79, nz_79, h⟩ := stI_some h
      obtain ⟨kd_79, nkd_79, h⟩ := stI_some h
      obtain ⟨I_79, nI_79, h⟩ := stI_some h
      obtain ⟨L_79, nL_79, h⟩ := stI_some h
      obtain ⟨R_79, nR_79, h⟩ := stI_some h
      refine q_n5 nz_79 nkd_79 nI_79 nL_79 nR_79 ?_
      obtain ⟨⟨z_81, k_81⟩, h⟩ := ite_some h
      refine q_putR (c0 := 6) (j := 9) rfl rfl z_81 (fst_eq k_81) rfl ?_
      obtain ⟨R_81, nR_81, h⟩ := stI_some h
      refine q_nR nR_81 ?_
      refine q_aload rfl ?_
      refine q_iconst (5) (by decide) ?_
      obtain ⟨mk_86, ms_86, h, ek_86, em_86⟩ := adk_some h
      refine q_newa (m0 := 5) (by decide) (by decide) (by decide) (by decide) (by omega) (by omega) ?_
      obtain ⟨z_86, nz_86, h⟩ := stI_some h
      obtain ⟨kd_86, nkd_86, h⟩ := stI_some h
      obtain ⟨I_86, nI_86, h⟩ := stI_some h
      obtain ⟨L_86, nL_86, h⟩ := stI_some h
      obtain ⟨R_86, nR_86, h⟩ := stI_some h
      refine q_n5 nz_86 nkd_86 nI_86 nL_86 nR_86 ?_
      obtain ⟨⟨z_88, k_88⟩, h⟩ := ite_some h
      refine q_putR (c0 := 6) (j := 10) rfl rfl z_88 (fst_eq k_88) rfl ?_
      obtain ⟨R_88, nR_88, h⟩ := stI_some h
      refine q_nR nR_88 ?_
      refine q_aload rfl ?_
      refine q_iconst (1024) (by decide) ?_
      obtain ⟨mk_95, ms_95, h, ek_95, em_95⟩ := adk_some h
      refine q_newa (m0 := 1024) (by decide) (by decide) (by decide) (by decide) (by omega) (by omega) ?_
      obtain ⟨z_95, nz_95, h⟩ := stI_some h
      obtain ⟨kd_95, nkd_95, h⟩ := stI_some h
      obtain ⟨I_95, nI_95, h⟩ := stI_some h
      obtain ⟨L_95, nL_95, h⟩ := stI_some h
      obtain ⟨R_95, nR_95, h⟩ := stI_some h
      refine q_n5 nz_95 nkd_95 nI_95 nL_95 nR_95 ?_
      obtain ⟨⟨z_97, k_97⟩, h⟩ := ite_some h
      refine q_putR (c0 := 6) (j := 11) rfl rfl z_97 (fst_eq k_97) rfl ?_
      obtain ⟨R_97, nR_97, h⟩ := stI_some h
      refine q_nR nR_97 ?_
      refine q_aload rfl ?_
      refine q_iconst (1024) (by decide) ?_
      obtain ⟨mk_104, ms_104, h, ek_104, em_104⟩ := adk_some h
      refine q_newa (m0 := 1024) (by decide) (by decide) (by decide) (by decide) (by omega) (by omega) ?_
      obtain ⟨z_104, nz_104, h⟩ := stI_some h
      obtain ⟨kd_104, nkd_104, h⟩ := stI_some h
      obtain ⟨I_104, nI_104, h⟩ := stI_some h
      obtain ⟨L_104, nL_104, h⟩ := stI_some h
      obtain ⟨R_104, nR_104, h⟩ := stI_some h
      refine q_n5 nz_104 nkd_104 nI_104 nL_104 nR_104 ?_
      obtain ⟨⟨z_106, k_106⟩, h⟩ := ite_some h
      refine q_putR (c0 := 6) (j := 12) rfl rfl z_106 (fst_eq k_106) rfl ?_
      obtain ⟨R_106, nR_106, h⟩ := stI_some h
      refine q_nR nR_106 ?_
      refine q_aload rfl ?_
      refine q_iconst (32) (by decide) ?_
      obtain ⟨mk_112, ms_112, h, ek_112, em_112⟩ := adk_some h
      refine q_newa (m0 := 32) (by decide) (by decide) (by decide) (by decide) (by omega) (by omega) ?_
      obtain ⟨z_112, nz_112, h⟩ := stI_some h
      obtain ⟨kd_112, nkd_112, h⟩ := stI_some h
      obtain ⟨I_112, nI_112, h⟩ := stI_some h
      obtain ⟨L_112, nL_112, h⟩ := stI_some h
      obtain ⟨R_112, nR_112, h⟩ := stI_some h
      refine q_n5 nz_112 nkd_112 nI_112 nL_112 nR_112 ?_
      obtain ⟨⟨z_114, k_114⟩, h⟩ := ite_some h
      refine q_putR (c0 := 6) (j := 13) rfl rfl z_114 (fst_eq k_114) rfl ?_
      obtain ⟨R_114, nR_114, h⟩ := stI_some h
      refine q_nR nR_114 ?_
      refine q_aload rfl ?_
      refine q_iconst (1024) (by decide) ?_
      obtain ⟨mk_121, ms_121, h, ek_121, em_121⟩ := adk_some h
      refine q_newa (m0 := 1024) (by decide) (by decide) (by decide) (by decide) (by omega) (by omega) ?_
      obtain ⟨z_121, nz_121, h⟩ := stI_some h
      obtain ⟨kd_121, nkd_121, h⟩ := stI_some h
      obtain ⟨I_121, nI_121, h⟩ := stI_some h
      obtain ⟨L_121, nL_121, h⟩ := stI_some h
      obtain ⟨R_121, nR_121, h⟩ := stI_some h
      refine q_n5 nz_121 nkd_121 nI_121 nL_121 nR_121 ?_
      obtain ⟨⟨z_123, k_123⟩, h⟩ := ite_some h
      refine q_putR (c0 := 6) (j := 14) rfl rfl z_123 (fst_eq k_123) rfl ?_
      obtain ⟨R_123, nR_123, h⟩ := stI_some h
      refine q_nR nR_123 ?_
      refine q_aload rfl ?_
      refine q_iconst (1024) (by decide) ?_
      obtain ⟨mk_130, ms_130, h, ek_130, em_130⟩ := adk_some h
      refine q_newa (m0 := 1024) (by decide) (by decide) (by decide) (by decide) (by omega) (by omega) ?_
      obtain ⟨z_130, nz_130, h⟩ := stI_some h
      obtain ⟨kd_130, nkd_130, h⟩ := stI_some h
      obtain ⟨I_130, nI_130, h⟩ := stI_some h
      obtain ⟨L_130, nL_130, h⟩ := stI_some h
      obtain ⟨R_130, nR_130, h⟩ := stI_some h
      refine q_n5 nz_130 nkd_130 nI_130 nL_130 nR_130 ?_
      obtain ⟨⟨z_132, k_132⟩, h⟩ := ite_some h
      refine q_putR (c0 := 6) (j := 15) rfl rfl z_132 (fst_eq k_132) rfl ?_
      obtain ⟨R_132, nR_132, h⟩ := stI_some h
      refine q_nR nR_132 ?_
      refine q_aload rfl ?_
      refine q_iconst (32) (by decide) ?_
      obtain ⟨mk_138, ms_138, h, ek_138, em_138⟩ := adk_some h
      refine q_newa (m0 := 32) (by decide) (by decide) (by decide) (by decide) (by omega) (by omega) ?_
      obtain ⟨z_138, nz_138, h⟩ := stI_some h
      obtain ⟨kd_138, nkd_138, h⟩ := stI_some h
      obtain ⟨I_138, nI_138, h⟩ := stI_some h
      obtain ⟨L_138, nL_138, h⟩ := stI_some h
      obtain ⟨R_138, nR_138, h⟩ := stI_some h
      refine q_n5 nz_138 nkd_138 nI_138 nL_138 nR_138 ?_
      obtain ⟨⟨z_140, k_140⟩, h⟩ := ite_some h
      refine q_putR (c0 := 6) (j := 16) rfl rfl z_140 (fst_eq k_140) rfl ?_
      obtain ⟨R_140, nR_140, h⟩ := stI_some h
      refine q_nR nR_140 ?_
      refine q_aload rfl ?_
      refine q_iconst (0) (by decide) ?_
      obtain ⟨⟨z_145, k_145⟩, h⟩ := ite_some h
      refine q_putI (c0 := 6) (j := 17) rfl rfl z_145 (fst_eq k_145) rfl ?_
      obtain ⟨I_145, nI_145, h⟩ := stI_some h
      refine q_nI nI_145 ?_
      refine q_aload rfl ?_
      refine q_iconst (0) (by decide) ?_
      obtain ⟨⟨z_150, k_150⟩, h⟩ := ite_some h
      refine q_putI (c0 := 6) (j := 18) rfl rfl z_150 (fst_eq k_150) rfl ?_
      obtain ⟨I_150, nI_150, h⟩ := stI_some h
      refine q_nI nI_150 ?_
      refine q_aload rfl ?_
      refine q_iconst (1) (by decide) ?_
      obtain ⟨⟨z_155, k_155⟩, h⟩ := ite_some h
      refine q_putI (c0 := 6) (j := 19) rfl rfl z_155 (fst_eq k_155) rfl ?_
      obtain ⟨I_155, nI_155, h⟩ := stI_some h
      refine q_nI nI_155 ?_
      cases h
      exact q_vret rfl (by omega) (by omega) rfl
theorem a_6 (X : GX) {z : Nat} {kd : (Nat → Nat × Nat)} {I : (Nat → Nat → Int32)} {L : (Nat → Nat → Int64)} {R : (Nat → Nat → Option Nat)} {n dp d : Nat} (hd : dp ≤ d) {a0 : Nat} {z1 : Nat} {kd1 : (Nat → Nat × Nat)} {I1 : (Nat → Nat → Int32)} {L1 : (Nat → Nat → Int64)} {R1 : (Nat → Nat → Option Nat)} {k1 m1 : Nat} (h : g_6 n dp 0 z kd I L R a0 = some ((z1, kd1, I1, L1, R1), k1, m1)) : Ct X d 6 k1 m1 [.ref a0] (z, kd, I, L, R) (AV (fun τ => τ = (z1, kd1, I1, L1, R1))) :=
  Ct_of mu_6 (Nat.le_of_ble_eq_true rfl) ((w_6 X n dp d hd z kd I L R a0 _ _ _ _ _ _ _) h k1 m1 0 0 (by omega) (by omega))

/-! 7 CutFloor$Layers.<init>(LCutFloor$Offers;)V -/
set_option maxHeartbeats 4000000 in
set_option maxRecDepth 100000 in
def g_7 : Nat → Nat → Nat → Nat → (Nat → Nat × Nat) → (Nat → Nat → Int32) → (Nat → Nat → Int64) → (Nat → Nat → Option Nat) → Nat → Nat →  Option ((PS) × Nat × Nat)
  | 0, _, _, _, _, _, _, _, _, _ => none
  | n + 1, dp, lab, z, kd, I, L, R, a0, a1 =>
    if lab = 0 then (if 1 ≤ dp then (adk 1 10 (stI (z + 1) (fun z_7 => (stI (va_up kd z (13, 10)) (fun kd_7 => (stI (va_up I z (fun _ => 0)) (fun I_7 => (stI (va_up L z (fun _ => 0)) (fun L_7 => (stI (va_up R z (fun _ => none)) (fun R_7 => (if a0 < z_7 ∧ (kd_7 a0).1 = 4 then (stI (u2 R_7 a0 1 (some z)) (fun R_9 => (adk 1 8 (stI (z_7 + 1) (fun z_15 => (stI (va_up kd_7 z_7 (13, 8)) (fun kd_15 => (stI (va_up I_7 z_7 (fun _ => 0)) (fun I_15 => (stI (va_up L_7 z_7 (fun _ => 0)) (fun L_15 => (stI (va_up R_9 z_7 (fun _ => none)) (fun R_15 => (if a0 < z_15 ∧ (kd_15 a0).1 = 4 then (stI (u2 R_15 a0 2 (some z_7)) (fun R_17 => (if a0 < z_15 ∧ (kd_15 a0).1 = 4 then (stI (u2 I_15 a0 3 (0 : Int32)) (fun I_22 => (adk 1 256 (stI (z_15 + 1) (fun z_29 => (stI (va_up kd_15 z_15 (13, 256)) (fun kd_29 => (stI (va_up I_22 z_15 (fun _ => 0)) (fun I_29 => (stI (va_up L_15 z_15 (fun _ => 0)) (fun L_29 => (stI (va_up R_17 z_15 (fun _ => none)) (fun R_29 => (if a0 < z_29 ∧ (kd_29 a0).1 = 4 then (stI (u2 R_29 a0 4 (some z_15)) (fun R_31 => (adk 1 256 (stI (z_29 + 1) (fun z_38 => (stI (va_up kd_29 z_29 (13, 256)) (fun kd_38 => (stI (va_up I_29 z_29 (fun _ => 0)) (fun I_38 => (stI (va_up L_29 z_29 (fun _ => 0)) (fun L_38 => (stI (va_up R_31 z_29 (fun _ => none)) (fun R_38 => (if a0 < z_38 ∧ (kd_38 a0).1 = 4 then (stI (u2 R_38 a0 5 (some z_29)) (fun R_40 => (adk 1 256 (stI (z_38 + 1) (fun z_47 => (stI (va_up kd_38 z_38 (13, 256)) (fun kd_47 => (stI (va_up I_38 z_38 (fun _ => 0)) (fun I_47 => (stI (va_up L_38 z_38 (fun _ => 0)) (fun L_47 => (stI (va_up R_40 z_38 (fun _ => none)) (fun R_47 => (if a0 < z_47 ∧ (kd_47 a0).1 = 4 then (stI (u2 R_47 a0 6 (some z_38)) (fun R_49 => (adk 1 1 (stI (z_47 + 1) (fun z_54 => (stI (va_up kd_47 z_47 (13, 1)) (fun kd_54 => (stI (va_up I_47 z_47 (fun _ => 0)) (fun I_54 => (stI (va_up L_47 z_47 (fun _ => 0)) (fun L_54 => (stI (va_up R_49 z_47 (fun _ => none)) (fun R_54 => (if a0 < z_54 ∧ (kd_54 a0).1 = 4 then (stI (u2 R_54 a0 7 (some z_47)) (fun R_56 => (if a0 < z_54 ∧ (kd_54 a0).1 = 4 then (stI (u2 I_54 a0 8 (0 : Int32)) (fun I_61 => (if a0 < z_54 ∧ (kd_54 a0).1 = 4 then (stI (u2 I_61 a0 9 (0 : Int32)) (fun I_66 => (if a0 < z_54 ∧ (kd_54 a0).1 = 4 then (stI (u2 R_56 a0 0 (some a1)) (fun R_71 => (some ((z_54, kd_54, I_66, L_54, R_71), 0, 0)))) else none))) else none))) else none))) else none)))))))))))))) else none)))))))))))))) else none)))))))))))))) else none)))))))))))))) else none))) else none)))))))))))))) else none)))))))))))) else none)
    else none
set_option maxRecDepth 100000 in
theorem e_7_0 (n dp : Nat) (z : Nat) (kd : (Nat → Nat × Nat)) (I : (Nat → Nat → Int32)) (L : (Nat → Nat → Int64)) (R : (Nat → Nat → Option Nat)) (a0 : Nat) (a1 : Nat) : g_7 (n + 1) dp 0 z kd I L R a0 a1 = (if 1 ≤ dp then (adk 1 10 (stI (z + 1) (fun z_7 => (stI (va_up kd z (13, 10)) (fun kd_7 => (stI (va_up I z (fun _ => 0)) (fun I_7 => (stI (va_up L z (fun _ => 0)) (fun L_7 => (stI (va_up R z (fun _ => none)) (fun R_7 => (if a0 < z_7 ∧ (kd_7 a0).1 = 4 then (stI (u2 R_7 a0 1 (some z)) (fun R_9 => (adk 1 8 (stI (z_7 + 1) (fun z_15 => (stI (va_up kd_7 z_7 (13, 8)) (fun kd_15 => (stI (va_up I_7 z_7 (fun _ => 0)) (fun I_15 => (stI (va_up L_7 z_7 (fun _ => 0)) (fun L_15 => (stI (va_up R_9 z_7 (fun _ => none)) (fun R_15 => (if a0 < z_15 ∧ (kd_15 a0).1 = 4 then (stI (u2 R_15 a0 2 (some z_7)) (fun R_17 => (if a0 < z_15 ∧ (kd_15 a0).1 = 4 then (stI (u2 I_15 a0 3 (0 : Int32)) (fun I_22 => (adk 1 256 (stI (z_15 + 1) (fun z_29 => (stI (va_up kd_15 z_15 (13, 256)) (fun kd_29 => (stI (va_up I_22 z_15 (fun _ => 0)) (fun I_29 => (stI (va_up L_15 z_15 (fun _ => 0)) (fun L_29 => (stI (va_up R_17 z_15 (fun _ => none)) (fun R_29 => (if a0 < z_29 ∧ (kd_29 a0).1 = 4 then (stI (u2 R_29 a0 4 (some z_15)) (fun R_31 => (adk 1 256 (stI (z_29 + 1) (fun z_38 => (stI (va_up kd_29 z_29 (13, 256)) (fun kd_38 => (stI (va_up I_29 z_29 (fun _ => 0)) (fun I_38 => (stI (va_up L_29 z_29 (fun _ => 0)) (fun L_38 => (stI (va_up R_31 z_29 (fun _ => none)) (fun R_38 => (if a0 < z_38 ∧ (kd_38 a0).1 = 4 then (stI (u2 R_38 a0 5 (some z_29)) (fun R_40 => (adk 1 256 (stI (z_38 + 1) (fun z_47 => (stI (va_up kd_38 z_38 (13, 256)) (fun kd_47 => (stI (va_up I_38 z_38 (fun _ => 0)) (fun I_47 => (stI (va_up L_38 z_38 (fun _ => 0)) (fun L_47 => (stI (va_up R_40 z_38 (fun _ => none)) (fun R_47 => (if a0 < z_47 ∧ (kd_47 a0).1 = 4 then (stI (u2 R_47 a0 6 (some z_38)) (fun R_49 => (adk 1 1 (stI (z_47 + 1) (fun z_54 => (stI (va_up kd_47 z_47 (13, 1)) (fun kd_54 => (stI (va_up I_47 z_47 (fun _ => 0)) (fun I_54 => (stI (va_up L_47 z_47 (fun _ => 0)) (fun L_54 => (stI (va_up R_49 z_47 (fun _ => none)) (fun R_54 => (if a0 < z_54 ∧ (kd_54 a0).1 = 4 then (stI (u2 R_54 a0 7 (some z_47)) (fun R_56 => (if a0 < z_54 ∧ (kd_54 a0).1 = 4 then (stI (u2 I_54 a0 8 (0 : Int32)) (fun I_61 => (if a0 < z_54 ∧ (kd_54 a0).1 = 4 then (stI (u2 I_61 a0 9 (0 : Int32)) (fun I_66 => (if a0 < z_54 ∧ (kd_54 a0).1 = 4 then (stI (u2 R_56 a0 0 (some a1)) (fun R_71 => (some ((z_54, kd_54, I_66, L_54, R_71), 0, 0)))) else none))) else none))) else none))) else none)))))))))))))) else none)))))))))))))) else none)))))))))))))) else none)))))))))))))) else none))) else none)))))))))))))) else none)))))))))))) else none) := by rw [g_7.eq_2, if_pos (show (0 : Nat) = 0 from rfl)]
set_option maxHeartbeats 8000000 in
set_option maxRecDepth 100000 in
theorem w_7 (X : GX) : ∀ (n dp d : Nat), dp ≤ d → ∀ (z : Nat) (kd : (Nat → Nat × Nat)) (I : (Nat → Nat → Int32)) (L : (Nat → Nat → Int64)) (R : (Nat → Nat → Option Nat)), ∀ (a0 : Nat) (a1 : Nat) (z1 : Nat) (kd1 : (Nat → Nat × Nat)) (I1 : (Nat → Nat → Int32)) (L1 : (Nat → Nat → Int64)) (R1 : (Nat → Nat → Option Nat)) (k1 m1 : Nat), (g_7 n dp 0 z kd I L R a0 a1 = some ((z1, kd1, I1, L1, R1), k1, m1) → ∀ MC MS k m : Nat, k + k1 ≤ MC → m + m1 ≤ MS → K X d 7 MC MS (AV (fun τ => τ = (z1, kd1, I1, L1, R1))) 0 [some (.ref a0), some (.ref a1)] [] (z, kd, I, L, R) k m) := by
  intro n
  induction n with
  | zero => intro dp d hdp z kd I L R  a0 a1 z1 kd1 I1 L1 R1 k1 m1; exact fun h => by cases h
  | succ n ih =>
    intro dp d hdp z kd I L R  a0 a1 z1 kd1 I1 L1 R1 k1 m1
    · intro h MC MS k m hMC hMS
      rw [e_7_0] at h
      refine K_of b_7_0 h_7_0 ?_
      refine q_aload rfl ?_
      obtain ⟨d_1, h⟩ := ite_some h
      refine q_obj (Nat.le_of_ble_eq_true rfl) (Nat.le_trans d_1 hdp) ?_
      refine q_aload rfl ?_
      refine q_iconst (10) (by decide) ?_
      obtain ⟨mk_7, ms_7, h, ek_7, em_7⟩ := adk_some h
      refine q_newa (m0 := 10) (by decide) (by decide) (by decide) (by decide) (by omega) (by omega) ?_
      obtain ⟨z_7, nz_7, h⟩ := stI_some h
      obtain ⟨kd_7, nkd_7, h⟩ := stI_some h
      obtain ⟨I_7, nI_7, h⟩ := stI_some h
      obtain ⟨L_7, nL_7, h⟩ := stI_some h
      obtain ⟨R_7, nR_7, h⟩ := stI_some h
      refine q_n5 nz_7 nkd_7 nI_7 nL_7 nR_7 ?_
      obtain ⟨⟨z_9, k_9⟩, h⟩ := ite_some h
      refine q_putR (c0 := 4) (j := 1) rfl rfl z_9 (fst_eq k_9) rfl ?_
      obtain ⟨R_9, nR_9, h⟩ := stI_some h
      refine q_nR nR_9 ?_
      refine q_aload rfl ?_
      refine q_iconst (8) (by decide) ?_
      obtain ⟨mk_15, ms_15, h, ek_15, em_15⟩ := adk_some h
      refine q_newa (m0 := 8) (by decide) (by decide) (by decide) (by decide) (by omega) (by omega) ?_
      obtain ⟨z_15, nz_15, h⟩ := stI_some h
      obtain ⟨kd_15, nkd_15, h⟩ := stI_some h
      obtain ⟨I_15, nI_15, h⟩ := stI_some h
      obtain ⟨L_15, nL_15, h⟩ := stI_some h
      obtain ⟨R_15, nR_15, h⟩ := stI_some h
      refine q_n5 nz_15 nkd_15 nI_15 nL_15 nR_15 ?_
      obtain ⟨⟨z_17, k_17⟩, h⟩ := ite_some h
      refine q_putR (c0 := 4) (j := 2) rfl rfl z_17 (fst_eq k_17) rfl ?_
      obtain ⟨R_17, nR_17, h⟩ := stI_some h
      refine q_nR nR_17 ?_
      refine q_aload rfl ?_
      refine q_iconst (0) (by decide) ?_
      obtain ⟨⟨z_22, k_22⟩, h⟩ := ite_some h
      refine q_putI (c0 := 4) (j := 3) rfl rfl z_22 (fst_eq k_22) rfl ?_
      obtain ⟨I_22, nI_22, h⟩ := stI_some h
      refine q_nI nI_22 ?_
      refine q_aload rfl ?_
      refine q_iconst (256) (by decide) ?_
      obtain ⟨mk_29, ms_29, h, ek_29, em_29⟩ := adk_some h
      refine q_newa (m0 := 256) (by decide) (by decide) (by decide) (by decide) (by omega) (by omega) ?_
      obtain ⟨z_29, nz_29, h⟩ := stI_some h
      obtain ⟨kd_29, nkd_29, h⟩ := stI_some h
      obtain ⟨I_29, nI_29, h⟩ := stI_some h
      obtain ⟨L_29, nL_29, h⟩ := stI_some h
      obtain ⟨R_29, nR_29, h⟩ := stI_some h
      refine q_n5 nz_29 nkd_29 nI_29 nL_29 nR_29 ?_
      obtain ⟨⟨z_31, k_31⟩, h⟩ := ite_some h
      refine q_putR (c0 := 4) (j := 4) rfl rfl z_31 (fst_eq k_31) rfl ?_
      obtain ⟨R_31, nR_31, h⟩ := stI_some h
      refine q_nR nR_31 ?_
      refine q_aload rfl ?_
      refine q_iconst (256) (by decide) ?_
      obtain ⟨mk_38, ms_38, h, ek_38, em_38⟩ := adk_some h
      refine q_newa (m0 := 256) (by decide) (by decide) (by decide) (by decide) (by omega) (by omega) ?_
      obtain ⟨z_38, nz_38, h⟩ := stI_some h
      obtain ⟨kd_38, nkd_38, h⟩ := stI_some h
      obtain ⟨I_38, nI_38, h⟩ := stI_some h
      obtain ⟨L_38, nL_38, h⟩ := stI_some h
      obtain ⟨R_38, nR_38, h⟩ := stI_some h
      refine q_n5 nz_38 nkd_38 nI_38 nL_38 nR_38 ?_
      obtain ⟨⟨z_40, k_40⟩, h⟩ := ite_some h
      refine q_putR (c0 := 4) (j := 5) rfl rfl z_40 (fst_eq k_40) rfl ?_
      obtain ⟨R_40, nR_40, h⟩ := stI_some h
      refine q_nR nR_40 ?_
      refine q_aload rfl ?_
      refine q_iconst (256) (by decide) ?_
      obtain ⟨mk_47, ms_47, h, ek_47, em_47⟩ := adk_some h
      refine q_newa (m0 := 256) (by decide) (by decide) (by decide) (by decide) (by omega) (by omega) ?_
      obtain ⟨z_47, nz_47, h⟩ := stI_some h
      obtain ⟨kd_47, nkd_47, h⟩ := stI_some h
      obtain ⟨I_47, nI_47, h⟩ := stI_some h
      obtain ⟨L_47, nL_47, h⟩ := stI_some h
      obtain ⟨R_47, nR_47, h⟩ := stI_some h
      refine q_n5 nz_47 nkd_47 nI_47 nL_47 nR_47 ?_
      obtain ⟨⟨z_49, k_49⟩, h⟩ := ite_some h
      refine q_putR (c0 := 4) (j := 6) rfl rfl z_49 (fst_eq k_49) rfl ?_
      obtain ⟨R_49, nR_49, h⟩ := stI_some h
      refine q_nR nR_49 ?_
      refine q_aload rfl ?_
      refine q_iconst (1) (by decide) ?_
      obtain ⟨mk_54, ms_54, h, ek_54, em_54⟩ := adk_some h
      refine q_newa (m0 := 1) (by decide) (by decide) (by decide) (by decide) (by omega) (by omega) ?_
      obtain ⟨z_54, nz_54, h⟩ := stI_some h
      obtain ⟨kd_54, nkd_54, h⟩ := stI_some h
      obtain ⟨I_54, nI_54, h⟩ := stI_some h
      obtain ⟨L_54, nL_54, h⟩ := stI_some h
      obtain ⟨R_54, nR_54, h⟩ := stI_some h
      refine q_n5 nz_54 nkd_54 nI_54 nL_54 nR_54 ?_
      obtain ⟨⟨z_56, k_56⟩, h⟩ := ite_some h
      refine q_putR (c0 := 4) (j := 7) rfl rfl z_56 (fst_eq k_56) rfl ?_
      obtain ⟨R_56, nR_56, h⟩ := stI_some h
      refine q_nR nR_56 ?_
      refine q_aload rfl ?_
      refine q_iconst (0) (by decide) ?_
      obtain ⟨⟨z_61, k_61⟩, h⟩ := ite_some h
      refine q_putI (c0 := 4) (j := 8) rfl rfl z_61 (fst_eq k_61) rfl ?_
      obtain ⟨I_61, nI_61, h⟩ := stI_some h
      refine q_nI nI_61 ?_
      refine q_aload rfl ?_
      refine q_iconst (0) (by decide) ?_
      obtain ⟨⟨z_66, k_66⟩, h⟩ := ite_some h
      refine q_putI (c0 := 4) (j := 9) rfl rfl z_66 (fst_eq k_66) rfl ?_
      obtain ⟨I_66, nI_66, h⟩ := stI_some h
      refine q_nI nI_66 ?_
      refine q_aload rfl ?_
      refine q_aload rfl ?_
      obtain ⟨⟨z_71, k_71⟩, h⟩ := ite_some h
      refine q_putR (c0 := 4) (j := 0) rfl rfl z_71 (fst_eq k_71) rfl ?_
      obtain ⟨R_71, nR_71, h⟩ := stI_some h
      refine q_nR nR_71 ?_
      cases h
      exact q_vret rfl (by omega) (by omega) rfl
theorem a_7 (X : GX) {z : Nat} {kd : (Nat → Nat × Nat)} {I : (Nat → Nat → Int32)} {L : (Nat → Nat → Int64)} {R : (Nat → Nat → Option Nat)} {n dp d : Nat} (hd : dp ≤ d) {a0 : Nat} {a1 : Nat} {z1 : Nat} {kd1 : (Nat → Nat × Nat)} {I1 : (Nat → Nat → Int32)} {L1 : (Nat → Nat → Int64)} {R1 : (Nat → Nat → Option Nat)} {k1 m1 : Nat} (h : g_7 n dp 0 z kd I L R a0 a1 = some ((z1, kd1, I1, L1, R1), k1, m1)) : Ct X d 7 k1 m1 [.ref a0, .ref a1] (z, kd, I, L, R) (AV (fun τ => τ = (z1, kd1, I1, L1, R1))) :=
  Ct_of mu_7 (Nat.le_of_ble_eq_true rfl) ((w_7 X n dp d hd z kd I L R a0 a1 _ _ _ _ _ _ _) h k1 m1 0 0 (by omega) (by omega))

/-! 8 CutFloor$Cuttings.<init>()V -/
set_option maxHeartbeats 4000000 in
set_option maxRecDepth 100000 in
def g_8 : Nat → Nat → Nat → Nat → (Nat → Nat × Nat) → (Nat → Nat → Int32) → (Nat → Nat → Int64) → (Nat → Nat → Option Nat) → Nat →  Option ((PS) × Nat × Nat)
  | 0, _, _, _, _, _, _, _, _ => none
  | n + 1, dp, lab, z, kd, I, L, R, a0 =>
    if lab = 0 then (if 1 ≤ dp then (adk 1 640 (stI (z + 1) (fun z_8 => (stI (va_up kd z (13, 640)) (fun kd_8 => (stI (va_up I z (fun _ => 0)) (fun I_8 => (stI (va_up L z (fun _ => 0)) (fun L_8 => (stI (va_up R z (fun _ => none)) (fun R_8 => (if a0 < z_8 ∧ (kd_8 a0).1 = 2 then (stI (u2 R_8 a0 0 (some z)) (fun R_10 => (adk 1 640 (stI (z_8 + 1) (fun z_17 => (stI (va_up kd_8 z_8 (13, 640)) (fun kd_17 => (stI (va_up I_8 z_8 (fun _ => 0)) (fun I_17 => (stI (va_up L_8 z_8 (fun _ => 0)) (fun L_17 => (stI (va_up R_10 z_8 (fun _ => none)) (fun R_17 => (if a0 < z_17 ∧ (kd_17 a0).1 = 2 then (stI (u2 R_17 a0 1 (some z_8)) (fun R_19 => (adk 1 10 (stI (z_17 + 1) (fun z_25 => (stI (va_up kd_17 z_17 (13, 10)) (fun kd_25 => (stI (va_up I_17 z_17 (fun _ => 0)) (fun I_25 => (stI (va_up L_17 z_17 (fun _ => 0)) (fun L_25 => (stI (va_up R_19 z_17 (fun _ => none)) (fun R_25 => (if a0 < z_25 ∧ (kd_25 a0).1 = 2 then (stI (u2 R_25 a0 2 (some z_17)) (fun R_27 => (adk 1 10 (stI (z_25 + 1) (fun z_33 => (stI (va_up kd_25 z_25 (13, 10)) (fun kd_33 => (stI (va_up I_25 z_25 (fun _ => 0)) (fun I_33 => (stI (va_up L_25 z_25 (fun _ => 0)) (fun L_33 => (stI (va_up R_27 z_25 (fun _ => none)) (fun R_33 => (if a0 < z_33 ∧ (kd_33 a0).1 = 2 then (stI (u2 R_33 a0 3 (some z_25)) (fun R_35 => (if a0 < z_33 ∧ (kd_33 a0).1 = 2 then (stI (u2 I_33 a0 4 (0 : Int32)) (fun I_40 => (if a0 < z_33 ∧ (kd_33 a0).1 = 2 then (stI (u2 I_40 a0 5 (-1 : Int32)) (fun I_45 => (if a0 < z_33 ∧ (kd_33 a0).1 = 2 then (stI (u2 I_45 a0 6 (0 : Int32)) (fun I_50 => (some ((z_33, kd_33, I_50, L_33, R_35), 0, 0)))) else none))) else none))) else none))) else none)))))))))))))) else none)))))))))))))) else none)))))))))))))) else none)))))))))))) else none)
    else none
set_option maxRecDepth 100000 in
theorem e_8_0 (n dp : Nat) (z : Nat) (kd : (Nat → Nat × Nat)) (I : (Nat → Nat → Int32)) (L : (Nat → Nat → Int64)) (R : (Nat → Nat → Option Nat)) (a0 : Nat) : g_8 (n + 1) dp 0 z kd I L R a0 = (if 1 ≤ dp then (adk 1 640 (stI (z + 1) (fun z_8 => (stI (va_up kd z (13, 640)) (fun kd_8 => (stI (va_up I z (fun _ => 0)) (fun I_8 => (stI (va_up L z (fun _ => 0)) (fun L_8 => (stI (va_up R z (fun _ => none)) (fun R_8 => (if a0 < z_8 ∧ (kd_8 a0).1 = 2 then (stI (u2 R_8 a0 0 (some z)) (fun R_10 => (adk 1 640 (stI (z_8 + 1) (fun z_17 => (stI (va_up kd_8 z_8 (13, 640)) (fun kd_17 => (stI (va_up I_8 z_8 (fun _ => 0)) (fun I_17 => (stI (va_up L_8 z_8 (fun _ => 0)) (fun L_17 => (stI (va_up R_10 z_8 (fun _ => none)) (fun R_17 => (if a0 < z_17 ∧ (kd_17 a0).1 = 2 then (stI (u2 R_17 a0 1 (some z_8)) (fun R_19 => (adk 1 10 (stI (z_17 + 1) (fun z_25 => (stI (va_up kd_17 z_17 (13, 10)) (fun kd_25 => (stI (va_up I_17 z_17 (fun _ => 0)) (fun I_25 => (stI (va_up L_17 z_17 (fun _ => 0)) (fun L_25 => (stI (va_up R_19 z_17 (fun _ => none)) (fun R_25 => (if a0 < z_25 ∧ (kd_25 a0).1 = 2 then (stI (u2 R_25 a0 2 (some z_17)) (fun R_27 => (adk 1 10 (stI (z_25 + 1) (fun z_33 => (stI (va_up kd_25 z_25 (13, 10)) (fun kd_33 => (stI (va_up I_25 z_25 (fun _ => 0)) (fun I_33 => (stI (va_up L_25 z_25 (fun _ => 0)) (fun L_33 => (stI (va_up R_27 z_25 (fun _ => none)) (fun R_33 => (if a0 < z_33 ∧ (kd_33 a0).1 = 2 then (stI (u2 R_33 a0 3 (some z_25)) (fun R_35 => (if a0 < z_33 ∧ (kd_33 a0).1 = 2 then (stI (u2 I_33 a0 4 (0 : Int32)) (fun I_40 => (if a0 < z_33 ∧ (kd_33 a0).1 = 2 then (stI (u2 I_40 a0 5 (-1 : Int32)) (fun I_45 => (if a0 < z_33 ∧ (kd_33 a0).1 = 2 then (stI (u2 I_45 a0 6 (0 : Int32)) (fun I_50 => (some ((z_33, kd_33, I_50, L_33, R_35), 0, 0)))) else none))) else none))) else none))) else none)))))))))))))) else none)))))))))))))) else none)))))))))))))) else none)))))))))))) else none) := by rw [g_8.eq_2, if_pos (show (0 : Nat) = 0 from rfl)]
set_option maxHeartbeats 8000000 in
set_option maxRecDepth 100000 in
theorem w_8 (X : GX) : ∀ (n dp d : Nat), dp ≤ d → ∀ (z : Nat) (kd : (Nat → Nat × Nat)) (I : (Nat → Nat → Int32)) (L : (Nat → Nat → Int64)) (R : (Nat → Nat → Option Nat)), ∀ (a0 : Nat) (z1 : Nat) (kd1 : (Nat → Nat × Nat)) (I1 : (Nat → Nat → Int32)) (L1 : (Nat → Nat → Int64)) (R1 : (Nat → Nat → Option Nat)) (k1 m1 : Nat), (g_8 n dp 0 z kd I L R a0 = some ((z1, kd1, I1, L1, R1), k1, m1) → ∀ MC MS k m : Nat, k + k1 ≤ MC → m + m1 ≤ MS → K X d 8 MC MS (AV (fun τ => τ = (z1, kd1, I1, L1, R1))) 0 [some (.ref a0)] [] (z, kd, I, L, R) k m) := by
  intro n
  induction n with
  | zero => intro dp d hdp z kd I L R  a0 z1 kd1 I1 L1 R1 k1 m1; exact fun h => by cases h
  | succ n ih =>
    intro dp d hdp z kd I L R  a0 z1 kd1 I1 L1 R1 k1 m1
    · intro h MC MS k m hMC hMS
      rw [e_8_0] at h
      refine K_of b_8_0 h_8_0 ?_
      refine q_aload rfl ?_
      obtain ⟨d_1, h⟩ := ite_some h
      refine q_obj (Nat.le_of_ble_eq_true rfl) (Nat.le_trans d_1 hdp) ?_
      refine q_aload rfl ?_
      refine q_iconst (640) (by decide) ?_
      obtain ⟨mk_8, ms_8, h, ek_8, em_8⟩ := adk_some h
      refine q_newa (m0 := 640) (by decide) (by decide) (by decide) (by decide) (by omega) (by omega) ?_
      obtain ⟨z_8, nz_8, h⟩ := stI_some h
      obtain ⟨kd_8, nkd_8, h⟩ := stI_some h
      obtain ⟨I_8, nI_8, h⟩ := stI_some h
      obtain ⟨L_8, nL_8, h⟩ := stI_some h
      obtain ⟨R_8, nR_8, h⟩ := stI_some h
      refine q_n5 nz_8 nkd_8 nI_8 nL_8 nR_8 ?_
      obtain ⟨⟨z_10, k_10⟩, h⟩ := ite_some h
      refine q_putR (c0 := 2) (j := 0) rfl rfl z_10 (fst_eq k_10) rfl ?_
      obtain ⟨R_10, nR_10, h⟩ := stI_some h
      refine q_nR nR_10 ?_
      refine q_aload rfl ?_
      refine q_iconst (640) (by decide) ?_
      obtain ⟨mk_17, ms_17, h, ek_17, em_17⟩ := adk_some h
      refine q_newa (m0 := 640) (by decide) (by decide) (by decide) (by decide) (by omega) (by omega) ?_
      obtain ⟨z_17, nz_17, h⟩ := stI_some h
      obtain ⟨kd_17, nkd_17, h⟩ := stI_some h
      obtain ⟨I_17, nI_17, h⟩ := stI_some h
      obtain ⟨L_17, nL_17, h⟩ := stI_some h
      obtain ⟨R_17, nR_17, h⟩ := stI_some h
      refine q_n5 nz_17 nkd_17 nI_17 nL_17 nR_17 ?_
      obtain ⟨⟨z_19, k_19⟩, h⟩ := ite_some h
      refine q_putR (c0 := 2) (j := 1) rfl rfl z_19 (fst_eq k_19) rfl ?_
      obtain ⟨R_19, nR_19, h⟩ := stI_some h
      refine q_nR nR_19 ?_
      refine q_aload rfl ?_
      refine q_iconst (10) (by decide) ?_
      obtain ⟨mk_25, ms_25, h, ek_25, em_25⟩ := adk_some h
      refine q_newa (m0 := 10) (by decide) (by decide) (by decide) (by decide) (by omega) (by omega) ?_
      obtain ⟨z_25, nz_25, h⟩ := stI_some h
      obtain ⟨kd_25, nkd_25, h⟩ := stI_some h
      obtain ⟨I_25, nI_25, h⟩ := stI_some h
      obtain ⟨L_25, nL_25, h⟩ := stI_some h
      obtain ⟨R_25, nR_25, h⟩ := stI_some h
      refine q_n5 nz_25 nkd_25 nI_25 nL_25 nR_25 ?_
      obtain ⟨⟨z_27, k_27⟩, h⟩ := ite_some h
      refine q_putR (c0 := 2) (j := 2) rfl rfl z_27 (fst_eq k_27) rfl ?_
      obtain ⟨R_27, nR_27, h⟩ := stI_some h
      refine q_nR nR_27 ?_
      refine q_aload rfl ?_
      refine q_iconst (10) (by decide) ?_
      obtain ⟨mk_33, ms_33, h, ek_33, em_33⟩ := adk_some h
      refine q_newa (m0 := 10) (by decide) (by decide) (by decide) (by decide) (by omega) (by omega) ?_
      obtain ⟨z_33, nz_33, h⟩ := stI_some h
      obtain ⟨kd_33, nkd_33, h⟩ := stI_some h
      obtain ⟨I_33, nI_33, h⟩ := stI_some h
      obtain ⟨L_33, nL_33, h⟩ := stI_some h
      obtain ⟨R_33, nR_33, h⟩ := stI_some h
      refine q_n5 nz_33 nkd_33 nI_33 nL_33 nR_33 ?_
      obtain ⟨⟨z_35, k_35⟩, h⟩ := ite_some h
      refine q_putR (c0 := 2) (j := 3) rfl rfl z_35 (fst_eq k_35) rfl ?_
      obtain ⟨R_35, nR_35, h⟩ := stI_some h
      refine q_nR nR_35 ?_
      refine q_aload rfl ?_
      refine q_iconst (0) (by decide) ?_
      obtain ⟨⟨z_40, k_40⟩, h⟩ := ite_some h
      refine q_putI (c0 := 2) (j := 4) rfl rfl z_40 (fst_eq k_40) rfl ?_
      obtain ⟨I_40, nI_40, h⟩ := stI_some h
      refine q_nI nI_40 ?_
      refine q_aload rfl ?_
      refine q_iconst (-1) (by decide) ?_
      obtain ⟨⟨z_45, k_45⟩, h⟩ := ite_some h
      refine q_putI (c0 := 2) (j := 5) rfl rfl z_45 (fst_eq k_45) rfl ?_
      obtain ⟨I_45, nI_45, h⟩ := stI_some h
      refine q_nI nI_45 ?_
      refine q_aload rfl ?_
      refine q_iconst (0) (by decide) ?_
      obtain ⟨⟨z_50, k_50⟩, h⟩ := ite_some h
      refine q_putI (c0 := 2) (j := 6) rfl rfl z_50 (fst_eq k_50) rfl ?_
      obtain ⟨I_50, nI_50, h⟩ := stI_some h
      refine q_nI nI_50 ?_
      cases h
      exact q_vret rfl (by omega) (by omega) rfl
theorem a_8 (X : GX) {z : Nat} {kd : (Nat → Nat × Nat)} {I : (Nat → Nat → Int32)} {L : (Nat → Nat → Int64)} {R : (Nat → Nat → Option Nat)} {n dp d : Nat} (hd : dp ≤ d) {a0 : Nat} {z1 : Nat} {kd1 : (Nat → Nat × Nat)} {I1 : (Nat → Nat → Int32)} {L1 : (Nat → Nat → Int64)} {R1 : (Nat → Nat → Option Nat)} {k1 m1 : Nat} (h : g_8 n dp 0 z kd I L R a0 = some ((z1, kd1, I1, L1, R1), k1, m1)) : Ct X d 8 k1 m1 [.ref a0] (z, kd, I, L, R) (AV (fun τ => τ = (z1, kd1, I1, L1, R1))) :=
  Ct_of mu_8 (Nat.le_of_ble_eq_true rfl) ((w_8 X n dp d hd z kd I L R a0 _ _ _ _ _ _ _) h k1 m1 0 0 (by omega) (by omega))

/-! 5 CutFloor$Planner.<init>(LCutFloor$Hall;LCutFloor$Asker;)V -/
set_option maxHeartbeats 4000000 in
set_option maxRecDepth 100000 in
def g_5 : Nat → Nat → Nat → Nat → (Nat → Nat × Nat) → (Nat → Nat → Int32) → (Nat → Nat → Int64) → (Nat → Nat → Option Nat) → Int32 → Nat → Nat → Nat →  Option ((PS) × Nat × Nat)
  | 0, _, _, _, _, _, _, _, _, _, _, _ => none
  | n + 1, dp, lab, z, kd, I, L, R, i3, a0, a1, a2 =>
    if lab = 0 then (if 1 ≤ dp then (adk 1 3 (stI (z + 1) (fun z_6 => (stI (va_up kd z (16, 3)) (fun kd_6 => (stI (va_up I z (fun _ => 0)) (fun I_6 => (stI (va_up L z (fun _ => 0)) (fun L_6 => (stI (va_up R z (fun _ => none)) (fun R_6 => (if a0 < z_6 ∧ (kd_6 a0).1 = 7 then (stI (u2 R_6 a0 2 (some z)) (fun R_9 => (adk 1 (clN 6).2.2 (stI (z_6 + 1) (fun z_13 => (stI (va_up kd_6 z_6 (6, 0)) (fun kd_13 => (stI (va_up I_6 z_6 (fun _ => 0)) (fun I_13 => (stI (va_up L_6 z_6 (fun _ => 0)) (fun L_13 => (stI (va_up R_9 z_6 (fun _ => none)) (fun R_13 => (if 1 ≤ dp then (if z_6 < z_13 ∧ (kd_13 z_6).1 = 6 then (g_6 n (dp - 1) 0 z_13 kd_13 I_13 L_13 R_13 z_6).bind (fun ⟨⟨z_17, kd_17, I_17, L_17, R_17⟩, ck_17, cm_17⟩ => (adk ck_17 cm_17 (if a0 < z_17 ∧ (kd_17 a0).1 = 7 then (stI (u2 R_17 a0 3 (some z_6)) (fun R_20 => (adk 1 (clN 4).2.2 (stI (z_17 + 1) (fun z_24 => (stI (va_up kd_17 z_17 (4, 0)) (fun kd_24 => (stI (va_up I_17 z_17 (fun _ => 0)) (fun I_24 => (stI (va_up L_17 z_17 (fun _ => 0)) (fun L_24 => (stI (va_up R_20 z_17 (fun _ => none)) (fun R_24 => (if a0 < z_24 ∧ (kd_24 a0).1 = 7 then ((R_24 a0 3).bind (fun b_29 => (if 1 ≤ dp then (if z_17 < z_24 ∧ (kd_24 z_17).1 = 4 then (g_7 n (dp - 1) 0 z_24 kd_24 I_24 L_24 R_24 z_17 b_29).bind (fun ⟨⟨z_32, kd_32, I_32, L_32, R_32⟩, ck_32, cm_32⟩ => (adk ck_32 cm_32 (if a0 < z_32 ∧ (kd_32 a0).1 = 7 then (stI (u2 R_32 a0 4 (some z_17)) (fun R_35 => (adk 1 729 (stI (z_32 + 1) (fun z_42 => (stI (va_up kd_32 z_32 (13, 729)) (fun kd_42 => (stI (va_up I_32 z_32 (fun _ => 0)) (fun I_42 => (stI (va_up L_32 z_32 (fun _ => 0)) (fun L_42 => (stI (va_up R_35 z_32 (fun _ => none)) (fun R_42 => (if a0 < z_42 ∧ (kd_42 a0).1 = 7 then (stI (u2 R_42 a0 5 (some z_32)) (fun R_44 => (adk 1 729 (stI (z_42 + 1) (fun z_51 => (stI (va_up kd_42 z_42 (13, 729)) (fun kd_51 => (stI (va_up I_42 z_42 (fun _ => 0)) (fun I_51 => (stI (va_up L_42 z_42 (fun _ => 0)) (fun L_51 => (stI (va_up R_44 z_42 (fun _ => none)) (fun R_51 => (if a0 < z_51 ∧ (kd_51 a0).1 = 7 then (stI (u2 R_51 a0 6 (some z_42)) (fun R_53 => (adk 1 729 (stI (z_51 + 1) (fun z_60 => (stI (va_up kd_51 z_51 (13, 729)) (fun kd_60 => (stI (va_up I_51 z_51 (fun _ => 0)) (fun I_60 => (stI (va_up L_51 z_51 (fun _ => 0)) (fun L_60 => (stI (va_up R_53 z_51 (fun _ => none)) (fun R_60 => (if a0 < z_60 ∧ (kd_60 a0).1 = 7 then (stI (u2 R_60 a0 7 (some z_51)) (fun R_62 => (adk 1 8 (stI (z_60 + 1) (fun z_68 => (stI (va_up kd_60 z_60 (13, 8)) (fun kd_68 => (stI (va_up I_60 z_60 (fun _ => 0)) (fun I_68 => (stI (va_up L_60 z_60 (fun _ => 0)) (fun L_68 => (stI (va_up R_62 z_60 (fun _ => none)) (fun R_68 => (if a0 < z_68 ∧ (kd_68 a0).1 = 7 then (stI (u2 R_68 a0 8 (some z_60)) (fun R_70 => (adk 1 8 (stI (z_68 + 1) (fun z_76 => (stI (va_up kd_68 z_68 (13, 8)) (fun kd_76 => (stI (va_up I_68 z_68 (fun _ => 0)) (fun I_76 => (stI (va_up L_68 z_68 (fun _ => 0)) (fun L_76 => (stI (va_up R_70 z_68 (fun _ => none)) (fun R_76 => (if a0 < z_76 ∧ (kd_76 a0).1 = 7 then (stI (u2 R_76 a0 9 (some z_68)) (fun R_78 => (adk 1 3 (stI (z_76 + 1) (fun z_83 => (stI (va_up kd_76 z_76 (13, 3)) (fun kd_83 => (stI (va_up I_76 z_76 (fun _ => 0)) (fun I_83 => (stI (va_up L_76 z_76 (fun _ => 0)) (fun L_83 => (stI (va_up R_78 z_76 (fun _ => none)) (fun R_83 => (if a0 < z_83 ∧ (kd_83 a0).1 = 7 then (stI (u2 R_83 a0 10 (some z_76)) (fun R_85 => (adk 1 3 (stI (z_83 + 1) (fun z_90 => (stI (va_up kd_83 z_83 (13, 3)) (fun kd_90 => (stI (va_up I_83 z_83 (fun _ => 0)) (fun I_90 => (stI (va_up L_83 z_83 (fun _ => 0)) (fun L_90 => (stI (va_up R_85 z_83 (fun _ => none)) (fun R_90 => (if a0 < z_90 ∧ (kd_90 a0).1 = 7 then (stI (u2 R_90 a0 11 (some z_83)) (fun R_92 => (if a0 < z_90 ∧ (kd_90 a0).1 = 7 then (stI (u2 I_90 a0 12 (1 : Int32)) (fun I_97 => (if a0 < z_90 ∧ (kd_90 a0).1 = 7 then (stI (u2 I_97 a0 13 (1 : Int32)) (fun I_102 => (if a0 < z_90 ∧ (kd_90 a0).1 = 7 then (stI (u2 I_102 a0 14 (1 : Int32)) (fun I_107 => (if a0 < z_90 ∧ (kd_90 a0).1 = 7 then (stI (u2 I_107 a0 15 (1 : Int32)) (fun I_112 => (if a0 < z_90 ∧ (kd_90 a0).1 = 7 then (stI (u2 R_92 a0 0 (some a1)) (fun R_117 => (if a0 < z_90 ∧ (kd_90 a0).1 = 7 then (stI (u2 R_117 a0 1 (some a2)) (fun R_122 => (g_5 n dp 1 z_90 kd_90 I_112 L_90 R_122 (0 : Int32) a0 a1 a2))) else none))) else none))) else none))) else none))) else none))) else none))) else none)))))))))))))) else none)))))))))))))) else none)))))))))))))) else none)))))))))))))) else none)))))))))))))) else none)))))))))))))) else none)))))))))))))) else none))) else none) else none))) else none)))))))))))))) else none))) else none) else none)))))))))))))) else none)))))))))))) else none)
    else if lab = 1 then (if (3 : Int32) ≤ i3 then (some ((z, kd, I, L, R), 0, 0)) else (if a0 < z ∧ (kd a0).1 = 7 then ((R a0 2).bind (fun b_133 => (adk 1 (clN 2).2.2 (stI (z + 1) (fun z_137 => (stI (va_up kd z (2, 0)) (fun kd_137 => (stI (va_up I z (fun _ => 0)) (fun I_137 => (stI (va_up L z (fun _ => 0)) (fun L_137 => (stI (va_up R z (fun _ => none)) (fun R_137 => (if 1 ≤ dp then (if z < z_137 ∧ (kd_137 z).1 = 2 then (g_8 n (dp - 1) 0 z_137 kd_137 I_137 L_137 R_137 z).bind (fun ⟨⟨z_141, kd_141, I_141, L_141, R_141⟩, ck_141, cm_141⟩ => (adk ck_141 cm_141 (if (z < z_141 ∧ (kd_141 z).1 = 2) ∧ (b_133 < z_141 ∧ (kd_141 b_133).1 = 16) ∧ 0 ≤ i3 ∧ (Int32.toNatClampNeg i3) < (kd_141 b_133).2 then (stI (u2 R_141 b_133 (Int32.toNatClampNeg i3) (some z)) (fun R_144 => (g_5 n dp 1 z_141 kd_141 I_141 L_141 R_144 (i3 + Int32.ofInt (1)) a0 a1 a2))) else none))) else none) else none)))))))))))))) else none))
    else none
set_option maxRecDepth 100000 in
theorem e_5_0 (n dp : Nat) (z : Nat) (kd : (Nat → Nat × Nat)) (I : (Nat → Nat → Int32)) (L : (Nat → Nat → Int64)) (R : (Nat → Nat → Option Nat)) (i3 : Int32) (a0 : Nat) (a1 : Nat) (a2 : Nat) : g_5 (n + 1) dp 0 z kd I L R i3 a0 a1 a2 = (if 1 ≤ dp then (adk 1 3 (stI (z + 1) (fun z_6 => (stI (va_up kd z (16, 3)) (fun kd_6 => (stI (va_up I z (fun _ => 0)) (fun I_6 => (stI (va_up L z (fun _ => 0)) (fun L_6 => (stI (va_up R z (fun _ => none)) (fun R_6 => (if a0 < z_6 ∧ (kd_6 a0).1 = 7 then (stI (u2 R_6 a0 2 (some z)) (fun R_9 => (adk 1 (clN 6).2.2 (stI (z_6 + 1) (fun z_13 => (stI (va_up kd_6 z_6 (6, 0)) (fun kd_13 => (stI (va_up I_6 z_6 (fun _ => 0)) (fun I_13 => (stI (va_up L_6 z_6 (fun _ => 0)) (fun L_13 => (stI (va_up R_9 z_6 (fun _ => none)) (fun R_13 => (if 1 ≤ dp then (if z_6 < z_13 ∧ (kd_13 z_6).1 = 6 then (g_6 n (dp - 1) 0 z_13 kd_13 I_13 L_13 R_13 z_6).bind (fun ⟨⟨z_17, kd_17, I_17, L_17, R_17⟩, ck_17, cm_17⟩ => (adk ck_17 cm_17 (if a0 < z_17 ∧ (kd_17 a0).1 = 7 then (stI (u2 R_17 a0 3 (some z_6)) (fun R_20 => (adk 1 (clN 4).2.2 (stI (z_17 + 1) (fun z_24 => (stI (va_up kd_17 z_17 (4, 0)) (fun kd_24 => (stI (va_up I_17 z_17 (fun _ => 0)) (fun I_24 => (stI (va_up L_17 z_17 (fun _ => 0)) (fun L_24 => (stI (va_up R_20 z_17 (fun _ => none)) (fun R_24 => (if a0 < z_24 ∧ (kd_24 a0).1 = 7 then ((R_24 a0 3).bind (fun b_29 => (if 1 ≤ dp then (if z_17 < z_24 ∧ (kd_24 z_17).1 = 4 then (g_7 n (dp - 1) 0 z_24 kd_24 I_24 L_24 R_24 z_17 b_29).bind (fun ⟨⟨z_32, kd_32, I_32, L_32, R_32⟩, ck_32, cm_32⟩ => (adk ck_32 cm_32 (if a0 < z_32 ∧ (kd_32 a0).1 = 7 then (stI (u2 R_32 a0 4 (some z_17)) (fun R_35 => (adk 1 729 (stI (z_32 + 1) (fun z_42 => (stI (va_up kd_32 z_32 (13, 729)) (fun kd_42 => (stI (va_up I_32 z_32 (fun _ => 0)) (fun I_42 => (stI (va_up L_32 z_32 (fun _ => 0)) (fun L_42 => (stI (va_up R_35 z_32 (fun _ => none)) (fun R_42 => (if a0 < z_42 ∧ (kd_42 a0).1 = 7 then (stI (u2 R_42 a0 5 (some z_32)) (fun R_44 => (adk 1 729 (stI (z_42 + 1) (fun z_51 => (stI (va_up kd_42 z_42 (13, 729)) (fun kd_51 => (stI (va_up I_42 z_42 (fun _ => 0)) (fun I_51 => (stI (va_up L_42 z_42 (fun _ => 0)) (fun L_51 => (stI (va_up R_44 z_42 (fun _ => none)) (fun R_51 => (if a0 < z_51 ∧ (kd_51 a0).1 = 7 then (stI (u2 R_51 a0 6 (some z_42)) (fun R_53 => (adk 1 729 (stI (z_51 + 1) (fun z_60 => (stI (va_up kd_51 z_51 (13, 729)) (fun kd_60 => (stI (va_up I_51 z_51 (fun _ => 0)) (fun I_60 => (stI (va_up L_51 z_51 (fun _ => 0)) (fun L_60 => (stI (va_up R_53 z_51 (fun _ => none)) (fun R_60 => (if a0 < z_60 ∧ (kd_60 a0).1 = 7 then (stI (u2 R_60 a0 7 (some z_51)) (fun R_62 => (adk 1 8 (stI (z_60 + 1) (fun z_68 => (stI (va_up kd_60 z_60 (13, 8)) (fun kd_68 => (stI (va_up I_60 z_60 (fun _ => 0)) (fun I_68 => (stI (va_up L_60 z_60 (fun _ => 0)) (fun L_68 => (stI (va_up R_62 z_60 (fun _ => none)) (fun R_68 => (if a0 < z_68 ∧ (kd_68 a0).1 = 7 then (stI (u2 R_68 a0 8 (some z_60)) (fun R_70 => (adk 1 8 (stI (z_68 + 1) (fun z_76 => (stI (va_up kd_68 z_68 (13, 8)) (fun kd_76 => (stI (va_up I_68 z_68 (fun _ => 0)) (fun I_76 => (stI (va_up L_68 z_68 (fun _ => 0)) (fun L_76 => (stI (va_up R_70 z_68 (fun _ => none)) (fun R_76 => (if a0 < z_76 ∧ (kd_76 a0).1 = 7 then (stI (u2 R_76 a0 9 (some z_68)) (fun R_78 => (adk 1 3 (stI (z_76 + 1) (fun z_83 => (stI (va_up kd_76 z_76 (13, 3)) (fun kd_83 => (stI (va_up I_76 z_76 (fun _ => 0)) (fun I_83 => (stI (va_up L_76 z_76 (fun _ => 0)) (fun L_83 => (stI (va_up R_78 z_76 (fun _ => none)) (fun R_83 => (if a0 < z_83 ∧ (kd_83 a0).1 = 7 then (stI (u2 R_83 a0 10 (some z_76)) (fun R_85 => (adk 1 3 (stI (z_83 + 1) (fun z_90 => (stI (va_up kd_83 z_83 (13, 3)) (fun kd_90 => (stI (va_up I_83 z_83 (fun _ => 0)) (fun I_90 => (stI (va_up L_83 z_83 (fun _ => 0)) (fun L_90 => (stI (va_up R_85 z_83 (fun _ => none)) (fun R_90 => (if a0 < z_90 ∧ (kd_90 a0).1 = 7 then (stI (u2 R_90 a0 11 (some z_83)) (fun R_92 => (if a0 < z_90 ∧ (kd_90 a0).1 = 7 then (stI (u2 I_90 a0 12 (1 : Int32)) (fun I_97 => (if a0 < z_90 ∧ (kd_90 a0).1 = 7 then (stI (u2 I_97 a0 13 (1 : Int32)) (fun I_102 => (if a0 < z_90 ∧ (kd_90 a0).1 = 7 then (stI (u2 I_102 a0 14 (1 : Int32)) (fun I_107 => (if a0 < z_90 ∧ (kd_90 a0).1 = 7 then (stI (u2 I_107 a0 15 (1 : Int32)) (fun I_112 => (if a0 < z_90 ∧ (kd_90 a0).1 = 7 then (stI (u2 R_92 a0 0 (some a1)) (fun R_117 => (if a0 < z_90 ∧ (kd_90 a0).1 = 7 then (stI (u2 R_117 a0 1 (some a2)) (fun R_122 => (g_5 n dp 1 z_90 kd_90 I_112 L_90 R_122 (0 : Int32) a0 a1 a2))) else none))) else none))) else none))) else none))) else none))) else none))) else none)))))))))))))) else none)))))))))))))) else none)))))))))))))) else none)))))))))))))) else none)))))))))))))) else none)))))))))))))) else none)))))))))))))) else none))) else none) else none))) else none)))))))))))))) else none))) else none) else none)))))))))))))) else none)))))))))))) else none) := by rw [g_5.eq_2, if_pos (show (0 : Nat) = 0 from rfl)]
set_option maxRecDepth 100000 in
theorem e_5_1 (n dp : Nat) (z : Nat) (kd : (Nat → Nat × Nat)) (I : (Nat → Nat → Int32)) (L : (Nat → Nat → Int64)) (R : (Nat → Nat → Option Nat)) (i3 : Int32) (a0 : Nat) (a1 : Nat) (a2 : Nat) : g_5 (n + 1) dp 1 z kd I L R i3 a0 a1 a2 = (if (3 : Int32) ≤ i3 then (some ((z, kd, I, L, R), 0, 0)) else (if a0 < z ∧ (kd a0).1 = 7 then ((R a0 2).bind (fun b_133 => (adk 1 (clN 2).2.2 (stI (z + 1) (fun z_137 => (stI (va_up kd z (2, 0)) (fun kd_137 => (stI (va_up I z (fun _ => 0)) (fun I_137 => (stI (va_up L z (fun _ => 0)) (fun L_137 => (stI (va_up R z (fun _ => none)) (fun R_137 => (if 1 ≤ dp then (if z < z_137 ∧ (kd_137 z).1 = 2 then (g_8 n (dp - 1) 0 z_137 kd_137 I_137 L_137 R_137 z).bind (fun ⟨⟨z_141, kd_141, I_141, L_141, R_141⟩, ck_141, cm_141⟩ => (adk ck_141 cm_141 (if (z < z_141 ∧ (kd_141 z).1 = 2) ∧ (b_133 < z_141 ∧ (kd_141 b_133).1 = 16) ∧ 0 ≤ i3 ∧ (Int32.toNatClampNeg i3) < (kd_141 b_133).2 then (stI (u2 R_141 b_133 (Int32.toNatClampNeg i3) (some z)) (fun R_144 => (g_5 n dp 1 z_141 kd_141 I_141 L_141 R_144 (i3 + Int32.ofInt (1)) a0 a1 a2))) else none))) else none) else none)))))))))))))) else none)) := by rw [g_5.eq_2, if_neg (show ¬ ((1 : Nat) = 0) by decide), if_pos (show (1 : Nat) = 1 from rfl)]
set_option maxHeartbeats 8000000 in
set_option maxRecDepth 100000 in
theorem w_5 (X : GX) : ∀ (n dp d : Nat), dp ≤ d → ∀ (z : Nat) (kd : (Nat → Nat × Nat)) (I : (Nat → Nat → Int32)) (L : (Nat → Nat → Int64)) (R : (Nat → Nat → Option Nat)), ∀ (i3 : Int32) (a0 : Nat) (a1 : Nat) (a2 : Nat) (z1 : Nat) (kd1 : (Nat → Nat × Nat)) (I1 : (Nat → Nat → Int32)) (L1 : (Nat → Nat → Int64)) (R1 : (Nat → Nat → Option Nat)) (k1 m1 : Nat), (g_5 n dp 0 z kd I L R i3 a0 a1 a2 = some ((z1, kd1, I1, L1, R1), k1, m1) → ∀ MC MS k m : Nat, k + k1 ≤ MC → m + m1 ≤ MS → K X d 5 MC MS (AV (fun τ => τ = (z1, kd1, I1, L1, R1))) 0 [some (.ref a0), some (.ref a1), some (.ref a2), none] [] (z, kd, I, L, R) k m) ∧
    (g_5 n dp 1 z kd I L R i3 a0 a1 a2 = some ((z1, kd1, I1, L1, R1), k1, m1) → ∀ MC MS k m : Nat, k + k1 ≤ MC → m + m1 ≤ MS → K X d 5 MC MS (AV (fun τ => τ = (z1, kd1, I1, L1, R1))) 127 [some (.ref a0), some (.ref a1), some (.ref a2), some (.int i3)] [] (z, kd, I, L, R) k m) := by
  intro n
  induction n with
  | zero => intro dp d hdp z kd I L R  i3 a0 a1 a2 z1 kd1 I1 L1 R1 k1 m1; exact ⟨(fun h => by cases h), (fun h => by cases h)⟩
  | succ n ih =>
    intro dp d hdp z kd I L R  i3 a0 a1 a2 z1 kd1 I1 L1 R1 k1 m1
    refine ⟨?_, ?_⟩
    · intro h MC MS k m hMC hMS
      rw [e_5_0] at h
      refine K_of b_5_0 h_5_0 ?_
      refine q_aload rfl ?_
      obtain ⟨d_1, h⟩ := ite_some h
      refine q_obj (Nat.le_of_ble_eq_true rfl) (Nat.le_trans d_1 hdp) ?_
      refine q_aload rfl ?_
      refine q_iconst (3) (by decide) ?_
      obtain ⟨mk_6, ms_6, h, ek_6, em_6⟩ := adk_some h
      refine q_anew (m0 := 3) (by decide) (by decide) (by decide) (by omega) (by omega) ?_
      obtain ⟨z_6, nz_6, h⟩ := stI_some h
      obtain ⟨kd_6, nkd_6, h⟩ := stI_some h
      obtain ⟨I_6, nI_6, h⟩ := stI_some h
      obtain ⟨L_6, nL_6, h⟩ := stI_some h
      obtain ⟨R_6, nR_6, h⟩ := stI_some h
      refine q_n5 nz_6 nkd_6 nI_6 nL_6 nR_6 ?_
      obtain ⟨⟨z_9, k_9⟩, h⟩ := ite_some h
      refine q_putR (c0 := 7) (j := 2) rfl rfl z_9 (fst_eq k_9) rfl ?_
      obtain ⟨R_9, nR_9, h⟩ := stI_some h
      refine q_nR nR_9 ?_
      refine q_aload rfl ?_
      obtain ⟨mk_13, ms_13, h, ek_13, em_13⟩ := adk_some h
      refine q_new (by omega) (by omega) ?_
      obtain ⟨z_13, nz_13, h⟩ := stI_some h
      obtain ⟨kd_13, nkd_13, h⟩ := stI_some h
      obtain ⟨I_13, nI_13, h⟩ := stI_some h
      obtain ⟨L_13, nL_13, h⟩ := stI_some h
      obtain ⟨R_13, nR_13, h⟩ := stI_some h
      refine q_n5 nz_13 nkd_13 nI_13 nL_13 nR_13 ?_
      refine q_dup rfl ?_
      obtain ⟨d_17, h⟩ := ite_some h
      obtain ⟨⟨zr_17, kr_17⟩, h⟩ := ite_some h
      obtain ⟨⟨⟨z_17, kd_17, I_17, L_17, R_17⟩, ck_17, cm_17⟩, e_17, h⟩ := Option.bind_eq_some_iff.mp h
      dsimp only at h
      obtain ⟨mk_17, ms_17, h, ek_17, em_17⟩ := adk_some h
      refine q_gi1V (a_6 X (d := d - 1) (by omega) e_17) (by omega) (by omega) (by omega) rfl (Nat.le_of_ble_eq_true rfl) ⟨zr_17, kr_17, by decide⟩ ?_
      obtain ⟨⟨z_20, k_20⟩, h⟩ := ite_some h
      refine q_putR (c0 := 7) (j := 3) rfl rfl z_20 (fst_eq k_20) rfl ?_
      obtain ⟨R_20, nR_20, h⟩ := stI_some h
      refine q_nR nR_20 ?_
      refine q_aload rfl ?_
      obtain ⟨mk_24, ms_24, h, ek_24, em_24⟩ := adk_some h
      refine q_new (by omega) (by omega) ?_
      obtain ⟨z_24, nz_24, h⟩ := stI_some h
      obtain ⟨kd_24, nkd_24, h⟩ := stI_some h
      obtain ⟨I_24, nI_24, h⟩ := stI_some h
      obtain ⟨L_24, nL_24, h⟩ := stI_some h
      obtain ⟨R_24, nR_24, h⟩ := stI_some h
      refine q_n5 nz_24 nkd_24 nI_24 nL_24 nR_24 ?_
      refine q_dup rfl ?_
      refine q_aload rfl ?_
      obtain ⟨⟨z_29, k_29⟩, h⟩ := ite_some h
      obtain ⟨b_29, r_29, h⟩ := Option.bind_eq_some_iff.mp h
      refine q_getRs (c0 := 7) (j := 3) rfl rfl z_29 (fst_eq k_29) rfl (by decide) r_29 ?_
      obtain ⟨d_32, h⟩ := ite_some h
      obtain ⟨⟨zr_32, kr_32⟩, h⟩ := ite_some h
      obtain ⟨⟨⟨z_32, kd_32, I_32, L_32, R_32⟩, ck_32, cm_32⟩, e_32, h⟩ := Option.bind_eq_some_iff.mp h
      dsimp only at h
      obtain ⟨mk_32, ms_32, h, ek_32, em_32⟩ := adk_some h
      refine q_gi2V (a_7 X (d := d - 1) (by omega) e_32) (by omega) (by omega) (by omega) rfl (Nat.le_of_ble_eq_true rfl) ⟨zr_32, kr_32, by decide⟩ ?_
      obtain ⟨⟨z_35, k_35⟩, h⟩ := ite_some h
      refine q_putR (c0 := 7) (j := 4) rfl rfl z_35 (fst_eq k_35) rfl ?_
      obtain ⟨R_35, nR_35, h⟩ := stI_some h
      refine q_nR nR_35 ?_
      refine q_aload rfl ?_
      refine q_iconst (729) (by decide) ?_
      obtain ⟨mk_42, ms_42, h, ek_42, em_42⟩ := adk_some h
      refine q_newa (m0 := 729) (by decide) (by decide) (by decide) (by decide) (by omega) (by omega) ?_
      obtain ⟨z_42, nz_42, h⟩ := stI_some h
      obtain ⟨kd_42, nkd_42, h⟩ := stI_some h
      obtain ⟨I_42, nI_42, h⟩ := stI_some h
      obtain ⟨L_42, nL_42, h⟩ := stI_some h
      obtain ⟨R_42, nR_42, h⟩ := stI_some h
      refine q_n5 nz_42 nkd_42 nI_42 nL_42 nR_42 ?_
      obtain ⟨⟨z_44, k_44⟩, h⟩ := ite_some h
      refine q_putR (c0 := 7) (j := 5) rfl rfl z_44 (fst_eq k_44) rfl ?_
      obtain ⟨R_44, nR_44, h⟩ := stI_some h
      refine q_nR nR_44 ?_
      refine q_aload rfl ?_
      refine q_iconst (729) (by decide) ?_
      obtain ⟨mk_51, ms_51, h, ek_51, em_51⟩ := adk_some h
      refine q_newa (m0 := 729) (by decide) (by decide) (by decide) (by decide) (by omega) (by omega) ?_
      obtain ⟨z_51, nz_51, h⟩ := stI_some h
      obtain ⟨kd_51, nkd_51, h⟩ := stI_some h
      obtain ⟨I_51, nI_51, h⟩ := stI_some h
      obtain ⟨L_51, nL_51, h⟩ := stI_some h
      obtain ⟨R_51, nR_51, h⟩ := stI_some h
      refine q_n5 nz_51 nkd_51 nI_51 nL_51 nR_51 ?_
      obtain ⟨⟨z_53, k_53⟩, h⟩ := ite_some h
      refine q_putR (c0 := 7) (j := 6) rfl rfl z_53 (fst_eq k_53) rfl ?_
      obtain ⟨R_53, nR_53, h⟩ := stI_some h
      refine q_nR nR_53 ?_
      refine q_aload rfl ?_
      refine q_iconst (729) (by decide) ?_
      obtain ⟨mk_60, ms_60, h, ek_60, em_60⟩ := adk_some h
      refine q_newa (m0 := 729) (by decide) (by decide) (by decide) (by decide) (by omega) (by omega) ?_
      obtain ⟨z_60, nz_60, h⟩ := stI_some h
      obtain ⟨kd_60, nkd_60, h⟩ := stI_some h
      obtain ⟨I_60, nI_60, h⟩ := stI_some h
      obtain ⟨L_60, nL_60, h⟩ := stI_some h
      obtain ⟨R_60, nR_60, h⟩ := stI_some h
      refine q_n5 nz_60 nkd_60 nI_60 nL_60 nR_60 ?_
      obtain ⟨⟨z_62, k_62⟩, h⟩ := ite_some h
      refine q_putR (c0 := 7) (j := 7) rfl rfl z_62 (fst_eq k_62) rfl ?_
      obtain ⟨R_62, nR_62, h⟩ := stI_some h
      refine q_nR nR_62 ?_
      refine q_aload rfl ?_
      refine q_iconst (8) (by decide) ?_
      obtain ⟨mk_68, ms_68, h, ek_68, em_68⟩ := adk_some h
      refine q_newa (m0 := 8) (by decide) (by decide) (by decide) (by decide) (by omega) (by omega) ?_
      obtain ⟨z_68, nz_68, h⟩ := stI_some h
      obtain ⟨kd_68, nkd_68, h⟩ := stI_some h
      obtain ⟨I_68, nI_68, h⟩ := stI_some h
      obtain ⟨L_68, nL_68, h⟩ := stI_some h
      obtain ⟨R_68, nR_68, h⟩ := stI_some h
      refine q_n5 nz_68 nkd_68 nI_68 nL_68 nR_68 ?_
      obtain ⟨⟨z_70, k_70⟩, h⟩ := ite_some h
      refine q_putR (c0 := 7) (j := 8) rfl rfl z_70 (fst_eq k_70) rfl ?_
      obtain ⟨R_70, nR_70, h⟩ := stI_some h
      refine q_nR nR_70 ?_
      refine q_aload rfl ?_
      refine q_iconst (8) (by decide) ?_
      obtain ⟨mk_76, ms_76, h, ek_76, em_76⟩ := adk_some h
      refine q_newa (m0 := 8) (by decide) (by decide) (by decide) (by decide) (by omega) (by omega) ?_
      obtain ⟨z_76, nz_76, h⟩ := stI_some h
      obtain ⟨kd_76, nkd_76, h⟩ := stI_some h
      obtain ⟨I_76, nI_76, h⟩ := stI_some h
      obtain ⟨L_76, nL_76, h⟩ := stI_some h
      obtain ⟨R_76, nR_76, h⟩ := stI_some h
      refine q_n5 nz_76 nkd_76 nI_76 nL_76 nR_76 ?_
      obtain ⟨⟨z_78, k_78⟩, h⟩ := ite_some h
      refine q_putR (c0 := 7) (j := 9) rfl rfl z_78 (fst_eq k_78) rfl ?_
      obtain ⟨R_78, nR_78, h⟩ := stI_some h
      refine q_nR nR_78 ?_
      refine q_aload rfl ?_
      refine q_iconst (3) (by decide) ?_
      obtain ⟨mk_83, ms_83, h, ek_83, em_83⟩ := adk_some h
      refine q_newa (m0 := 3) (by decide) (by decide) (by decide) (by decide) (by omega) (by omega) ?_
      obtain ⟨z_83, nz_83, h⟩ := stI_some h
      obtain ⟨kd_83, nkd_83, h⟩ := stI_some h
      obtain ⟨I_83, nI_83, h⟩ := stI_some h
      obtain ⟨L_83, nL_83, h⟩ := stI_some h
      obtain ⟨R_83, nR_83, h⟩ := stI_some h
      refine q_n5 nz_83 nkd_83 nI_83 nL_83 nR_83 ?_
      obtain ⟨⟨z_85, k_85⟩, h⟩ := ite_some h
      refine q_putR (c0 := 7) (j := 10) rfl rfl z_85 (fst_eq k_85) rfl ?_
      obtain ⟨R_85, nR_85, h⟩ := stI_some h
      refine q_nR nR_85 ?_
      refine q_aload rfl ?_
      refine q_iconst (3) (by decide) ?_
      obtain ⟨mk_90, ms_90, h, ek_90, em_90⟩ := adk_some h
      refine q_newa (m0 := 3) (by decide) (by decide) (by decide) (by decide) (by omega) (by omega) ?_
      obtain ⟨z_90, nz_90, h⟩ := stI_some h
      obtain ⟨kd_90, nkd_90, h⟩ := stI_some h
      obtain ⟨I_90, nI_90, h⟩ := stI_some h
      obtain ⟨L_90, nL_90, h⟩ := stI_some h
      obtain ⟨R_90, nR_90, h⟩ := stI_some h
      refine q_n5 nz_90 nkd_90 nI_90 nL_90 nR_90 ?_
      obtain ⟨⟨z_92, k_92⟩, h⟩ := ite_some h
      refine q_putR (c0 := 7) (j := 11) rfl rfl z_92 (fst_eq k_92) rfl ?_
      obtain ⟨R_92, nR_92, h⟩ := stI_some h
      refine q_nR nR_92 ?_
      refine q_aload rfl ?_
      refine q_iconst (1) (by decide) ?_
      obtain ⟨⟨z_97, k_97⟩, h⟩ := ite_some h
      refine q_putI (c0 := 7) (j := 12) rfl rfl z_97 (fst_eq k_97) rfl ?_
      obtain ⟨I_97, nI_97, h⟩ := stI_some h
      refine q_nI nI_97 ?_
      refine q_aload rfl ?_
      refine q_iconst (1) (by decide) ?_
      obtain ⟨⟨z_102, k_102⟩, h⟩ := ite_some h
      refine q_putZ (c0 := 7) (j := 13) rfl rfl z_102 (fst_eq k_102) rfl (Or.inr rfl) ?_
      obtain ⟨I_102, nI_102, h⟩ := stI_some h
      refine q_nI nI_102 ?_
      refine q_aload rfl ?_
      refine q_iconst (1) (by decide) ?_
      obtain ⟨⟨z_107, k_107⟩, h⟩ := ite_some h
      refine q_putZ (c0 := 7) (j := 14) rfl rfl z_107 (fst_eq k_107) rfl (Or.inr rfl) ?_
      obtain ⟨I_107, nI_107, h⟩ := stI_some h
      refine q_nI nI_107 ?_
      refine q_aload rfl ?_
      refine q_iconst (1) (by decide) ?_
      obtain ⟨⟨z_112, k_112⟩, h⟩ := ite_some h
      refine q_putZ (c0 := 7) (j := 15) rfl rfl z_112 (fst_eq k_112) rfl (Or.inr rfl) ?_
      obtain ⟨I_112, nI_112, h⟩ := stI_some h
      refine q_nI nI_112 ?_
      refine q_aload rfl ?_
      refine q_aload rfl ?_
      obtain ⟨⟨z_117, k_117⟩, h⟩ := ite_some h
      refine q_putR (c0 := 7) (j := 0) rfl rfl z_117 (fst_eq k_117) rfl ?_
      obtain ⟨R_117, nR_117, h⟩ := stI_some h
      refine q_nR nR_117 ?_
      refine q_aload rfl ?_
      refine q_aload rfl ?_
      obtain ⟨⟨z_122, k_122⟩, h⟩ := ite_some h
      refine q_putR (c0 := 7) (j := 1) rfl rfl z_122 (fst_eq k_122) rfl ?_
      obtain ⟨R_122, nR_122, h⟩ := stI_some h
      refine q_nR nR_122 ?_
      refine q_iconst (0) (by decide) ?_
      refine q_istore (ls1 := [some (.ref a0), some (.ref a1), some (.ref a2), some (.int (0 : Int32))]) (Nat.le_of_ble_eq_true rfl) rfl ?_
      refine q_end ?_
      exact (ih dp d hdp _ _ _ _ _ (0 : Int32) a0 a1 a2 _ _ _ _ _ _ _).2 h MC MS _ _ (by omega) (by omega)
    · intro h MC MS k m hMC hMS
      rw [e_5_1] at h
      refine K_of b_5_127 h_5_127 ?_
      refine q_iload rfl ?_
      refine q_iconst (3) (by decide) ?_
      refine q_icmp_ge (fun c_129 => ?_) (fun c_129 => ?_)
      · rw [if_pos c_129] at h
        refine K_of b_5_151 h_5_151 ?_
        cases h
        exact q_vret rfl (by omega) (by omega) rfl
      · rw [if_neg c_129] at h
        refine q_aload rfl ?_
        obtain ⟨⟨z_133, k_133⟩, h⟩ := ite_some h
        obtain ⟨b_133, r_133, h⟩ := Option.bind_eq_some_iff.mp h
        refine q_getRs (c0 := 7) (j := 2) rfl rfl z_133 (fst_eq k_133) rfl (by decide) r_133 ?_
        refine q_iload rfl ?_
        obtain ⟨mk_137, ms_137, h, ek_137, em_137⟩ := adk_some h
        refine q_new (by omega) (by omega) ?_
        obtain ⟨z_137, nz_137, h⟩ := stI_some h
        obtain ⟨kd_137, nkd_137, h⟩ := stI_some h
        obtain ⟨I_137, nI_137, h⟩ := stI_some h
        obtain ⟨L_137, nL_137, h⟩ := stI_some h
        obtain ⟨R_137, nR_137, h⟩ := stI_some h
        refine q_n5 nz_137 nkd_137 nI_137 nL_137 nR_137 ?_
        refine q_dup rfl ?_
        obtain ⟨d_141, h⟩ := ite_some h
        obtain ⟨⟨zr_141, kr_141⟩, h⟩ := ite_some h
        obtain ⟨⟨⟨z_141, kd_141, I_141, L_141, R_141⟩, ck_141, cm_141⟩, e_141, h⟩ := Option.bind_eq_some_iff.mp h
        dsimp only at h
        obtain ⟨mk_141, ms_141, h, ek_141, em_141⟩ := adk_some h
        refine q_gi1V (a_8 X (d := d - 1) (by omega) e_141) (by omega) (by omega) (by omega) rfl (Nat.le_of_ble_eq_true rfl) ⟨zr_141, kr_141, by decide⟩ ?_
        obtain ⟨⟨⟨zv_144, kv_144⟩, ⟨z_144, k_144⟩, u_144, v_144⟩, h⟩ := ite_some h
        refine q_aast z_144 zv_144 (fst_eq k_144) (Or.inl ⟨rfl, kv_144⟩) (in_of u_144 v_144) ?_
        obtain ⟨R_144, nR_144, h⟩ := stI_some h
        refine q_nR nR_144 ?_
        refine q_iinc (ls1 := [some (.ref a0), some (.ref a1), some (.ref a2), some (.int (i3 + Int32.ofInt (1)))]) rfl rfl ?_
        refine q_goto ?_
        exact (ih dp d hdp _ _ _ _ _ (i3 + Int32.ofInt (1)) a0 a1 a2 _ _ _ _ _ _ _).2 h MC MS _ _ (by omega) (by omega)
theorem a_5 (X : GX) {z : Nat} {kd : (Nat → Nat × Nat)} {I : (Nat → Nat → Int32)} {L : (Nat → Nat → Int64)} {R : (Nat → Nat → Option Nat)} {n dp d : Nat} (hd : dp ≤ d) {a0 : Nat} {a1 : Nat} {a2 : Nat} {z1 : Nat} {kd1 : (Nat → Nat × Nat)} {I1 : (Nat → Nat → Int32)} {L1 : (Nat → Nat → Int64)} {R1 : (Nat → Nat → Option Nat)} {k1 m1 : Nat} (h : g_5 n dp 0 z kd I L R 0 a0 a1 a2 = some ((z1, kd1, I1, L1, R1), k1, m1)) : Ct X d 5 k1 m1 [.ref a0, .ref a1, .ref a2] (z, kd, I, L, R) (AV (fun τ => τ = (z1, kd1, I1, L1, R1))) :=
  Ct_of mu_5 (Nat.le_of_ble_eq_true rfl) ((w_5 X n dp d hd z kd I L R 0 a0 a1 a2 _ _ _ _ _ _ _).1 h k1 m1 0 0 (by omega) (by omega))

/-! 9 CutFloor$Crew.<init>(LCutFloor$Hall;LCutFloor$Asker;LCutFloor$Planner;)V -/
set_option maxHeartbeats 4000000 in
set_option maxRecDepth 100000 in
def g_9 : Nat → Nat → Nat → Nat → (Nat → Nat × Nat) → (Nat → Nat → Int32) → (Nat → Nat → Int64) → (Nat → Nat → Option Nat) → Nat → Nat → Nat → Nat →  Option ((PS) × Nat × Nat)
  | 0, _, _, _, _, _, _, _, _, _, _, _ => none
  | n + 1, dp, lab, z, kd, I, L, R, a0, a1, a2, a3 =>
    if lab = 0 then (if 1 ≤ dp then (adk 1 16 (stI (z + 1) (fun z_7 => (stI (va_up kd z (13, 16)) (fun kd_7 => (stI (va_up I z (fun _ => 0)) (fun I_7 => (stI (va_up L z (fun _ => 0)) (fun L_7 => (stI (va_up R z (fun _ => none)) (fun R_7 => (if a0 < z_7 ∧ (kd_7 a0).1 = 1 then (stI (u2 R_7 a0 3 (some z)) (fun R_9 => (adk 1 16 (stI (z_7 + 1) (fun z_15 => (stI (va_up kd_7 z_7 (13, 16)) (fun kd_15 => (stI (va_up I_7 z_7 (fun _ => 0)) (fun I_15 => (stI (va_up L_7 z_7 (fun _ => 0)) (fun L_15 => (stI (va_up R_9 z_7 (fun _ => none)) (fun R_15 => (if a0 < z_15 ∧ (kd_15 a0).1 = 1 then (stI (u2 R_15 a0 4 (some z_7)) (fun R_17 => (adk 1 16 (stI (z_15 + 1) (fun z_23 => (stI (va_up kd_15 z_15 (13, 16)) (fun kd_23 => (stI (va_up I_15 z_15 (fun _ => 0)) (fun I_23 => (stI (va_up L_15 z_15 (fun _ => 0)) (fun L_23 => (stI (va_up R_17 z_15 (fun _ => none)) (fun R_23 => (if a0 < z_23 ∧ (kd_23 a0).1 = 1 then (stI (u2 R_23 a0 5 (some z_15)) (fun R_25 => (adk 1 10 (stI (z_23 + 1) (fun z_31 => (stI (va_up kd_23 z_23 (13, 10)) (fun kd_31 => (stI (va_up I_23 z_23 (fun _ => 0)) (fun I_31 => (stI (va_up L_23 z_23 (fun _ => 0)) (fun L_31 => (stI (va_up R_25 z_23 (fun _ => none)) (fun R_31 => (if a0 < z_31 ∧ (kd_31 a0).1 = 1 then (stI (u2 R_31 a0 6 (some z_23)) (fun R_33 => (adk 1 16 (stI (z_31 + 1) (fun z_39 => (stI (va_up kd_31 z_31 (13, 16)) (fun kd_39 => (stI (va_up I_31 z_31 (fun _ => 0)) (fun I_39 => (stI (va_up L_31 z_31 (fun _ => 0)) (fun L_39 => (stI (va_up R_33 z_31 (fun _ => none)) (fun R_39 => (if a0 < z_39 ∧ (kd_39 a0).1 = 1 then (stI (u2 R_39 a0 7 (some z_31)) (fun R_41 => (adk 1 16 (stI (z_39 + 1) (fun z_47 => (stI (va_up kd_39 z_39 (13, 16)) (fun kd_47 => (stI (va_up I_39 z_39 (fun _ => 0)) (fun I_47 => (stI (va_up L_39 z_39 (fun _ => 0)) (fun L_47 => (stI (va_up R_41 z_39 (fun _ => none)) (fun R_47 => (if a0 < z_47 ∧ (kd_47 a0).1 = 1 then (stI (u2 R_47 a0 8 (some z_39)) (fun R_49 => (adk 1 4 (stI (z_47 + 1) (fun z_54 => (stI (va_up kd_47 z_47 (13, 4)) (fun kd_54 => (stI (va_up I_47 z_47 (fun _ => 0)) (fun I_54 => (stI (va_up L_47 z_47 (fun _ => 0)) (fun L_54 => (stI (va_up R_49 z_47 (fun _ => none)) (fun R_54 => (if a0 < z_54 ∧ (kd_54 a0).1 = 1 then (stI (u2 R_54 a0 9 (some z_47)) (fun R_56 => (if a0 < z_54 ∧ (kd_54 a0).1 = 1 then (stI (u2 I_54 a0 10 (0 : Int32)) (fun I_61 => (if a0 < z_54 ∧ (kd_54 a0).1 = 1 then (stI (u2 I_61 a0 11 (0 : Int32)) (fun I_66 => (if a0 < z_54 ∧ (kd_54 a0).1 = 1 then (stI (u2 I_66 a0 12 (-1 : Int32)) (fun I_71 => (if a0 < z_54 ∧ (kd_54 a0).1 = 1 then (stI (u2 I_71 a0 13 (0 : Int32)) (fun I_76 => (if a0 < z_54 ∧ (kd_54 a0).1 = 1 then (stI (u2 I_76 a0 14 (0 : Int32)) (fun I_81 => (if a0 < z_54 ∧ (kd_54 a0).1 = 1 then (stI (u2 I_81 a0 15 (1 : Int32)) (fun I_86 => (if a0 < z_54 ∧ (kd_54 a0).1 = 1 then (stI (u2 I_86 a0 16 (1 : Int32)) (fun I_91 => (if a0 < z_54 ∧ (kd_54 a0).1 = 1 then (stI (u2 R_56 a0 0 (some a1)) (fun R_96 => (if a0 < z_54 ∧ (kd_54 a0).1 = 1 then (stI (u2 R_96 a0 1 (some a2)) (fun R_101 => (if a0 < z_54 ∧ (kd_54 a0).1 = 1 then (stI (u2 R_101 a0 2 (some a3)) (fun R_106 => (some ((z_54, kd_54, I_91, L_54, R_106), 0, 0)))) else none))) else none))) else none))) else none))) else none))) else none))) else none))) else none))) else none))) else none))) else none)))))))))))))) else none)))))))))))))) else none)))))))))))))) else none)))))))))))))) else none)))))))))))))) else none)))))))))))))) else none)))))))))))) else none)
    else none
set_option maxRecDepth 100000 in
theorem e_9_0 (n dp : Nat) (z : Nat) (kd : (Nat → Nat × Nat)) (I : (Nat → Nat → Int32)) (L : (Nat → Nat → Int64)) (R : (Nat → Nat → Option Nat)) (a0 : Nat) (a1 : Nat) (a2 : Nat) (a3 : Nat) : g_9 (n + 1) dp 0 z kd I L R a0 a1 a2 a3 = (if 1 ≤ dp then (adk 1 16 (stI (z + 1) (fun z_7 => (stI (va_up kd z (13, 16)) (fun kd_7 => (stI (va_up I z (fun _ => 0)) (fun I_7 => (stI (va_up L z (fun _ => 0)) (fun L_7 => (stI (va_up R z (fun _ => none)) (fun R_7 => (if a0 < z_7 ∧ (kd_7 a0).1 = 1 then (stI (u2 R_7 a0 3 (some z)) (fun R_9 => (adk 1 16 (stI (z_7 + 1) (fun z_15 => (stI (va_up kd_7 z_7 (13, 16)) (fun kd_15 => (stI (va_up I_7 z_7 (fun _ => 0)) (fun I_15 => (stI (va_up L_7 z_7 (fun _ => 0)) (fun L_15 => (stI (va_up R_9 z_7 (fun _ => none)) (fun R_15 => (if a0 < z_15 ∧ (kd_15 a0).1 = 1 then (stI (u2 R_15 a0 4 (some z_7)) (fun R_17 => (adk 1 16 (stI (z_15 + 1) (fun z_23 => (stI (va_up kd_15 z_15 (13, 16)) (fun kd_23 => (stI (va_up I_15 z_15 (fun _ => 0)) (fun I_23 => (stI (va_up L_15 z_15 (fun _ => 0)) (fun L_23 => (stI (va_up R_17 z_15 (fun _ => none)) (fun R_23 => (if a0 < z_23 ∧ (kd_23 a0).1 = 1 then (stI (u2 R_23 a0 5 (some z_15)) (fun R_25 => (adk 1 10 (stI (z_23 + 1) (fun z_31 => (stI (va_up kd_23 z_23 (13, 10)) (fun kd_31 => (stI (va_up I_23 z_23 (fun _ => 0)) (fun I_31 => (stI (va_up L_23 z_23 (fun _ => 0)) (fun L_31 => (stI (va_up R_25 z_23 (fun _ => none)) (fun R_31 => (if a0 < z_31 ∧ (kd_31 a0).1 = 1 then (stI (u2 R_31 a0 6 (some z_23)) (fun R_33 => (adk 1 16 (stI (z_31 + 1) (fun z_39 => (stI (va_up kd_31 z_31 (13, 16)) (fun kd_39 => (stI (va_up I_31 z_31 (fun _ => 0)) (fun I_39 => (stI (va_up L_31 z_31 (fun _ => 0)) (fun L_39 => (stI (va_up R_33 z_31 (fun _ => none)) (fun R_39 => (if a0 < z_39 ∧ (kd_39 a0).1 = 1 then (stI (u2 R_39 a0 7 (some z_31)) (fun R_41 => (adk 1 16 (stI (z_39 + 1) (fun z_47 => (stI (va_up kd_39 z_39 (13, 16)) (fun kd_47 => (stI (va_up I_39 z_39 (fun _ => 0)) (fun I_47 => (stI (va_up L_39 z_39 (fun _ => 0)) (fun L_47 => (stI (va_up R_41 z_39 (fun _ => none)) (fun R_47 => (if a0 < z_47 ∧ (kd_47 a0).1 = 1 then (stI (u2 R_47 a0 8 (some z_39)) (fun R_49 => (adk 1 4 (stI (z_47 + 1) (fun z_54 => (stI (va_up kd_47 z_47 (13, 4)) (fun kd_54 => (stI (va_up I_47 z_47 (fun _ => 0)) (fun I_54 => (stI (va_up L_47 z_47 (fun _ => 0)) (fun L_54 => (stI (va_up R_49 z_47 (fun _ => none)) (fun R_54 => (if a0 < z_54 ∧ (kd_54 a0).1 = 1 then (stI (u2 R_54 a0 9 (some z_47)) (fun R_56 => (if a0 < z_54 ∧ (kd_54 a0).1 = 1 then (stI (u2 I_54 a0 10 (0 : Int32)) (fun I_61 => (if a0 < z_54 ∧ (kd_54 a0).1 = 1 then (stI (u2 I_61 a0 11 (0 : Int32)) (fun I_66 => (if a0 < z_54 ∧ (kd_54 a0).1 = 1 then (stI (u2 I_66 a0 12 (-1 : Int32)) (fun I_71 => (if a0 < z_54 ∧ (kd_54 a0).1 = 1 then (stI (u2 I_71 a0 13 (0 : Int32)) (fun I_76 => (if a0 < z_54 ∧ (kd_54 a0).1 = 1 then (stI (u2 I_76 a0 14 (0 : Int32)) (fun I_81 => (if a0 < z_54 ∧ (kd_54 a0).1 = 1 then (stI (u2 I_81 a0 15 (1 : Int32)) (fun I_86 => (if a0 < z_54 ∧ (kd_54 a0).1 = 1 then (stI (u2 I_86 a0 16 (1 : Int32)) (fun I_91 => (if a0 < z_54 ∧ (kd_54 a0).1 = 1 then (stI (u2 R_56 a0 0 (some a1)) (fun R_96 => (if a0 < z_54 ∧ (kd_54 a0).1 = 1 then (stI (u2 R_96 a0 1 (some a2)) (fun R_101 => (if a0 < z_54 ∧ (kd_54 a0).1 = 1 then (stI (u2 R_101 a0 2 (some a3)) (fun R_106 => (some ((z_54, kd_54, I_91, L_54, R_106), 0, 0)))) else none))) else none))) else none))) else none))) else none))) else none))) else none))) else none))) else none))) else none))) else none)))))))))))))) else none)))))))))))))) else none)))))))))))))) else none)))))))))))))) else none)))))))))))))) else none)))))))))))))) else none)))))))))))) else none) := by rw [g_9.eq_2, if_pos (show (0 : Nat) = 0 from rfl)]
set_option maxHeartbeats 8000000 in
set_option maxRecDepth 100000 in
theorem w_9 (X : GX) : ∀ (n dp d : Nat), dp ≤ d → ∀ (z : Nat) (kd : (Nat → Nat × Nat)) (I : (Nat → Nat → Int32)) (L : (Nat → Nat → Int64)) (R : (Nat → Nat → Option Nat)), ∀ (a0 : Nat) (a1 : Nat) (a2 : Nat) (a3 : Nat) (z1 : Nat) (kd1 : (Nat → Nat × Nat)) (I1 : (Nat → Nat → Int32)) (L1 : (Nat → Nat → Int64)) (R1 : (Nat → Nat → Option Nat)) (k1 m1 : Nat), (g_9 n dp 0 z kd I L R a0 a1 a2 a3 = some ((z1, kd1, I1, L1, R1), k1, m1) → ∀ MC MS k m : Nat, k + k1 ≤ MC → m + m1 ≤ MS → K X d 9 MC MS (AV (fun τ => τ = (z1, kd1, I1, L1, R1))) 0 [some (.ref a0), some (.ref a1), some (.ref a2), some (.ref a3)] [] (z, kd, I, L, R) k m) := by
  intro n
  induction n with
  | zero => intro dp d hdp z kd I L R  a0 a1 a2 a3 z1 kd1 I1 L1 R1 k1 m1; exact fun h => by cases h
  | succ n ih =>
    intro dp d hdp z kd I L R  a0 a1 a2 a3 z1 kd1 I1 L1 R1 k1 m1
    · intro h MC MS k m hMC hMS
      rw [e_9_0] at h
      refine K_of b_9_0 h_9_0 ?_
      refine q_aload rfl ?_
      obtain ⟨d_1, h⟩ := ite_some h
      refine q_obj (Nat.le_of_ble_eq_true rfl) (Nat.le_trans d_1 hdp) ?_
      refine q_aload rfl ?_
      refine q_iconst (16) (by decide) ?_
      obtain ⟨mk_7, ms_7, h, ek_7, em_7⟩ := adk_some h
      refine q_newa (m0 := 16) (by decide) (by decide) (by decide) (by decide) (by omega) (by omega) ?_
      obtain ⟨z_7, nz_7, h⟩ := stI_some h
      obtain ⟨kd_7, nkd_7, h⟩ := stI_some h
      obtain ⟨I_7, nI_7, h⟩ := stI_some h
      obtain ⟨L_7, nL_7, h⟩ := stI_some h
      obtain ⟨R_7, nR_7, h⟩ := stI_some h
      refine q_n5 nz_7 nkd_7 nI_7 nL_7 nR_7 ?_
      obtain ⟨⟨z_9, k_9⟩, h⟩ := ite_some h
      refine q_putR (c0 := 1) (j := 3) rfl rfl z_9 (fst_eq k_9) rfl ?_
      obtain ⟨R_9, nR_9, h⟩ := stI_some h
      refine q_nR nR_9 ?_
      refine q_aload rfl ?_
      refine q_iconst (16) (by decide) ?_
      obtain ⟨mk_15, ms_15, h, ek_15, em_15⟩ := adk_some h
      refine q_newa (m0 := 16) (by decide) (by decide) (by decide) (by decide) (by omega) (by omega) ?_
      obtain ⟨z_15, nz_15, h⟩ := stI_some h
      obtain ⟨kd_15, nkd_15, h⟩ := stI_some h
      obtain ⟨I_15, nI_15, h⟩ := stI_some h
      obtain ⟨L_15, nL_15, h⟩ := stI_some h
      obtain ⟨R_15, nR_15, h⟩ := stI_some h
      refine q_n5 nz_15 nkd_15 nI_15 nL_15 nR_15 ?_
      obtain ⟨⟨z_17, k_17⟩, h⟩ := ite_some h
      refine q_putR (c0 := 1) (j := 4) rfl rfl z_17 (fst_eq k_17) rfl ?_
      obtain ⟨R_17, nR_17, h⟩ := stI_some h
      refine q_nR nR_17 ?_
      refine q_aload rfl ?_
      refine q_iconst (16) (by decide) ?_
      obtain ⟨mk_23, ms_23, h, ek_23, em_23⟩ := adk_some h
      refine q_newa (m0 := 16) (by decide) (by decide) (by decide) (by decide) (by omega) (by omega) ?_
      obtain ⟨z_23, nz_23, h⟩ := stI_some h
      obtain ⟨kd_23, nkd_23, h⟩ := stI_some h
      obtain ⟨I_23, nI_23, h⟩ := stI_some h
      obtain ⟨L_23, nL_23, h⟩ := stI_some h
      obtain ⟨R_23, nR_23, h⟩ := stI_some h
      refine q_n5 nz_23 nkd_23 nI_23 nL_23 nR_23 ?_
      obtain ⟨⟨z_25, k_25⟩, h⟩ := ite_some h
      refine q_putR (c0 := 1) (j := 5) rfl rfl z_25 (fst_eq k_25) rfl ?_
      obtain ⟨R_25, nR_25, h⟩ := stI_some h
      refine q_nR nR_25 ?_
      refine q_aload rfl ?_
      refine q_iconst (10) (by decide) ?_
      obtain ⟨mk_31, ms_31, h, ek_31, em_31⟩ := adk_some h
      refine q_newa (m0 := 10) (by decide) (by decide) (by decide) (by decide) (by omega) (by omega) ?_
      obtain ⟨z_31, nz_31, h⟩ := stI_some h
      obtain ⟨kd_31, nkd_31, h⟩ := stI_some h
      obtain ⟨I_31, nI_31, h⟩ := stI_some h
      obtain ⟨L_31, nL_31, h⟩ := stI_some h
      obtain ⟨R_31, nR_31, h⟩ := stI_some h
      refine q_n5 nz_31 nkd_31 nI_31 nL_31 nR_31 ?_
      obtain ⟨⟨z_33, k_33⟩, h⟩ := ite_some h
      refine q_putR (c0 := 1) (j := 6) rfl rfl z_33 (fst_eq k_33) rfl ?_
      obtain ⟨R_33, nR_33, h⟩ := stI_some h
      refine q_nR nR_33 ?_
      refine q_aload rfl ?_
      refine q_iconst (16) (by decide) ?_
      obtain ⟨mk_39, ms_39, h, ek_39, em_39⟩ := adk_some h
      refine q_newa (m0 := 16) (by decide) (by decide) (by decide) (by decide) (by omega) (by omega) ?_
      obtain ⟨z_39, nz_39, h⟩ := stI_some h
      obtain ⟨kd_39, nkd_39, h⟩ := stI_some h
      obtain ⟨I_39, nI_39, h⟩ := stI_some h
      obtain ⟨L_39, nL_39, h⟩ := stI_some h
      obtain ⟨R_39, nR_39, h⟩ := stI_some h
      refine q_n5 nz_39 nkd_39 nI_39 nL_39 nR_39 ?_
      obtain ⟨⟨z_41, k_41⟩, h⟩ := ite_some h
      refine q_putR (c0 := 1) (j := 7) rfl rfl z_41 (fst_eq k_41) rfl ?_
      obtain ⟨R_41, nR_41, h⟩ := stI_some h
      refine q_nR nR_41 ?_
      refine q_aload rfl ?_
      refine q_iconst (16) (by decide) ?_
      obtain ⟨mk_47, ms_47, h, ek_47, em_47⟩ := adk_some h
      refine q_newa (m0 := 16) (by decide) (by decide) (by decide) (by decide) (by omega) (by omega) ?_
      obtain ⟨z_47, nz_47, h⟩ := stI_some h
      obtain ⟨kd_47, nkd_47, h⟩ := stI_some h
      obtain ⟨I_47, nI_47, h⟩ := stI_some h
      obtain ⟨L_47, nL_47, h⟩ := stI_some h
      obtain ⟨R_47, nR_47, h⟩ := stI_some h
      refine q_n5 nz_47 nkd_47 nI_47 nL_47 nR_47 ?_
      obtain ⟨⟨z_49, k_49⟩, h⟩ := ite_some h
      refine q_putR (c0 := 1) (j := 8) rfl rfl z_49 (fst_eq k_49) rfl ?_
      obtain ⟨R_49, nR_49, h⟩ := stI_some h
      refine q_nR nR_49 ?_
      refine q_aload rfl ?_
      refine q_iconst (4) (by decide) ?_
      obtain ⟨mk_54, ms_54, h, ek_54, em_54⟩ := adk_some h
      refine q_newa (m0 := 4) (by decide) (by decide) (by decide) (by decide) (by omega) (by omega) ?_
      obtain ⟨z_54, nz_54, h⟩ := stI_some h
      obtain ⟨kd_54, nkd_54, h⟩ := stI_some h
      obtain ⟨I_54, nI_54, h⟩ := stI_some h
      obtain ⟨L_54, nL_54, h⟩ := stI_some h
      obtain ⟨R_54, nR_54, h⟩ := stI_some h
      refine q_n5 nz_54 nkd_54 nI_54 nL_54 nR_54 ?_
      obtain ⟨⟨z_56, k_56⟩, h⟩ := ite_some h
      refine q_putR (c0 := 1) (j := 9) rfl rfl z_56 (fst_eq k_56) rfl ?_
      obtain ⟨R_56, nR_56, h⟩ := stI_some h
      refine q_nR nR_56 ?_
      refine q_aload rfl ?_
      refine q_iconst (0) (by decide) ?_
      obtain ⟨⟨z_61, k_61⟩, h⟩ := ite_some h
      refine q_putI (c0 := 1) (j := 10) rfl rfl z_61 (fst_eq k_61) rfl ?_
      obtain ⟨I_61, nI_61, h⟩ := stI_some h
      refine q_nI nI_61 ?_
      refine q_aload rfl ?_
      refine q_iconst (0) (by decide) ?_
      obtain ⟨⟨z_66, k_66⟩, h⟩ := ite_some h
      refine q_putI (c0 := 1) (j := 11) rfl rfl z_66 (fst_eq k_66) rfl ?_
      obtain ⟨I_66, nI_66, h⟩ := stI_some h
      refine q_nI nI_66 ?_
      refine q_aload rfl ?_
      refine q_iconst (-1) (by decide) ?_
      obtain ⟨⟨z_71, k_71⟩, h⟩ := ite_some h
      refine q_putI (c0 := 1) (j := 12) rfl rfl z_71 (fst_eq k_71) rfl ?_
      obtain ⟨I_71, nI_71, h⟩ := stI_some h
      refine q_nI nI_71 ?_
      refine q_aload rfl ?_
      refine q_iconst (0) (by decide) ?_
      obtain ⟨⟨z_76, k_76⟩, h⟩ := ite_some h
      refine q_putI (c0 := 1) (j := 13) rfl rfl z_76 (fst_eq k_76) rfl ?_
      obtain ⟨I_76, nI_76, h⟩ := stI_some h
      refine q_nI nI_76 ?_
      refine q_aload rfl ?_
      refine q_iconst (0) (by decide) ?_
      obtain ⟨⟨z_81, k_81⟩, h⟩ := ite_some h
      refine q_putI (c0 := 1) (j := 14) rfl rfl z_81 (fst_eq k_81) rfl ?_
      obtain ⟨I_81, nI_81, h⟩ := stI_some h
      refine q_nI nI_81 ?_
      refine q_aload rfl ?_
      refine q_iconst (1) (by decide) ?_
      obtain ⟨⟨z_86, k_86⟩, h⟩ := ite_some h
      refine q_putZ (c0 := 1) (j := 15) rfl rfl z_86 (fst_eq k_86) rfl (Or.inr rfl) ?_
      obtain ⟨I_86, nI_86, h⟩ := stI_some h
      refine q_nI nI_86 ?_
      refine q_aload rfl ?_
      refine q_iconst (1) (by decide) ?_
      obtain ⟨⟨z_91, k_91⟩, h⟩ := ite_some h
      refine q_putZ (c0 := 1) (j := 16) rfl rfl z_91 (fst_eq k_91) rfl (Or.inr rfl) ?_
      obtain ⟨I_91, nI_91, h⟩ := stI_some h
      refine q_nI nI_91 ?_
      refine q_aload rfl ?_
      refine q_aload rfl ?_
      obtain ⟨⟨z_96, k_96⟩, h⟩ := ite_some h
      refine q_putR (c0 := 1) (j := 0) rfl rfl z_96 (fst_eq k_96) rfl ?_
      obtain ⟨R_96, nR_96, h⟩ := stI_some h
      refine q_nR nR_96 ?_
      refine q_aload rfl ?_
      refine q_aload rfl ?_
      obtain ⟨⟨z_101, k_101⟩, h⟩ := ite_some h
      refine q_putR (c0 := 1) (j := 1) rfl rfl z_101 (fst_eq k_101) rfl ?_
      obtain ⟨R_101, nR_101, h⟩ := stI_some h
      refine q_nR nR_101 ?_
      refine q_aload rfl ?_
      refine q_aload rfl ?_
      obtain ⟨⟨z_106, k_106⟩, h⟩ := ite_some h
      refine q_putR (c0 := 1) (j := 2) rfl rfl z_106 (fst_eq k_106) rfl ?_
      obtain ⟨R_106, nR_106, h⟩ := stI_some h
      refine q_nR nR_106 ?_
      cases h
      exact q_vret rfl (by omega) (by omega) rfl
theorem a_9 (X : GX) {z : Nat} {kd : (Nat → Nat × Nat)} {I : (Nat → Nat → Int32)} {L : (Nat → Nat → Int64)} {R : (Nat → Nat → Option Nat)} {n dp d : Nat} (hd : dp ≤ d) {a0 : Nat} {a1 : Nat} {a2 : Nat} {a3 : Nat} {z1 : Nat} {kd1 : (Nat → Nat × Nat)} {I1 : (Nat → Nat → Int32)} {L1 : (Nat → Nat → Int64)} {R1 : (Nat → Nat → Option Nat)} {k1 m1 : Nat} (h : g_9 n dp 0 z kd I L R a0 a1 a2 a3 = some ((z1, kd1, I1, L1, R1), k1, m1)) : Ct X d 9 k1 m1 [.ref a0, .ref a1, .ref a2, .ref a3] (z, kd, I, L, R) (AV (fun τ => τ = (z1, kd1, I1, L1, R1))) :=
  Ct_of mu_9 (Nat.le_of_ble_eq_true rfl) ((w_9 X n dp d hd z kd I L R a0 a1 a2 a3 _ _ _ _ _ _ _) h k1 m1 0 0 (by omega) (by omega))

/-! 10 CutFloor$Mixer.<init>(LCutFloor$Hall;)V -/
set_option maxHeartbeats 4000000 in
set_option maxRecDepth 100000 in
def g_10 : Nat → Nat → Nat → Nat → (Nat → Nat × Nat) → (Nat → Nat → Int32) → (Nat → Nat → Int64) → (Nat → Nat → Option Nat) → Nat → Nat →  Option ((PS) × Nat × Nat)
  | 0, _, _, _, _, _, _, _, _, _ => none
  | n + 1, dp, lab, z, kd, I, L, R, a0, a1 =>
    if lab = 0 then (if 1 ≤ dp then (adk 1 16 (stI (z + 1) (fun z_7 => (stI (va_up kd z (13, 16)) (fun kd_7 => (stI (va_up I z (fun _ => 0)) (fun I_7 => (stI (va_up L z (fun _ => 0)) (fun L_7 => (stI (va_up R z (fun _ => none)) (fun R_7 => (if a0 < z_7 ∧ (kd_7 a0).1 = 5 then (stI (u2 R_7 a0 1 (some z)) (fun R_9 => (adk 1 256 (stI (z_7 + 1) (fun z_16 => (stI (va_up kd_7 z_7 (13, 256)) (fun kd_16 => (stI (va_up I_7 z_7 (fun _ => 0)) (fun I_16 => (stI (va_up L_7 z_7 (fun _ => 0)) (fun L_16 => (stI (va_up R_9 z_7 (fun _ => none)) (fun R_16 => (if a0 < z_16 ∧ (kd_16 a0).1 = 5 then (stI (u2 R_16 a0 2 (some z_7)) (fun R_18 => (adk 1 256 (stI (z_16 + 1) (fun z_25 => (stI (va_up kd_16 z_16 (13, 256)) (fun kd_25 => (stI (va_up I_16 z_16 (fun _ => 0)) (fun I_25 => (stI (va_up L_16 z_16 (fun _ => 0)) (fun L_25 => (stI (va_up R_18 z_16 (fun _ => none)) (fun R_25 => (if a0 < z_25 ∧ (kd_25 a0).1 = 5 then (stI (u2 R_25 a0 3 (some z_16)) (fun R_27 => (adk 1 256 (stI (z_25 + 1) (fun z_34 => (stI (va_up kd_25 z_25 (13, 256)) (fun kd_34 => (stI (va_up I_25 z_25 (fun _ => 0)) (fun I_34 => (stI (va_up L_25 z_25 (fun _ => 0)) (fun L_34 => (stI (va_up R_27 z_25 (fun _ => none)) (fun R_34 => (if a0 < z_34 ∧ (kd_34 a0).1 = 5 then (stI (u2 R_34 a0 4 (some z_25)) (fun R_36 => (adk 1 256 (stI (z_34 + 1) (fun z_43 => (stI (va_up kd_34 z_34 (13, 256)) (fun kd_43 => (stI (va_up I_34 z_34 (fun _ => 0)) (fun I_43 => (stI (va_up L_34 z_34 (fun _ => 0)) (fun L_43 => (stI (va_up R_36 z_34 (fun _ => none)) (fun R_43 => (if a0 < z_43 ∧ (kd_43 a0).1 = 5 then (stI (u2 R_43 a0 5 (some z_34)) (fun R_45 => (if a0 < z_43 ∧ (kd_43 a0).1 = 5 then (stI (u2 I_43 a0 6 (0 : Int32)) (fun I_50 => (if a0 < z_43 ∧ (kd_43 a0).1 = 5 then (stI (u2 I_50 a0 7 (0 : Int32)) (fun I_55 => (if a0 < z_43 ∧ (kd_43 a0).1 = 5 then (stI (u2 I_55 a0 8 (-1 : Int32)) (fun I_60 => (if a0 < z_43 ∧ (kd_43 a0).1 = 5 then (stI (u2 I_60 a0 9 (-1 : Int32)) (fun I_65 => (if a0 < z_43 ∧ (kd_43 a0).1 = 5 then (stI (u2 I_65 a0 10 (-1 : Int32)) (fun I_70 => (if a0 < z_43 ∧ (kd_43 a0).1 = 5 then (stI (u2 I_70 a0 11 (1 : Int32)) (fun I_75 => (if a0 < z_43 ∧ (kd_43 a0).1 = 5 then (stI (u2 I_75 a0 12 (0 : Int32)) (fun I_80 => (if a0 < z_43 ∧ (kd_43 a0).1 = 5 then (stI (u2 I_80 a0 13 (0 : Int32)) (fun I_85 => (if a0 < z_43 ∧ (kd_43 a0).1 = 5 then (stI (u2 I_85 a0 14 (0 : Int32)) (fun I_90 => (if a0 < z_43 ∧ (kd_43 a0).1 = 5 then (stI (u2 R_45 a0 0 (some a1)) (fun R_95 => (some ((z_43, kd_43, I_90, L_43, R_95), 0, 0)))) else none))) else none))) else none))) else none))) else none))) else none))) else none))) else none))) else none))) else none))) else none)))))))))))))) else none)))))))))))))) else none)))))))))))))) else none)))))))))))))) else none)))))))))))) else none)
    else none
set_option maxRecDepth 100000 in
theorem e_10_0 (n dp : Nat) (z : Nat) (kd : (Nat → Nat × Nat)) (I : (Nat → Nat → Int32)) (L : (Nat → Nat → Int64)) (R : (Nat → Nat → Option Nat)) (a0 : Nat) (a1 : Nat) : g_10 (n + 1) dp 0 z kd I L R a0 a1 = (if 1 ≤ dp then (adk 1 16 (stI (z + 1) (fun z_7 => (stI (va_up kd z (13, 16)) (fun kd_7 => (stI (va_up I z (fun _ => 0)) (fun I_7 => (stI (va_up L z (fun _ => 0)) (fun L_7 => (stI (va_up R z (fun _ => none)) (fun R_7 => (if a0 < z_7 ∧ (kd_7 a0).1 = 5 then (stI (u2 R_7 a0 1 (some z)) (fun R_9 => (adk 1 256 (stI (z_7 + 1) (fun z_16 => (stI (va_up kd_7 z_7 (13, 256)) (fun kd_16 => (stI (va_up I_7 z_7 (fun _ => 0)) (fun I_16 => (stI (va_up L_7 z_7 (fun _ => 0)) (fun L_16 => (stI (va_up R_9 z_7 (fun _ => none)) (fun R_16 => (if a0 < z_16 ∧ (kd_16 a0).1 = 5 then (stI (u2 R_16 a0 2 (some z_7)) (fun R_18 => (adk 1 256 (stI (z_16 + 1) (fun z_25 => (stI (va_up kd_16 z_16 (13, 256)) (fun kd_25 => (stI (va_up I_16 z_16 (fun _ => 0)) (fun I_25 => (stI (va_up L_16 z_16 (fun _ => 0)) (fun L_25 => (stI (va_up R_18 z_16 (fun _ => none)) (fun R_25 => (if a0 < z_25 ∧ (kd_25 a0).1 = 5 then (stI (u2 R_25 a0 3 (some z_16)) (fun R_27 => (adk 1 256 (stI (z_25 + 1) (fun z_34 => (stI (va_up kd_25 z_25 (13, 256)) (fun kd_34 => (stI (va_up I_25 z_25 (fun _ => 0)) (fun I_34 => (stI (va_up L_25 z_25 (fun _ => 0)) (fun L_34 => (stI (va_up R_27 z_25 (fun _ => none)) (fun R_34 => (if a0 < z_34 ∧ (kd_34 a0).1 = 5 then (stI (u2 R_34 a0 4 (some z_25)) (fun R_36 => (adk 1 256 (stI (z_34 + 1) (fun z_43 => (stI (va_up kd_34 z_34 (13, 256)) (fun kd_43 => (stI (va_up I_34 z_34 (fun _ => 0)) (fun I_43 => (stI (va_up L_34 z_34 (fun _ => 0)) (fun L_43 => (stI (va_up R_36 z_34 (fun _ => none)) (fun R_43 => (if a0 < z_43 ∧ (kd_43 a0).1 = 5 then (stI (u2 R_43 a0 5 (some z_34)) (fun R_45 => (if a0 < z_43 ∧ (kd_43 a0).1 = 5 then (stI (u2 I_43 a0 6 (0 : Int32)) (fun I_50 => (if a0 < z_43 ∧ (kd_43 a0).1 = 5 then (stI (u2 I_50 a0 7 (0 : Int32)) (fun I_55 => (if a0 < z_43 ∧ (kd_43 a0).1 = 5 then (stI (u2 I_55 a0 8 (-1 : Int32)) (fun I_60 => (if a0 < z_43 ∧ (kd_43 a0).1 = 5 then (stI (u2 I_60 a0 9 (-1 : Int32)) (fun I_65 => (if a0 < z_43 ∧ (kd_43 a0).1 = 5 then (stI (u2 I_65 a0 10 (-1 : Int32)) (fun I_70 => (if a0 < z_43 ∧ (kd_43 a0).1 = 5 then (stI (u2 I_70 a0 11 (1 : Int32)) (fun I_75 => (if a0 < z_43 ∧ (kd_43 a0).1 = 5 then (stI (u2 I_75 a0 12 (0 : Int32)) (fun I_80 => (if a0 < z_43 ∧ (kd_43 a0).1 = 5 then (stI (u2 I_80 a0 13 (0 : Int32)) (fun I_85 => (if a0 < z_43 ∧ (kd_43 a0).1 = 5 then (stI (u2 I_85 a0 14 (0 : Int32)) (fun I_90 => (if a0 < z_43 ∧ (kd_43 a0).1 = 5 then (stI (u2 R_45 a0 0 (some a1)) (fun R_95 => (some ((z_43, kd_43, I_90, L_43, R_95), 0, 0)))) else none))) else none))) else none))) else none))) else none))) else none))) else none))) else none))) else none))) else none))) else none)))))))))))))) else none)))))))))))))) else none)))))))))))))) else none)))))))))))))) else none)))))))))))) else none) := by rw [g_10.eq_2, if_pos (show (0 : Nat) = 0 from rfl)]
set_option maxHeartbeats 8000000 in
set_option maxRecDepth 100000 in
theorem w_10 (X : GX) : ∀ (n dp d : Nat), dp ≤ d → ∀ (z : Nat) (kd : (Nat → Nat × Nat)) (I : (Nat → Nat → Int32)) (L : (Nat → Nat → Int64)) (R : (Nat → Nat → Option Nat)), ∀ (a0 : Nat) (a1 : Nat) (z1 : Nat) (kd1 : (Nat → Nat × Nat)) (I1 : (Nat → Nat → Int32)) (L1 : (Nat → Nat → Int64)) (R1 : (Nat → Nat → Option Nat)) (k1 m1 : Nat), (g_10 n dp 0 z kd I L R a0 a1 = some ((z1, kd1, I1, L1, R1), k1, m1) → ∀ MC MS k m : Nat, k + k1 ≤ MC → m + m1 ≤ MS → K X d 10 MC MS (AV (fun τ => τ = (z1, kd1, I1, L1, R1))) 0 [some (.ref a0), some (.ref a1)] [] (z, kd, I, L, R) k m) := by
  intro n
  induction n with
  | zero => intro dp d hdp z kd I L R  a0 a1 z1 kd1 I1 L1 R1 k1 m1; exact fun h => by cases h
  | succ n ih =>
    intro dp d hdp z kd I L R  a0 a1 z1 kd1 I1 L1 R1 k1 m1
    · intro h MC MS k m hMC hMS
      rw [e_10_0] at h
      refine K_of b_10_0 h_10_0 ?_
      refine q_aload rfl ?_
      obtain ⟨d_1, h⟩ := ite_some h
      refine q_obj (Nat.le_of_ble_eq_true rfl) (Nat.le_trans d_1 hdp) ?_
      refine q_aload rfl ?_
      refine q_iconst (16) (by decide) ?_
      obtain ⟨mk_7, ms_7, h, ek_7, em_7⟩ := adk_some h
      refine q_newa (m0 := 16) (by decide) (by decide) (by decide) (by decide) (by omega) (by omega) ?_
      obtain ⟨z_7, nz_7, h⟩ := stI_some h
      obtain ⟨kd_7, nkd_7, h⟩ := stI_some h
      obtain ⟨I_7, nI_7, h⟩ := stI_some h
      obtain ⟨L_7, nL_7, h⟩ := stI_some h
      obtain ⟨R_7, nR_7, h⟩ := stI_some h
      refine q_n5 nz_7 nkd_7 nI_7 nL_7 nR_7 ?_
      obtain ⟨⟨z_9, k_9⟩, h⟩ := ite_some h
      refine q_putR (c0 := 5) (j := 1) rfl rfl z_9 (fst_eq k_9) rfl ?_
      obtain ⟨R_9, nR_9, h⟩ := stI_some h
      refine q_nR nR_9 ?_
      refine q_aload rfl ?_
      refine q_iconst (256) (by decide) ?_
      obtain ⟨mk_16, ms_16, h, ek_16, em_16⟩ := adk_some h
      refine q_newa (m0 := 256) (by decide) (by decide) (by decide) (by decide) (by omega) (by omega) ?_
      obtain ⟨z_16, nz_16, h⟩ := stI_some h
      obtain ⟨kd_16, nkd_16, h⟩ := stI_some h
      obtain ⟨I_16, nI_16, h⟩ := stI_some h
      obtain ⟨L_16, nL_16, h⟩ := stI_some h
      obtain ⟨R_16, nR_16, h⟩ := stI_some h
      refine q_n5 nz_16 nkd_16 nI_16 nL_16 nR_16 ?_
      obtain ⟨⟨z_18, k_18⟩, h⟩ := ite_some h
      refine q_putR (c0 := 5) (j := 2) rfl rfl z_18 (fst_eq k_18) rfl ?_
      obtain ⟨R_18, nR_18, h⟩ := stI_some h
      refine q_nR nR_18 ?_
      refine q_aload rfl ?_
      refine q_iconst (256) (by decide) ?_
      obtain ⟨mk_25, ms_25, h, ek_25, em_25⟩ := adk_some h
      refine q_newa (m0 := 256) (by decide) (by decide) (by decide) (by decide) (by omega) (by omega) ?_
      obtain ⟨z_25, nz_25, h⟩ := stI_some h
      obtain ⟨kd_25, nkd_25, h⟩ := stI_some h
      obtain ⟨I_25, nI_25, h⟩ := stI_some h
      obtain ⟨L_25, nL_25, h⟩ := stI_some h
      obtain ⟨R_25, nR_25, h⟩ := stI_some h
      refine q_n5 nz_25 nkd_25 nI_25 nL_25 nR_25 ?_
      obtain ⟨⟨z_27, k_27⟩, h⟩ := ite_some h
      refine q_putR (c0 := 5) (j := 3) rfl rfl z_27 (fst_eq k_27) rfl ?_
      obtain ⟨R_27, nR_27, h⟩ := stI_some h
      refine q_nR nR_27 ?_
      refine q_aload rfl ?_
      refine q_iconst (256) (by decide) ?_
      obtain ⟨mk_34, ms_34, h, ek_34, em_34⟩ := adk_some h
      refine q_newa (m0 := 256) (by decide) (by decide) (by decide) (by decide) (by omega) (by omega) ?_
      obtain ⟨z_34, nz_34, h⟩ := stI_some h
      obtain ⟨kd_34, nkd_34, h⟩ := stI_some h
      obtain ⟨I_34, nI_34, h⟩ := stI_some h
      obtain ⟨L_34, nL_34, h⟩ := stI_some h
      obtain ⟨R_34, nR_34, h⟩ := stI_some h
      refine q_n5 nz_34 nkd_34 nI_34 nL_34 nR_34 ?_
      obtain ⟨⟨z_36, k_36⟩, h⟩ := ite_some h
      refine q_putR (c0 := 5) (j := 4) rfl rfl z_36 (fst_eq k_36) rfl ?_
      obtain ⟨R_36, nR_36, h⟩ := stI_some h
      refine q_nR nR_36 ?_
      refine q_aload rfl ?_
      refine q_iconst (256) (by decide) ?_
      obtain ⟨mk_43, ms_43, h, ek_43, em_43⟩ := adk_some h
      refine q_newa (m0 := 256) (by decide) (by decide) (by decide) (by decide) (by omega) (by omega) ?_
      obtain ⟨z_43, nz_43, h⟩ := stI_some h
      obtain ⟨kd_43, nkd_43, h⟩ := stI_some h
      obtain ⟨I_43, nI_43, h⟩ := stI_some h
      obtain ⟨L_43, nL_43, h⟩ := stI_some h
      obtain ⟨R_43, nR_43, h⟩ := stI_some h
      refine q_n5 nz_43 nkd_43 nI_43 nL_43 nR_43 ?_
      obtain ⟨⟨z_45, k_45⟩, h⟩ := ite_some h
      refine q_putR (c0 := 5) (j := 5) rfl rfl z_45 (fst_eq k_45) rfl ?_
      obtain ⟨R_45, nR_45, h⟩ := stI_some h
      refine q_nR nR_45 ?_
      refine q_aload rfl ?_
      refine q_iconst (0) (by decide) ?_
      obtain ⟨⟨z_50, k_50⟩, h⟩ := ite_some h
      refine q_putI (c0 := 5) (j := 6) rfl rfl z_50 (fst_eq k_50) rfl ?_
      obtain ⟨I_50, nI_50, h⟩ := stI_some h
      refine q_nI nI_50 ?_
      refine q_aload rfl ?_
      refine q_iconst (0) (by decide) ?_
      obtain ⟨⟨z_55, k_55⟩, h⟩ := ite_some h
      refine q_putI (c0 := 5) (j := 7) rfl rfl z_55 (fst_eq k_55) rfl ?_
      obtain ⟨I_55, nI_55, h⟩ := stI_some h
      refine q_nI nI_55 ?_
      refine q_aload rfl ?_
      refine q_iconst (-1) (by decide) ?_
      obtain ⟨⟨z_60, k_60⟩, h⟩ := ite_some h
      refine q_putI (c0 := 5) (j := 8) rfl rfl z_60 (fst_eq k_60) rfl ?_
      obtain ⟨I_60, nI_60, h⟩ := stI_some h
      refine q_nI nI_60 ?_
      refine q_aload rfl ?_
      refine q_iconst (-1) (by decide) ?_
      obtain ⟨⟨z_65, k_65⟩, h⟩ := ite_some h
      refine q_putI (c0 := 5) (j := 9) rfl rfl z_65 (fst_eq k_65) rfl ?_
      obtain ⟨I_65, nI_65, h⟩ := stI_some h
      refine q_nI nI_65 ?_
      refine q_aload rfl ?_
      refine q_iconst (-1) (by decide) ?_
      obtain ⟨⟨z_70, k_70⟩, h⟩ := ite_some h
      refine q_putI (c0 := 5) (j := 10) rfl rfl z_70 (fst_eq k_70) rfl ?_
      obtain ⟨I_70, nI_70, h⟩ := stI_some h
      refine q_nI nI_70 ?_
      refine q_aload rfl ?_
      refine q_iconst (1) (by decide) ?_
      obtain ⟨⟨z_75, k_75⟩, h⟩ := ite_some h
      refine q_putZ (c0 := 5) (j := 11) rfl rfl z_75 (fst_eq k_75) rfl (Or.inr rfl) ?_
      obtain ⟨I_75, nI_75, h⟩ := stI_some h
      refine q_nI nI_75 ?_
      refine q_aload rfl ?_
      refine q_iconst (0) (by decide) ?_
      obtain ⟨⟨z_80, k_80⟩, h⟩ := ite_some h
      refine q_putI (c0 := 5) (j := 12) rfl rfl z_80 (fst_eq k_80) rfl ?_
      obtain ⟨I_80, nI_80, h⟩ := stI_some h
      refine q_nI nI_80 ?_
      refine q_aload rfl ?_
      refine q_iconst (0) (by decide) ?_
      obtain ⟨⟨z_85, k_85⟩, h⟩ := ite_some h
      refine q_putI (c0 := 5) (j := 13) rfl rfl z_85 (fst_eq k_85) rfl ?_
      obtain ⟨I_85, nI_85, h⟩ := stI_some h
      refine q_nI nI_85 ?_
      refine q_aload rfl ?_
      refine q_iconst (0) (by decide) ?_
      obtain ⟨⟨z_90, k_90⟩, h⟩ := ite_some h
      refine q_putI (c0 := 5) (j := 14) rfl rfl z_90 (fst_eq k_90) rfl ?_
      obtain ⟨I_90, nI_90, h⟩ := stI_some h
      refine q_nI nI_90 ?_
      refine q_aload rfl ?_
      refine q_aload rfl ?_
      obtain ⟨⟨z_95, k_95⟩, h⟩ := ite_some h
      refine q_putR (c0 := 5) (j := 0) rfl rfl z_95 (fst_eq k_95) rfl ?_
      obtain ⟨R_95, nR_95, h⟩ := stI_some h
      refine q_nR nR_95 ?_
      cases h
      exact q_vret rfl (by omega) (by omega) rfl
theorem a_10 (X : GX) {z : Nat} {kd : (Nat → Nat × Nat)} {I : (Nat → Nat → Int32)} {L : (Nat → Nat → Int64)} {R : (Nat → Nat → Option Nat)} {n dp d : Nat} (hd : dp ≤ d) {a0 : Nat} {a1 : Nat} {z1 : Nat} {kd1 : (Nat → Nat × Nat)} {I1 : (Nat → Nat → Int32)} {L1 : (Nat → Nat → Int64)} {R1 : (Nat → Nat → Option Nat)} {k1 m1 : Nat} (h : g_10 n dp 0 z kd I L R a0 a1 = some ((z1, kd1, I1, L1, R1), k1, m1)) : Ct X d 10 k1 m1 [.ref a0, .ref a1] (z, kd, I, L, R) (AV (fun τ => τ = (z1, kd1, I1, L1, R1))) :=
  Ct_of mu_10 (Nat.le_of_ble_eq_true rfl) ((w_10 X n dp d hd z kd I L R a0 a1 _ _ _ _ _ _ _) h k1 m1 0 0 (by omega) (by omega))

/-! 11 CutFloor$Stock.<init>(LCutFloor$Hall;)V -/
set_option maxHeartbeats 4000000 in
set_option maxRecDepth 100000 in
def g_11 : Nat → Nat → Nat → Nat → (Nat → Nat × Nat) → (Nat → Nat → Int32) → (Nat → Nat → Int64) → (Nat → Nat → Option Nat) → Nat → Nat →  Option ((PS) × Nat × Nat)
  | 0, _, _, _, _, _, _, _, _, _ => none
  | n + 1, dp, lab, z, kd, I, L, R, a0, a1 =>
    if lab = 0 then (if 1 ≤ dp then (adk 1 16 (stI (z + 1) (fun z_7 => (stI (va_up kd z (13, 16)) (fun kd_7 => (stI (va_up I z (fun _ => 0)) (fun I_7 => (stI (va_up L z (fun _ => 0)) (fun L_7 => (stI (va_up R z (fun _ => none)) (fun R_7 => (if a0 < z_7 ∧ (kd_7 a0).1 = 9 then (stI (u2 R_7 a0 1 (some z)) (fun R_9 => (if a0 < z_7 ∧ (kd_7 a0).1 = 9 then (stI (u2 R_9 a0 0 (some a1)) (fun R_14 => (some ((z_7, kd_7, I_7, L_7, R_14), 0, 0)))) else none))) else none)))))))))))) else none)
    else none
set_option maxRecDepth 100000 in
theorem e_11_0 (n dp : Nat) (z : Nat) (kd : (Nat → Nat × Nat)) (I : (Nat → Nat → Int32)) (L : (Nat → Nat → Int64)) (R : (Nat → Nat → Option Nat)) (a0 : Nat) (a1 : Nat) : g_11 (n + 1) dp 0 z kd I L R a0 a1 = (if 1 ≤ dp then (adk 1 16 (stI (z + 1) (fun z_7 => (stI (va_up kd z (13, 16)) (fun kd_7 => (stI (va_up I z (fun _ => 0)) (fun I_7 => (stI (va_up L z (fun _ => 0)) (fun L_7 => (stI (va_up R z (fun _ => none)) (fun R_7 => (if a0 < z_7 ∧ (kd_7 a0).1 = 9 then (stI (u2 R_7 a0 1 (some z)) (fun R_9 => (if a0 < z_7 ∧ (kd_7 a0).1 = 9 then (stI (u2 R_9 a0 0 (some a1)) (fun R_14 => (some ((z_7, kd_7, I_7, L_7, R_14), 0, 0)))) else none))) else none)))))))))))) else none) := by rw [g_11.eq_2, if_pos (show (0 : Nat) = 0 from rfl)]
set_option maxHeartbeats 8000000 in
set_option maxRecDepth 100000 in
theorem w_11 (X : GX) : ∀ (n dp d : Nat), dp ≤ d → ∀ (z : Nat) (kd : (Nat → Nat × Nat)) (I : (Nat → Nat → Int32)) (L : (Nat → Nat → Int64)) (R : (Nat → Nat → Option Nat)), ∀ (a0 : Nat) (a1 : Nat) (z1 : Nat) (kd1 : (Nat → Nat × Nat)) (I1 : (Nat → Nat → Int32)) (L1 : (Nat → Nat → Int64)) (R1 : (Nat → Nat → Option Nat)) (k1 m1 : Nat), (g_11 n dp 0 z kd I L R a0 a1 = some ((z1, kd1, I1, L1, R1), k1, m1) → ∀ MC MS k m : Nat, k + k1 ≤ MC → m + m1 ≤ MS → K X d 11 MC MS (AV (fun τ => τ = (z1, kd1, I1, L1, R1))) 0 [some (.ref a0), some (.ref a1)] [] (z, kd, I, L, R) k m) := by
  intro n
  induction n with
  | zero => intro dp d hdp z kd I L R  a0 a1 z1 kd1 I1 L1 R1 k1 m1; exact fun h => by cases h
  | succ n ih =>
    intro dp d hdp z kd I L R  a0 a1 z1 kd1 I1 L1 R1 k1 m1
    · intro h MC MS k m hMC hMS
      rw [e_11_0] at h
      refine K_of b_11_0 h_11_0 ?_
      refine q_aload rfl ?_
      obtain ⟨d_1, h⟩ := ite_some h
      refine q_obj (Nat.le_of_ble_eq_true rfl) (Nat.le_trans d_1 hdp) ?_
      refine q_aload rfl ?_
      refine q_iconst (16) (by decide) ?_
      obtain ⟨mk_7, ms_7, h, ek_7, em_7⟩ := adk_some h
      refine q_newa (m0 := 16) (by decide) (by decide) (by decide) (by decide) (by omega) (by omega) ?_
      obtain ⟨z_7, nz_7, h⟩ := stI_some h
      obtain ⟨kd_7, nkd_7, h⟩ := stI_some h
      obtain ⟨I_7, nI_7, h⟩ := stI_some h
      obtain ⟨L_7, nL_7, h⟩ := stI_some h
      obtain ⟨R_7, nR_7, h⟩ := stI_some h
      refine q_n5 nz_7 nkd_7 nI_7 nL_7 nR_7 ?_
      obtain ⟨⟨z_9, k_9⟩, h⟩ := ite_some h
      refine q_putR (c0 := 9) (j := 1) rfl rfl z_9 (fst_eq k_9) rfl ?_
      obtain ⟨R_9, nR_9, h⟩ := stI_some h
      refine q_nR nR_9 ?_
      refine q_aload rfl ?_
      refine q_aload rfl ?_
      obtain ⟨⟨z_14, k_14⟩, h⟩ := ite_some h
      refine q_putR (c0 := 9) (j := 0) rfl rfl z_14 (fst_eq k_14) rfl ?_
      obtain ⟨R_14, nR_14, h⟩ := stI_some h
      refine q_nR nR_14 ?_
      cases h
      exact q_vret rfl (by omega) (by omega) rfl
theorem a_11 (X : GX) {z : Nat} {kd : (Nat → Nat × Nat)} {I : (Nat → Nat → Int32)} {L : (Nat → Nat → Int64)} {R : (Nat → Nat → Option Nat)} {n dp d : Nat} (hd : dp ≤ d) {a0 : Nat} {a1 : Nat} {z1 : Nat} {kd1 : (Nat → Nat × Nat)} {I1 : (Nat → Nat → Int32)} {L1 : (Nat → Nat → Int64)} {R1 : (Nat → Nat → Option Nat)} {k1 m1 : Nat} (h : g_11 n dp 0 z kd I L R a0 a1 = some ((z1, kd1, I1, L1, R1), k1, m1)) : Ct X d 11 k1 m1 [.ref a0, .ref a1] (z, kd, I, L, R) (AV (fun τ => τ = (z1, kd1, I1, L1, R1))) :=
  Ct_of mu_11 (Nat.le_of_ble_eq_true rfl) ((w_11 X n dp d hd z kd I L R a0 a1 _ _ _ _ _ _ _) h k1 m1 0 0 (by omega) (by omega))

/-! 12 CutFloor$Reader.<init>(LCutFloor$Tree;[I)V -/
set_option maxHeartbeats 4000000 in
set_option maxRecDepth 100000 in
def g_12 : Nat → Nat → Nat → Nat → (Nat → Nat × Nat) → (Nat → Nat → Int32) → (Nat → Nat → Int64) → (Nat → Nat → Option Nat) → Nat → Nat → Nat →  Option ((PS) × Nat × Nat)
  | 0, _, _, _, _, _, _, _, _, _, _ => none
  | n + 1, dp, lab, z, kd, I, L, R, a0, a1, a2 =>
    if lab = 0 then (if 1 ≤ dp then (if a0 < z ∧ (kd a0).1 = 8 then (stI (u2 I a0 2 (0 : Int32)) (fun I_6 => (if a0 < z ∧ (kd a0).1 = 8 then (stI (u2 I_6 a0 3 (0 : Int32)) (fun I_11 => (if a0 < z ∧ (kd a0).1 = 8 then (stI (u2 I_11 a0 4 (0 : Int32)) (fun I_16 => (if a0 < z ∧ (kd a0).1 = 8 then (stI (u2 I_16 a0 5 (0 : Int32)) (fun I_21 => (if a0 < z ∧ (kd a0).1 = 8 then (stI (u2 I_21 a0 6 (0 : Int32)) (fun I_26 => (if a0 < z ∧ (kd a0).1 = 8 then (stI (u2 I_26 a0 7 (0 : Int32)) (fun I_31 => (if a0 < z ∧ (kd a0).1 = 8 then (stI (u2 R a0 1 (some a1)) (fun R_36 => (if a0 < z ∧ (kd a0).1 = 8 then (stI (u2 R_36 a0 0 (some a2)) (fun R_41 => (some ((z, kd, I_31, L, R_41), 0, 0)))) else none))) else none))) else none))) else none))) else none))) else none))) else none))) else none) else none)
    else none
set_option maxRecDepth 100000 in
theorem e_12_0 (n dp : Nat) (z : Nat) (kd : (Nat → Nat × Nat)) (I : (Nat → Nat → Int32)) (L : (Nat → Nat → Int64)) (R : (Nat → Nat → Option Nat)) (a0 : Nat) (a1 : Nat) (a2 : Nat) : g_12 (n + 1) dp 0 z kd I L R a0 a1 a2 = (if 1 ≤ dp then (if a0 < z ∧ (kd a0).1 = 8 then (stI (u2 I a0 2 (0 : Int32)) (fun I_6 => (if a0 < z ∧ (kd a0).1 = 8 then (stI (u2 I_6 a0 3 (0 : Int32)) (fun I_11 => (if a0 < z ∧ (kd a0).1 = 8 then (stI (u2 I_11 a0 4 (0 : Int32)) (fun I_16 => (if a0 < z ∧ (kd a0).1 = 8 then (stI (u2 I_16 a0 5 (0 : Int32)) (fun I_21 => (if a0 < z ∧ (kd a0).1 = 8 then (stI (u2 I_21 a0 6 (0 : Int32)) (fun I_26 => (if a0 < z ∧ (kd a0).1 = 8 then (stI (u2 I_26 a0 7 (0 : Int32)) (fun I_31 => (if a0 < z ∧ (kd a0).1 = 8 then (stI (u2 R a0 1 (some a1)) (fun R_36 => (if a0 < z ∧ (kd a0).1 = 8 then (stI (u2 R_36 a0 0 (some a2)) (fun R_41 => (some ((z, kd, I_31, L, R_41), 0, 0)))) else none))) else none))) else none))) else none))) else none))) else none))) else none))) else none) else none) := by rw [g_12.eq_2, if_pos (show (0 : Nat) = 0 from rfl)]
set_option maxHeartbeats 8000000 in
set_option maxRecDepth 100000 in
theorem w_12 (X : GX) : ∀ (n dp d : Nat), dp ≤ d → ∀ (z : Nat) (kd : (Nat → Nat × Nat)) (I : (Nat → Nat → Int32)) (L : (Nat → Nat → Int64)) (R : (Nat → Nat → Option Nat)), ∀ (a0 : Nat) (a1 : Nat) (a2 : Nat) (z1 : Nat) (kd1 : (Nat → Nat × Nat)) (I1 : (Nat → Nat → Int32)) (L1 : (Nat → Nat → Int64)) (R1 : (Nat → Nat → Option Nat)) (k1 m1 : Nat), (g_12 n dp 0 z kd I L R a0 a1 a2 = some ((z1, kd1, I1, L1, R1), k1, m1) → ∀ MC MS k m : Nat, k + k1 ≤ MC → m + m1 ≤ MS → K X d 12 MC MS (AV (fun τ => τ = (z1, kd1, I1, L1, R1))) 0 [some (.ref a0), some (.ref a1), some (.ref a2)] [] (z, kd, I, L, R) k m) := by
  intro n
  induction n with
  | zero => intro dp d hdp z kd I L R  a0 a1 a2 z1 kd1 I1 L1 R1 k1 m1; exact fun h => by cases h
  | succ n ih =>
    intro dp d hdp z kd I L R  a0 a1 a2 z1 kd1 I1 L1 R1 k1 m1
    · intro h MC MS k m hMC hMS
      rw [e_12_0] at h
      refine K_of b_12_0 h_12_0 ?_
      refine q_aload rfl ?_
      obtain ⟨d_1, h⟩ := ite_some h
      refine q_obj (Nat.le_of_ble_eq_true rfl) (Nat.le_trans d_1 hdp) ?_
      refine q_aload rfl ?_
      refine q_iconst (0) (by decide) ?_
      obtain ⟨⟨z_6, k_6⟩, h⟩ := ite_some h
      refine q_putI (c0 := 8) (j := 2) rfl rfl z_6 (fst_eq k_6) rfl ?_
      obtain ⟨I_6, nI_6, h⟩ := stI_some h
      refine q_nI nI_6 ?_
      refine q_aload rfl ?_
      refine q_iconst (0) (by decide) ?_
      obtain ⟨⟨z_11, k_11⟩, h⟩ := ite_some h
      refine q_putI (c0 := 8) (j := 3) rfl rfl z_11 (fst_eq k_11) rfl ?_
      obtain ⟨I_11, nI_11, h⟩ := stI_some h
      refine q_nI nI_11 ?_
      refine q_aload rfl ?_
      refine q_iconst (0) (by decide) ?_
      obtain ⟨⟨z_16, k_16⟩, h⟩ := ite_some h
      refine q_putI (c0 := 8) (j := 4) rfl rfl z_16 (fst_eq k_16) rfl ?_
      obtain ⟨I_16, nI_16, h⟩ := stI_some h
      refine q_nI nI_16 ?_
      refine q_aload rfl ?_
      refine q_iconst (0) (by decide) ?_
      obtain ⟨⟨z_21, k_21⟩, h⟩ := ite_some h
      refine q_putI (c0 := 8) (j := 5) rfl rfl z_21 (fst_eq k_21) rfl ?_
      obtain ⟨I_21, nI_21, h⟩ := stI_some h
      refine q_nI nI_21 ?_
      refine q_aload rfl ?_
      refine q_iconst (0) (by decide) ?_
      obtain ⟨⟨z_26, k_26⟩, h⟩ := ite_some h
      refine q_putI (c0 := 8) (j := 6) rfl rfl z_26 (fst_eq k_26) rfl ?_
      obtain ⟨I_26, nI_26, h⟩ := stI_some h
      refine q_nI nI_26 ?_
      refine q_aload rfl ?_
      refine q_iconst (0) (by decide) ?_
      obtain ⟨⟨z_31, k_31⟩, h⟩ := ite_some h
      refine q_putI (c0 := 8) (j := 7) rfl rfl z_31 (fst_eq k_31) rfl ?_
      obtain ⟨I_31, nI_31, h⟩ := stI_some h
      refine q_nI nI_31 ?_
      refine q_aload rfl ?_
      refine q_aload rfl ?_
      obtain ⟨⟨z_36, k_36⟩, h⟩ := ite_some h
      refine q_putR (c0 := 8) (j := 1) rfl rfl z_36 (fst_eq k_36) rfl ?_
      obtain ⟨R_36, nR_36, h⟩ := stI_some h
      refine q_nR nR_36 ?_
      refine q_aload rfl ?_
      refine q_aload rfl ?_
      obtain ⟨⟨z_41, k_41⟩, h⟩ := ite_some h
      refine q_putR (c0 := 8) (j := 0) rfl rfl z_41 (fst_eq k_41) rfl ?_
      obtain ⟨R_41, nR_41, h⟩ := stI_some h
      refine q_nR nR_41 ?_
      cases h
      exact q_vret rfl (by omega) (by omega) rfl
theorem a_12 (X : GX) {z : Nat} {kd : (Nat → Nat × Nat)} {I : (Nat → Nat → Int32)} {L : (Nat → Nat → Int64)} {R : (Nat → Nat → Option Nat)} {n dp d : Nat} (hd : dp ≤ d) {a0 : Nat} {a1 : Nat} {a2 : Nat} {z1 : Nat} {kd1 : (Nat → Nat × Nat)} {I1 : (Nat → Nat → Int32)} {L1 : (Nat → Nat → Int64)} {R1 : (Nat → Nat → Option Nat)} {k1 m1 : Nat} (h : g_12 n dp 0 z kd I L R a0 a1 a2 = some ((z1, kd1, I1, L1, R1), k1, m1)) : Ct X d 12 k1 m1 [.ref a0, .ref a1, .ref a2] (z, kd, I, L, R) (AV (fun τ => τ = (z1, kd1, I1, L1, R1))) :=
  Ct_of mu_12 (Nat.le_of_ble_eq_true rfl) ((w_12 X n dp d hd z kd I L R a0 a1 a2 _ _ _ _ _ _ _) h k1 m1 0 0 (by omega) (by omega))

/-! 0 CutFloor.<init>()V -/
set_option maxHeartbeats 4000000 in
set_option maxRecDepth 100000 in
def g_0 : Nat → Nat → Nat → Nat → (Nat → Nat × Nat) → (Nat → Nat → Int32) → (Nat → Nat → Int64) → (Nat → Nat → Option Nat) → Nat →  Option ((PS) × Nat × Nat)
  | 0, _, _, _, _, _, _, _, _ => none
  | n + 1, dp, lab, z, kd, I, L, R, a0 =>
    if lab = 0 then (if 1 ≤ dp then (adk 1 (clN 3).2.2 (stI (z + 1) (fun z_5 => (stI (va_up kd z (3, 0)) (fun kd_5 => (stI (va_up I z (fun _ => 0)) (fun I_5 => (stI (va_up L z (fun _ => 0)) (fun L_5 => (stI (va_up R z (fun _ => none)) (fun R_5 => (if 1 ≤ dp then (if z < z_5 ∧ (kd_5 z).1 = 3 then (g_2 n (dp - 1) 0 z_5 kd_5 I_5 L_5 R_5 z).bind (fun ⟨⟨z_9, kd_9, I_9, L_9, R_9⟩, ck_9, cm_9⟩ => (adk ck_9 cm_9 (if a0 < z_9 ∧ (kd_9 a0).1 = 11 then (stI (u2 R_9 a0 0 (some z)) (fun R_12 => (adk 1 2 (stI (z_9 + 1) (fun z_17 => (stI (va_up kd_9 z_9 (17, 2)) (fun kd_17 => (stI (va_up I_9 z_9 (fun _ => 0)) (fun I_17 => (stI (va_up L_9 z_9 (fun _ => 0)) (fun L_17 => (stI (va_up R_12 z_9 (fun _ => none)) (fun R_17 => (if a0 < z_17 ∧ (kd_17 a0).1 = 11 then (stI (u2 R_17 a0 1 (some z_9)) (fun R_20 => (adk 1 (clN 0).2.2 (stI (z_17 + 1) (fun z_24 => (stI (va_up kd_17 z_17 (0, 0)) (fun kd_24 => (stI (va_up I_17 z_17 (fun _ => 0)) (fun I_24 => (stI (va_up L_17 z_17 (fun _ => 0)) (fun L_24 => (stI (va_up R_20 z_17 (fun _ => none)) (fun R_24 => (if a0 < z_24 ∧ (kd_24 a0).1 = 11 then ((R_24 a0 0).bind (fun b_29 => (if 1 ≤ dp then (if z_17 < z_24 ∧ (kd_24 z_17).1 = 0 then (g_4 n (dp - 1) 0 z_24 kd_24 I_24 L_24 R_24 z_17 b_29).bind (fun ⟨⟨z_32, kd_32, I_32, L_32, R_32⟩, ck_32, cm_32⟩ => (adk ck_32 cm_32 (if a0 < z_32 ∧ (kd_32 a0).1 = 11 then (stI (u2 R_32 a0 2 (some z_17)) (fun R_35 => (adk 1 (clN 7).2.2 (stI (z_32 + 1) (fun z_39 => (stI (va_up kd_32 z_32 (7, 0)) (fun kd_39 => (stI (va_up I_32 z_32 (fun _ => 0)) (fun I_39 => (stI (va_up L_32 z_32 (fun _ => 0)) (fun L_39 => (stI (va_up R_35 z_32 (fun _ => none)) (fun R_39 => (if a0 < z_39 ∧ (kd_39 a0).1 = 11 then ((R_39 a0 0).bind (fun b_44 => (if a0 < z_39 ∧ (kd_39 a0).1 = 11 then ((R_39 a0 2).bind (fun b_48 => (if 1 ≤ dp then (if z_32 < z_39 ∧ (kd_39 z_32).1 = 7 then (g_5 n (dp - 1) 0 z_39 kd_39 I_39 L_39 R_39 0 z_32 b_44 b_48).bind (fun ⟨⟨z_51, kd_51, I_51, L_51, R_51⟩, ck_51, cm_51⟩ => (adk ck_51 cm_51 (if a0 < z_51 ∧ (kd_51 a0).1 = 11 then (stI (u2 R_51 a0 3 (some z_32)) (fun R_54 => (adk 1 (clN 1).2.2 (stI (z_51 + 1) (fun z_58 => (stI (va_up kd_51 z_51 (1, 0)) (fun kd_58 => (stI (va_up I_51 z_51 (fun _ => 0)) (fun I_58 => (stI (va_up L_51 z_51 (fun _ => 0)) (fun L_58 => (stI (va_up R_54 z_51 (fun _ => none)) (fun R_58 => (if a0 < z_58 ∧ (kd_58 a0).1 = 11 then ((R_58 a0 0).bind (fun b_63 => (if a0 < z_58 ∧ (kd_58 a0).1 = 11 then ((R_58 a0 2).bind (fun b_67 => (if a0 < z_58 ∧ (kd_58 a0).1 = 11 then ((R_58 a0 3).bind (fun b_71 => (if 1 ≤ dp then (if z_51 < z_58 ∧ (kd_58 z_51).1 = 1 then (g_9 n (dp - 1) 0 z_58 kd_58 I_58 L_58 R_58 z_51 b_63 b_67 b_71).bind (fun ⟨⟨z_74, kd_74, I_74, L_74, R_74⟩, ck_74, cm_74⟩ => (adk ck_74 cm_74 (if a0 < z_74 ∧ (kd_74 a0).1 = 11 then (stI (u2 R_74 a0 4 (some z_51)) (fun R_77 => (adk 1 (clN 5).2.2 (stI (z_74 + 1) (fun z_81 => (stI (va_up kd_74 z_74 (5, 0)) (fun kd_81 => (stI (va_up I_74 z_74 (fun _ => 0)) (fun I_81 => (stI (va_up L_74 z_74 (fun _ => 0)) (fun L_81 => (stI (va_up R_77 z_74 (fun _ => none)) (fun R_81 => (if a0 < z_81 ∧ (kd_81 a0).1 = 11 then ((R_81 a0 0).bind (fun b_86 => (if 1 ≤ dp then (if z_74 < z_81 ∧ (kd_81 z_74).1 = 5 then (g_10 n (dp - 1) 0 z_81 kd_81 I_81 L_81 R_81 z_74 b_86).bind (fun ⟨⟨z_89, kd_89, I_89, L_89, R_89⟩, ck_89, cm_89⟩ => (adk ck_89 cm_89 (if a0 < z_89 ∧ (kd_89 a0).1 = 11 then (stI (u2 R_89 a0 5 (some z_74)) (fun R_92 => (adk 1 (clN 9).2.2 (stI (z_89 + 1) (fun z_96 => (stI (va_up kd_89 z_89 (9, 0)) (fun kd_96 => (stI (va_up I_89 z_89 (fun _ => 0)) (fun I_96 => (stI (va_up L_89 z_89 (fun _ => 0)) (fun L_96 => (stI (va_up R_92 z_89 (fun _ => none)) (fun R_96 => (if a0 < z_96 ∧ (kd_96 a0).1 = 11 then ((R_96 a0 0).bind (fun b_101 => (if 1 ≤ dp then (if z_89 < z_96 ∧ (kd_96 z_89).1 = 9 then (g_11 n (dp - 1) 0 z_96 kd_96 I_96 L_96 R_96 z_89 b_101).bind (fun ⟨⟨z_104, kd_104, I_104, L_104, R_104⟩, ck_104, cm_104⟩ => (adk ck_104 cm_104 (if a0 < z_104 ∧ (kd_104 a0).1 = 11 then (stI (u2 R_104 a0 6 (some z_89)) (fun R_107 => (adk 1 400 (stI (z_104 + 1) (fun z_114 => (stI (va_up kd_104 z_104 (13, 400)) (fun kd_114 => (stI (va_up I_104 z_104 (fun _ => 0)) (fun I_114 => (stI (va_up L_104 z_104 (fun _ => 0)) (fun L_114 => (stI (va_up R_107 z_104 (fun _ => none)) (fun R_114 => (if a0 < z_114 ∧ (kd_114 a0).1 = 11 then (stI (u2 R_114 a0 7 (some z_104)) (fun R_116 => (adk 1 15 (stI (z_114 + 1) (fun z_122 => (stI (va_up kd_114 z_114 (13, 15)) (fun kd_122 => (stI (va_up I_114 z_114 (fun _ => 0)) (fun I_122 => (stI (va_up L_114 z_114 (fun _ => 0)) (fun L_122 => (stI (va_up R_116 z_114 (fun _ => none)) (fun R_122 => (if a0 < z_122 ∧ (kd_122 a0).1 = 11 then (stI (u2 R_122 a0 8 (some z_114)) (fun R_124 => (adk 1 15 (stI (z_122 + 1) (fun z_130 => (stI (va_up kd_122 z_122 (13, 15)) (fun kd_130 => (stI (va_up I_122 z_122 (fun _ => 0)) (fun I_130 => (stI (va_up L_122 z_122 (fun _ => 0)) (fun L_130 => (stI (va_up R_124 z_122 (fun _ => none)) (fun R_130 => (if a0 < z_130 ∧ (kd_130 a0).1 = 11 then (stI (u2 R_130 a0 9 (some z_122)) (fun R_132 => (adk 1 5 (stI (z_130 + 1) (fun z_137 => (stI (va_up kd_130 z_130 (13, 5)) (fun kd_137 => (stI (va_up I_130 z_130 (fun _ => 0)) (fun I_137 => (stI (va_up L_130 z_130 (fun _ => 0)) (fun L_137 => (stI (va_up R_132 z_130 (fun _ => none)) (fun R_137 => (if a0 < z_137 ∧ (kd_137 a0).1 = 11 then (stI (u2 R_137 a0 10 (some z_130)) (fun R_139 => (adk 1 (clN 10).2.2 (stI (z_137 + 1) (fun z_143 => (stI (va_up kd_137 z_137 (10, 0)) (fun kd_143 => (stI (va_up I_137 z_137 (fun _ => 0)) (fun I_143 => (stI (va_up L_137 z_137 (fun _ => 0)) (fun L_143 => (stI (va_up R_139 z_137 (fun _ => none)) (fun R_143 => (if 1 ≤ dp then (if z_137 < z_143 ∧ (kd_143 z_137).1 = 10 then (g_3 n (dp - 1) 0 z_143 kd_143 I_143 L_143 R_143 z_137).bind (fun ⟨⟨z_147, kd_147, I_147, L_147, R_147⟩, ck_147, cm_147⟩ => (adk ck_147 cm_147 (if a0 < z_147 ∧ (kd_147 a0).1 = 11 then (stI (u2 R_147 a0 11 (some z_137)) (fun R_150 => (adk 1 (clN 8).2.2 (stI (z_147 + 1) (fun z_154 => (stI (va_up kd_147 z_147 (8, 0)) (fun kd_154 => (stI (va_up I_147 z_147 (fun _ => 0)) (fun I_154 => (stI (va_up L_147 z_147 (fun _ => 0)) (fun L_154 => (stI (va_up R_150 z_147 (fun _ => none)) (fun R_154 => (if a0 < z_154 ∧ (kd_154 a0).1 = 11 then ((R_154 a0 11).bind (fun b_159 => (if a0 < z_154 ∧ (kd_154 a0).1 = 11 then ((R_154 a0 7).bind (fun b_163 => (if 1 ≤ dp then (if z_147 < z_154 ∧ (kd_154 z_147).1 = 8 then (g_12 n (dp - 1) 0 z_154 kd_154 I_154 L_154 R_154 z_147 b_159 b_163).bind (fun ⟨⟨z_166, kd_166, I_166, L_166, R_166⟩, ck_166, cm_166⟩ => (adk ck_166 cm_166 (if a0 < z_166 ∧ (kd_166 a0).1 = 11 then (stI (u2 R_166 a0 12 (some z_147)) (fun R_169 => (if a0 < z_166 ∧ (kd_166 a0).1 = 11 then (stI (u2 I_166 a0 13 (0 : Int32)) (fun I_174 => (if a0 < z_166 ∧ (kd_166 a0).1 = 11 then (stI (u2 I_174 a0 14 (0 : Int32)) (fun I_179 => (if a0 < z_166 ∧ (kd_166 a0).1 = 11 then (stI (u2 I_179 a0 15 (-1 : Int32)) (fun I_184 => (if a0 < z_166 ∧ (kd_166 a0).1 = 11 then (stI (u2 I_184 a0 16 (0 : Int32)) (fun I_189 => (if a0 < z_166 ∧ (kd_166 a0).1 = 11 then (stI (u2 I_189 a0 17 (0 : Int32)) (fun I_194 => (if a0 < z_166 ∧ (kd_166 a0).1 = 11 then (stI (u2 I_194 a0 18 (0 : Int32)) (fun I_199 => (some ((z_166, kd_166, I_199, L_166, R_169), 0, 0)))) else none))) else none))) else none))) else none))) else none))) else none))) else none))) else none) else none))) else none))) else none)))))))))))))) else none))) else none) else none)))))))))))))) else none)))))))))))))) else none)))))))))))))) else none)))))))))))))) else none)))))))))))))) else none))) else none) else none))) else none)))))))))))))) else none))) else none) else none))) else none)))))))))))))) else none))) else none) else none))) else none))) else none))) else none)))))))))))))) else none))) else none) else none))) else none))) else none)))))))))))))) else none))) else none) else none))) else none)))))))))))))) else none)))))))))))))) else none))) else none) else none)))))))))))) else none)
    else none
set_option maxRecDepth 100000 in
theorem e_0_0 (n dp : Nat) (z : Nat) (kd : (Nat → Nat × Nat)) (I : (Nat → Nat → Int32)) (L : (Nat → Nat → Int64)) (R : (Nat → Nat → Option Nat)) (a0 : Nat) : g_0 (n + 1) dp 0 z kd I L R a0 = (if 1 ≤ dp then (adk 1 (clN 3).2.2 (stI (z + 1) (fun z_5 => (stI (va_up kd z (3, 0)) (fun kd_5 => (stI (va_up I z (fun _ => 0)) (fun I_5 => (stI (va_up L z (fun _ => 0)) (fun L_5 => (stI (va_up R z (fun _ => none)) (fun R_5 => (if 1 ≤ dp then (if z < z_5 ∧ (kd_5 z).1 = 3 then (g_2 n (dp - 1) 0 z_5 kd_5 I_5 L_5 R_5 z).bind (fun ⟨⟨z_9, kd_9, I_9, L_9, R_9⟩, ck_9, cm_9⟩ => (adk ck_9 cm_9 (if a0 < z_9 ∧ (kd_9 a0).1 = 11 then (stI (u2 R_9 a0 0 (some z)) (fun R_12 => (adk 1 2 (stI (z_9 + 1) (fun z_17 => (stI (va_up kd_9 z_9 (17, 2)) (fun kd_17 => (stI (va_up I_9 z_9 (fun _ => 0)) (fun I_17 => (stI (va_up L_9 z_9 (fun _ => 0)) (fun L_17 => (stI (va_up R_12 z_9 (fun _ => none)) (fun R_17 => (if a0 < z_17 ∧ (kd_17 a0).1 = 11 then (stI (u2 R_17 a0 1 (some z_9)) (fun R_20 => (adk 1 (clN 0).2.2 (stI (z_17 + 1) (fun z_24 => (stI (va_up kd_17 z_17 (0, 0)) (fun kd_24 => (stI (va_up I_17 z_17 (fun _ => 0)) (fun I_24 => (stI (va_up L_17 z_17 (fun _ => 0)) (fun L_24 => (stI (va_up R_20 z_17 (fun _ => none)) (fun R_24 => (if a0 < z_24 ∧ (kd_24 a0).1 = 11 then ((R_24 a0 0).bind (fun b_29 => (if 1 ≤ dp then (if z_17 < z_24 ∧ (kd_24 z_17).1 = 0 then (g_4 n (dp - 1) 0 z_24 kd_24 I_24 L_24 R_24 z_17 b_29).bind (fun ⟨⟨z_32, kd_32, I_32, L_32, R_32⟩, ck_32, cm_32⟩ => (adk ck_32 cm_32 (if a0 < z_32 ∧ (kd_32 a0).1 = 11 then (stI (u2 R_32 a0 2 (some z_17)) (fun R_35 => (adk 1 (clN 7).2.2 (stI (z_32 + 1) (fun z_39 => (stI (va_up kd_32 z_32 (7, 0)) (fun kd_39 => (stI (va_up I_32 z_32 (fun _ => 0)) (fun I_39 => (stI (va_up L_32 z_32 (fun _ => 0)) (fun L_39 => (stI (va_up R_35 z_32 (fun _ => none)) (fun R_39 => (if a0 < z_39 ∧ (kd_39 a0).1 = 11 then ((R_39 a0 0).bind (fun b_44 => (if a0 < z_39 ∧ (kd_39 a0).1 = 11 then ((R_39 a0 2).bind (fun b_48 => (if 1 ≤ dp then (if z_32 < z_39 ∧ (kd_39 z_32).1 = 7 then (g_5 n (dp - 1) 0 z_39 kd_39 I_39 L_39 R_39 0 z_32 b_44 b_48).bind (fun ⟨⟨z_51, kd_51, I_51, L_51, R_51⟩, ck_51, cm_51⟩ => (adk ck_51 cm_51 (if a0 < z_51 ∧ (kd_51 a0).1 = 11 then (stI (u2 R_51 a0 3 (some z_32)) (fun R_54 => (adk 1 (clN 1).2.2 (stI (z_51 + 1) (fun z_58 => (stI (va_up kd_51 z_51 (1, 0)) (fun kd_58 => (stI (va_up I_51 z_51 (fun _ => 0)) (fun I_58 => (stI (va_up L_51 z_51 (fun _ => 0)) (fun L_58 => (stI (va_up R_54 z_51 (fun _ => none)) (fun R_58 => (if a0 < z_58 ∧ (kd_58 a0).1 = 11 then ((R_58 a0 0).bind (fun b_63 => (if a0 < z_58 ∧ (kd_58 a0).1 = 11 then ((R_58 a0 2).bind (fun b_67 => (if a0 < z_58 ∧ (kd_58 a0).1 = 11 then ((R_58 a0 3).bind (fun b_71 => (if 1 ≤ dp then (if z_51 < z_58 ∧ (kd_58 z_51).1 = 1 then (g_9 n (dp - 1) 0 z_58 kd_58 I_58 L_58 R_58 z_51 b_63 b_67 b_71).bind (fun ⟨⟨z_74, kd_74, I_74, L_74, R_74⟩, ck_74, cm_74⟩ => (adk ck_74 cm_74 (if a0 < z_74 ∧ (kd_74 a0).1 = 11 then (stI (u2 R_74 a0 4 (some z_51)) (fun R_77 => (adk 1 (clN 5).2.2 (stI (z_74 + 1) (fun z_81 => (stI (va_up kd_74 z_74 (5, 0)) (fun kd_81 => (stI (va_up I_74 z_74 (fun _ => 0)) (fun I_81 => (stI (va_up L_74 z_74 (fun _ => 0)) (fun L_81 => (stI (va_up R_77 z_74 (fun _ => none)) (fun R_81 => (if a0 < z_81 ∧ (kd_81 a0).1 = 11 then ((R_81 a0 0).bind (fun b_86 => (if 1 ≤ dp then (if z_74 < z_81 ∧ (kd_81 z_74).1 = 5 then (g_10 n (dp - 1) 0 z_81 kd_81 I_81 L_81 R_81 z_74 b_86).bind (fun ⟨⟨z_89, kd_89, I_89, L_89, R_89⟩, ck_89, cm_89⟩ => (adk ck_89 cm_89 (if a0 < z_89 ∧ (kd_89 a0).1 = 11 then (stI (u2 R_89 a0 5 (some z_74)) (fun R_92 => (adk 1 (clN 9).2.2 (stI (z_89 + 1) (fun z_96 => (stI (va_up kd_89 z_89 (9, 0)) (fun kd_96 => (stI (va_up I_89 z_89 (fun _ => 0)) (fun I_96 => (stI (va_up L_89 z_89 (fun _ => 0)) (fun L_96 => (stI (va_up R_92 z_89 (fun _ => none)) (fun R_96 => (if a0 < z_96 ∧ (kd_96 a0).1 = 11 then ((R_96 a0 0).bind (fun b_101 => (if 1 ≤ dp then (if z_89 < z_96 ∧ (kd_96 z_89).1 = 9 then (g_11 n (dp - 1) 0 z_96 kd_96 I_96 L_96 R_96 z_89 b_101).bind (fun ⟨⟨z_104, kd_104, I_104, L_104, R_104⟩, ck_104, cm_104⟩ => (adk ck_104 cm_104 (if a0 < z_104 ∧ (kd_104 a0).1 = 11 then (stI (u2 R_104 a0 6 (some z_89)) (fun R_107 => (adk 1 400 (stI (z_104 + 1) (fun z_114 => (stI (va_up kd_104 z_104 (13, 400)) (fun kd_114 => (stI (va_up I_104 z_104 (fun _ => 0)) (fun I_114 => (stI (va_up L_104 z_104 (fun _ => 0)) (fun L_114 => (stI (va_up R_107 z_104 (fun _ => none)) (fun R_114 => (if a0 < z_114 ∧ (kd_114 a0).1 = 11 then (stI (u2 R_114 a0 7 (some z_104)) (fun R_116 => (adk 1 15 (stI (z_114 + 1) (fun z_122 => (stI (va_up kd_114 z_114 (13, 15)) (fun kd_122 => (stI (va_up I_114 z_114 (fun _ => 0)) (fun I_122 => (stI (va_up L_114 z_114 (fun _ => 0)) (fun L_122 => (stI (va_up R_116 z_114 (fun _ => none)) (fun R_122 => (if a0 < z_122 ∧ (kd_122 a0).1 = 11 then (stI (u2 R_122 a0 8 (some z_114)) (fun R_124 => (adk 1 15 (stI (z_122 + 1) (fun z_130 => (stI (va_up kd_122 z_122 (13, 15)) (fun kd_130 => (stI (va_up I_122 z_122 (fun _ => 0)) (fun I_130 => (stI (va_up L_122 z_122 (fun _ => 0)) (fun L_130 => (stI (va_up R_124 z_122 (fun _ => none)) (fun R_130 => (if a0 < z_130 ∧ (kd_130 a0).1 = 11 then (stI (u2 R_130 a0 9 (some z_122)) (fun R_132 => (adk 1 5 (stI (z_130 + 1) (fun z_137 => (stI (va_up kd_130 z_130 (13, 5)) (fun kd_137 => (stI (va_up I_130 z_130 (fun _ => 0)) (fun I_137 => (stI (va_up L_130 z_130 (fun _ => 0)) (fun L_137 => (stI (va_up R_132 z_130 (fun _ => none)) (fun R_137 => (if a0 < z_137 ∧ (kd_137 a0).1 = 11 then (stI (u2 R_137 a0 10 (some z_130)) (fun R_139 => (adk 1 (clN 10).2.2 (stI (z_137 + 1) (fun z_143 => (stI (va_up kd_137 z_137 (10, 0)) (fun kd_143 => (stI (va_up I_137 z_137 (fun _ => 0)) (fun I_143 => (stI (va_up L_137 z_137 (fun _ => 0)) (fun L_143 => (stI (va_up R_139 z_137 (fun _ => none)) (fun R_143 => (if 1 ≤ dp then (if z_137 < z_143 ∧ (kd_143 z_137).1 = 10 then (g_3 n (dp - 1) 0 z_143 kd_143 I_143 L_143 R_143 z_137).bind (fun ⟨⟨z_147, kd_147, I_147, L_147, R_147⟩, ck_147, cm_147⟩ => (adk ck_147 cm_147 (if a0 < z_147 ∧ (kd_147 a0).1 = 11 then (stI (u2 R_147 a0 11 (some z_137)) (fun R_150 => (adk 1 (clN 8).2.2 (stI (z_147 + 1) (fun z_154 => (stI (va_up kd_147 z_147 (8, 0)) (fun kd_154 => (stI (va_up I_147 z_147 (fun _ => 0)) (fun I_154 => (stI (va_up L_147 z_147 (fun _ => 0)) (fun L_154 => (stI (va_up R_150 z_147 (fun _ => none)) (fun R_154 => (if a0 < z_154 ∧ (kd_154 a0).1 = 11 then ((R_154 a0 11).bind (fun b_159 => (if a0 < z_154 ∧ (kd_154 a0).1 = 11 then ((R_154 a0 7).bind (fun b_163 => (if 1 ≤ dp then (if z_147 < z_154 ∧ (kd_154 z_147).1 = 8 then (g_12 n (dp - 1) 0 z_154 kd_154 I_154 L_154 R_154 z_147 b_159 b_163).bind (fun ⟨⟨z_166, kd_166, I_166, L_166, R_166⟩, ck_166, cm_166⟩ => (adk ck_166 cm_166 (if a0 < z_166 ∧ (kd_166 a0).1 = 11 then (stI (u2 R_166 a0 12 (some z_147)) (fun R_169 => (if a0 < z_166 ∧ (kd_166 a0).1 = 11 then (stI (u2 I_166 a0 13 (0 : Int32)) (fun I_174 => (if a0 < z_166 ∧ (kd_166 a0).1 = 11 then (stI (u2 I_174 a0 14 (0 : Int32)) (fun I_179 => (if a0 < z_166 ∧ (kd_166 a0).1 = 11 then (stI (u2 I_179 a0 15 (-1 : Int32)) (fun I_184 => (if a0 < z_166 ∧ (kd_166 a0).1 = 11 then (stI (u2 I_184 a0 16 (0 : Int32)) (fun I_189 => (if a0 < z_166 ∧ (kd_166 a0).1 = 11 then (stI (u2 I_189 a0 17 (0 : Int32)) (fun I_194 => (if a0 < z_166 ∧ (kd_166 a0).1 = 11 then (stI (u2 I_194 a0 18 (0 : Int32)) (fun I_199 => (some ((z_166, kd_166, I_199, L_166, R_169), 0, 0)))) else none))) else none))) else none))) else none))) else none))) else none))) else none))) else none) else none))) else none))) else none)))))))))))))) else none))) else none) else none)))))))))))))) else none)))))))))))))) else none)))))))))))))) else none)))))))))))))) else none)))))))))))))) else none))) else none) else none))) else none)))))))))))))) else none))) else none) else none))) else none)))))))))))))) else none))) else none) else none))) else none))) else none))) else none)))))))))))))) else none))) else none) else none))) else none))) else none)))))))))))))) else none))) else none) else none))) else none)))))))))))))) else none)))))))))))))) else none))) else none) else none)))))))))))) else none) := by rw [g_0.eq_2, if_pos (show (0 : Nat) = 0 from rfl)]
set_option maxHeartbeats 8000000 in
set_option maxRecDepth 100000 in
theorem w_0 (X : GX) : ∀ (n dp d : Nat), dp ≤ d → ∀ (z : Nat) (kd : (Nat → Nat × Nat)) (I : (Nat → Nat → Int32)) (L : (Nat → Nat → Int64)) (R : (Nat → Nat → Option Nat)), ∀ (a0 : Nat) (z1 : Nat) (kd1 : (Nat → Nat × Nat)) (I1 : (Nat → Nat → Int32)) (L1 : (Nat → Nat → Int64)) (R1 : (Nat → Nat → Option Nat)) (k1 m1 : Nat), (g_0 n dp 0 z kd I L R a0 = some ((z1, kd1, I1, L1, R1), k1, m1) → ∀ MC MS k m : Nat, k + k1 ≤ MC → m + m1 ≤ MS → K X d 0 MC MS (AV (fun τ => τ = (z1, kd1, I1, L1, R1))) 0 [some (.ref a0)] [] (z, kd, I, L, R) k m) := by
  intro n
  induction n with
  | zero => intro dp d hdp z kd I L R  a0 z1 kd1 I1 L1 R1 k1 m1; exact fun h => by cases h
  | succ n ih =>
    intro dp d hdp z kd I L R  a0 z1 kd1 I1 L1 R1 k1 m1
    · intro h MC MS k m hMC hMS
      rw [e_0_0] at h
      refine K_of b_0_0 h_0_0 ?_
      refine q_aload rfl ?_
      obtain ⟨d_1, h⟩ := ite_some h
      refine q_obj (Nat.le_of_ble_eq_true rfl) (Nat.le_trans d_1 hdp) ?_
      refine q_aload rfl ?_
      obtain ⟨mk_5, ms_5, h, ek_5, em_5⟩ := adk_some h
      refine q_new (by omega) (by omega) ?_
      obtain ⟨z_5, nz_5, h⟩ := stI_some h
      obtain ⟨kd_5, nkd_5, h⟩ := stI_some h
      obtain ⟨I_5, nI_5, h⟩ := stI_some h
      obtain ⟨L_5, nL_5, h⟩ := stI_some h
      obtain ⟨R_5, nR_5, h⟩ := stI_some h
      refine q_n5 nz_5 nkd_5 nI_5 nL_5 nR_5 ?_
      refine q_dup rfl ?_
      obtain ⟨d_9, h⟩ := ite_some h
      obtain ⟨⟨zr_9, kr_9⟩, h⟩ := ite_some h
      obtain ⟨⟨⟨z_9, kd_9, I_9, L_9, R_9⟩, ck_9, cm_9⟩, e_9, h⟩ := Option.bind_eq_some_iff.mp h
      dsimp only at h
      obtain ⟨mk_9, ms_9, h, ek_9, em_9⟩ := adk_some h
      refine q_gi1V (a_2 X (d := d - 1) (by omega) e_9) (by omega) (by omega) (by omega) rfl (Nat.le_of_ble_eq_true rfl) ⟨zr_9, kr_9, by decide⟩ ?_
      obtain ⟨⟨z_12, k_12⟩, h⟩ := ite_some h
      refine q_putR (c0 := 11) (j := 0) rfl rfl z_12 (fst_eq k_12) rfl ?_
      obtain ⟨R_12, nR_12, h⟩ := stI_some h
      refine q_nR nR_12 ?_
      refine q_aload rfl ?_
      refine q_iconst (2) (by decide) ?_
      obtain ⟨mk_17, ms_17, h, ek_17, em_17⟩ := adk_some h
      refine q_anew (m0 := 2) (by decide) (by decide) (by decide) (by omega) (by omega) ?_
      obtain ⟨z_17, nz_17, h⟩ := stI_some h
      obtain ⟨kd_17, nkd_17, h⟩ := stI_some h
      obtain ⟨I_17, nI_17, h⟩ := stI_some h
      obtain ⟨L_17, nL_17, h⟩ := stI_some h
      obtain ⟨R_17, nR_17, h⟩ := stI_some h
      refine q_n5 nz_17 nkd_17 nI_17 nL_17 nR_17 ?_
      obtain ⟨⟨z_20, k_20⟩, h⟩ := ite_some h
      refine q_putR (c0 := 11) (j := 1) rfl rfl z_20 (fst_eq k_20) rfl ?_
      obtain ⟨R_20, nR_20, h⟩ := stI_some h
      refine q_nR nR_20 ?_
      refine q_aload rfl ?_
      obtain ⟨mk_24, ms_24, h, ek_24, em_24⟩ := adk_some h
      refine q_new (by omega) (by omega) ?_
      obtain ⟨z_24, nz_24, h⟩ := stI_some h
      obtain ⟨kd_24, nkd_24, h⟩ := stI_some h
      obtain ⟨I_24, nI_24, h⟩ := stI_some h
      obtain ⟨L_24, nL_24, h⟩ := stI_some h
      obtain ⟨R_24, nR_24, h⟩ := stI_some h
      refine q_n5 nz_24 nkd_24 nI_24 nL_24 nR_24 ?_
      refine q_dup rfl ?_
      refine q_aload rfl ?_
      obtain ⟨⟨z_29, k_29⟩, h⟩ := ite_some h
      obtain ⟨b_29, r_29, h⟩ := Option.bind_eq_some_iff.mp h
      refine q_getRs (c0 := 11) (j := 0) rfl rfl z_29 (fst_eq k_29) rfl (by decide) r_29 ?_
      obtain ⟨d_32, h⟩ := ite_some h
      obtain ⟨⟨zr_32, kr_32⟩, h⟩ := ite_some h
      obtain ⟨⟨⟨z_32, kd_32, I_32, L_32, R_32⟩, ck_32, cm_32⟩, e_32, h⟩ := Option.bind_eq_some_iff.mp h
      dsimp only at h
      obtain ⟨mk_32, ms_32, h, ek_32, em_32⟩ := adk_some h
      refine q_gi2V (a_4 X (d := d - 1) (by omega) e_32) (by omega) (by omega) (by omega) rfl (Nat.le_of_ble_eq_true rfl) ⟨zr_32, kr_32, by decide⟩ ?_
      obtain ⟨⟨z_35, k_35⟩, h⟩ := ite_some h
      refine q_putR (c0 := 11) (j := 2) rfl rfl z_35 (fst_eq k_35) rfl ?_
      obtain ⟨R_35, nR_35, h⟩ := stI_some h
      refine q_nR nR_35 ?_
      refine q_aload rfl ?_
      obtain ⟨mk_39, ms_39, h, ek_39, em_39⟩ := adk_some h
      refine q_new (by omega) (by omega) ?_
      obtain ⟨z_39, nz_39, h⟩ := stI_some h
      obtain ⟨kd_39, nkd_39, h⟩ := stI_some h
      obtain ⟨I_39, nI_39, h⟩ := stI_some h
      obtain ⟨L_39, nL_39, h⟩ := stI_some h
      obtain ⟨R_39, nR_39, h⟩ := stI_some h
      refine q_n5 nz_39 nkd_39 nI_39 nL_39 nR_39 ?_
      refine q_dup rfl ?_
      refine q_aload rfl ?_
      obtain ⟨⟨z_44, k_44⟩, h⟩ := ite_some h
      obtain ⟨b_44, r_44, h⟩ := Option.bind_eq_some_iff.mp h
      refine q_getRs (c0 := 11) (j := 0) rfl rfl z_44 (fst_eq k_44) rfl (by decide) r_44 ?_
      refine q_aload rfl ?_
      obtain ⟨⟨z_48, k_48⟩, h⟩ := ite_some h
      obtain ⟨b_48, r_48, h⟩ := Option.bind_eq_some_iff.mp h
      refine q_getRs (c0 := 11) (j := 2) rfl rfl z_48 (fst_eq k_48) rfl (by decide) r_48 ?_
      obtain ⟨d_51, h⟩ := ite_some h
      obtain ⟨⟨zr_51, kr_51⟩, h⟩ := ite_some h
      obtain ⟨⟨⟨z_51, kd_51, I_51, L_51, R_51⟩, ck_51, cm_51⟩, e_51, h⟩ := Option.bind_eq_some_iff.mp h
      dsimp only at h
      obtain ⟨mk_51, ms_51, h, ek_51, em_51⟩ := adk_some h
      refine q_gi3V (a_5 X (d := d - 1) (by omega) e_51) (by omega) (by omega) (by omega) rfl (Nat.le_of_ble_eq_true rfl) ⟨zr_51, kr_51, by decide⟩ ?_
      obtain ⟨⟨z_54, k_54⟩, h⟩ := ite_some h
      refine q_putR (c0 := 11) (j := 3) rfl rfl z_54 (fst_eq k_54) rfl ?_
      obtain ⟨R_54, nR_54, h⟩ := stI_some h
      refine q_nR nR_54 ?_
      refine q_aload rfl ?_
      obtain ⟨mk_58, ms_58, h, ek_58, em_58⟩ := adk_some h
      refine q_new (by omega) (by omega) ?_
      obtain ⟨z_58, nz_58, h⟩ := stI_some h
      obtain ⟨kd_58, nkd_58, h⟩ := stI_some h
      obtain ⟨I_58, nI_58, h⟩ := stI_some h
      obtain ⟨L_58, nL_58, h⟩ := stI_some h
      obtain ⟨R_58, nR_58, h⟩ := stI_some h
      refine q_n5 nz_58 nkd_58 nI_58 nL_58 nR_58 ?_
      refine q_dup rfl ?_
      refine q_aload rfl ?_
      obtain ⟨⟨z_63, k_63⟩, h⟩ := ite_some h
      obtain ⟨b_63, r_63, h⟩ := Option.bind_eq_some_iff.mp h
      refine q_getRs (c0 := 11) (j := 0) rfl rfl z_63 (fst_eq k_63) rfl (by decide) r_63 ?_
      refine q_aload rfl ?_
      obtain ⟨⟨z_67, k_67⟩, h⟩ := ite_some h
      obtain ⟨b_67, r_67, h⟩ := Option.bind_eq_some_iff.mp h
      refine q_getRs (c0 := 11) (j := 2) rfl rfl z_67 (fst_eq k_67) rfl (by decide) r_67 ?_
      refine q_aload rfl ?_
      obtain ⟨⟨z_71, k_71⟩, h⟩ := ite_some h
      obtain ⟨b_71, r_71, h⟩ := Option.bind_eq_some_iff.mp h
      refine q_getRs (c0 := 11) (j := 3) rfl rfl z_71 (fst_eq k_71) rfl (by decide) r_71 ?_
      obtain ⟨d_74, h⟩ := ite_some h
      obtain ⟨⟨zr_74, kr_74⟩, h⟩ := ite_some h
      obtain ⟨⟨⟨z_74, kd_74, I_74, L_74, R_74⟩, ck_74, cm_74⟩, e_74, h⟩ := Option.bind_eq_some_iff.mp h
      dsimp only at h
      obtain ⟨mk_74, ms_74, h, ek_74, em_74⟩ := adk_some h
      refine q_gi4V (a_9 X (d := d - 1) (by omega) e_74) (by omega) (by omega) (by omega) rfl (Nat.le_of_ble_eq_true rfl) ⟨zr_74, kr_74, by decide⟩ ?_
      obtain ⟨⟨z_77, k_77⟩, h⟩ := ite_some h
      refine q_putR (c0 := 11) (j := 4) rfl rfl z_77 (fst_eq k_77) rfl ?_
      obtain ⟨R_77, nR_77, h⟩ := stI_some h
      refine q_nR nR_77 ?_
      refine q_aload rfl ?_
      obtain ⟨mk_81, ms_81, h, ek_81, em_81⟩ := adk_some h
      refine q_new (by omega) (by omega) ?_
      obtain ⟨z_81, nz_81, h⟩ := stI_some h
      obtain ⟨kd_81, nkd_81, h⟩ := stI_some h
      obtain ⟨I_81, nI_81, h⟩ := stI_some h
      obtain ⟨L_81, nL_81, h⟩ := stI_some h
      obtain ⟨R_81, nR_81, h⟩ := stI_some h
      refine q_n5 nz_81 nkd_81 nI_81 nL_81 nR_81 ?_
      refine q_dup rfl ?_
      refine q_aload rfl ?_
      obtain ⟨⟨z_86, k_86⟩, h⟩ := ite_some h
      obtain ⟨b_86, r_86, h⟩ := Option.bind_eq_some_iff.mp h
      refine q_getRs (c0 := 11) (j := 0) rfl rfl z_86 (fst_eq k_86) rfl (by decide) r_86 ?_
      obtain ⟨d_89, h⟩ := ite_some h
      obtain ⟨⟨zr_89, kr_89⟩, h⟩ := ite_some h
      obtain ⟨⟨⟨z_89, kd_89, I_89, L_89, R_89⟩, ck_89, cm_89⟩, e_89, h⟩ := Option.bind_eq_some_iff.mp h
      dsimp only at h
      obtain ⟨mk_89, ms_89, h, ek_89, em_89⟩ := adk_some h
      refine q_gi2V (a_10 X (d := d - 1) (by omega) e_89) (by omega) (by omega) (by omega) rfl (Nat.le_of_ble_eq_true rfl) ⟨zr_89, kr_89, by decide⟩ ?_
      obtain ⟨⟨z_92, k_92⟩, h⟩ := ite_some h
      refine q_putR (c0 := 11) (j := 5) rfl rfl z_92 (fst_eq k_92) rfl ?_
      obtain ⟨R_92, nR_92, h⟩ := stI_some h
      refine q_nR nR_92 ?_
      refine q_aload rfl ?_
      obtain ⟨mk_96, ms_96, h, ek_96, em_96⟩ := adk_some h
      refine q_new (by omega) (by omega) ?_
      obtain ⟨z_96, nz_96, h⟩ := stI_some h
      obtain ⟨kd_96, nkd_96, h⟩ := stI_some h
      obtain ⟨I_96, nI_96, h⟩ := stI_some h
      obtain ⟨L_96, nL_96, h⟩ := stI_some h
      obtain ⟨R_96, nR_96, h⟩ := stI_some h
      refine q_n5 nz_96 nkd_96 nI_96 nL_96 nR_96 ?_
      refine q_dup rfl ?_
      refine q_aload rfl ?_
      obtain ⟨⟨z_101, k_101⟩, h⟩ := ite_some h
      obtain ⟨b_101, r_101, h⟩ := Option.bind_eq_some_iff.mp h
      refine q_getRs (c0 := 11) (j := 0) rfl rfl z_101 (fst_eq k_101) rfl (by decide) r_101 ?_
      obtain ⟨d_104, h⟩ := ite_some h
      obtain ⟨⟨zr_104, kr_104⟩, h⟩ := ite_some h
      obtain ⟨⟨⟨z_104, kd_104, I_104, L_104, R_104⟩, ck_104, cm_104⟩, e_104, h⟩ := Option.bind_eq_some_iff.mp h
      dsimp only at h
      obtain ⟨mk_104, ms_104, h, ek_104, em_104⟩ := adk_some h
      refine q_gi2V (a_11 X (d := d - 1) (by omega) e_104) (by omega) (by omega) (by omega) rfl (Nat.le_of_ble_eq_true rfl) ⟨zr_104, kr_104, by decide⟩ ?_
      obtain ⟨⟨z_107, k_107⟩, h⟩ := ite_some h
      refine q_putR (c0 := 11) (j := 6) rfl rfl z_107 (fst_eq k_107) rfl ?_
      obtain ⟨R_107, nR_107, h⟩ := stI_some h
      refine q_nR nR_107 ?_
      refine q_aload rfl ?_
      refine q_iconst (400) (by decide) ?_
      obtain ⟨mk_114, ms_114, h, ek_114, em_114⟩ := adk_some h
      refine q_newa (m0 := 400) (by decide) (by decide) (by decide) (by decide) (by omega) (by omega) ?_
      obtain ⟨z_114, nz_114, h⟩ := stI_some h
      obtain ⟨kd_114, nkd_114, h⟩ := stI_some h
      obtain ⟨I_114, nI_114, h⟩ := stI_some h
      obtain ⟨L_114, nL_114, h⟩ := stI_some h
      obtain ⟨R_114, nR_114, h⟩ := stI_some h
      refine q_n5 nz_114 nkd_114 nI_114 nL_114 nR_114 ?_
      obtain ⟨⟨z_116, k_116⟩, h⟩ := ite_some h
      refine q_putR (c0 := 11) (j := 7) rfl rfl z_116 (fst_eq k_116) rfl ?_
      obtain ⟨R_116, nR_116, h⟩ := stI_some h
      refine q_nR nR_116 ?_
      refine q_aload rfl ?_
      refine q_iconst (15) (by decide) ?_
      obtain ⟨mk_122, ms_122, h, ek_122, em_122⟩ := adk_some h
      refine q_newa (m0 := 15) (by decide) (by decide) (by decide) (by decide) (by omega) (by omega) ?_
      obtain ⟨z_122, nz_122, h⟩ := stI_some h
      obtain ⟨kd_122, nkd_122, h⟩ := stI_some h
      obtain ⟨I_122, nI_122, h⟩ := stI_some h
      obtain ⟨L_122, nL_122, h⟩ := stI_some h
      obtain ⟨R_122, nR_122, h⟩ := stI_some h
      refine q_n5 nz_122 nkd_122 nI_122 nL_122 nR_122 ?_
      obtain ⟨⟨z_124, k_124⟩, h⟩ := ite_some h
      refine q_putR (c0 := 11) (j := 8) rfl rfl z_124 (fst_eq k_124) rfl ?_
      obtain ⟨R_124, nR_124, h⟩ := stI_some h
      refine q_nR nR_124 ?_
      refine q_aload rfl ?_
      refine q_iconst (15) (by decide) ?_
      obtain ⟨mk_130, ms_130, h, ek_130, em_130⟩ := adk_some h
      refine q_newa (m0 := 15) (by decide) (by decide) (by decide) (by decide) (by omega) (by omega) ?_
      obtain ⟨z_130, nz_130, h⟩ := stI_some h
      obtain ⟨kd_130, nkd_130, h⟩ := stI_some h
      obtain ⟨I_130, nI_130, h⟩ := stI_some h
      obtain ⟨L_130, nL_130, h⟩ := stI_some h
      obtain ⟨R_130, nR_130, h⟩ := stI_some h
      refine q_n5 nz_130 nkd_130 nI_130 nL_130 nR_130 ?_
      obtain ⟨⟨z_132, k_132⟩, h⟩ := ite_some h
      refine q_putR (c0 := 11) (j := 9) rfl rfl z_132 (fst_eq k_132) rfl ?_
      obtain ⟨R_132, nR_132, h⟩ := stI_some h
      refine q_nR nR_132 ?_
      refine q_aload rfl ?_
      refine q_iconst (5) (by decide) ?_
      obtain ⟨mk_137, ms_137, h, ek_137, em_137⟩ := adk_some h
      refine q_newa (m0 := 5) (by decide) (by decide) (by decide) (by decide) (by omega) (by omega) ?_
      obtain ⟨z_137, nz_137, h⟩ := stI_some h
      obtain ⟨kd_137, nkd_137, h⟩ := stI_some h
      obtain ⟨I_137, nI_137, h⟩ := stI_some h
      obtain ⟨L_137, nL_137, h⟩ := stI_some h
      obtain ⟨R_137, nR_137, h⟩ := stI_some h
      refine q_n5 nz_137 nkd_137 nI_137 nL_137 nR_137 ?_
      obtain ⟨⟨z_139, k_139⟩, h⟩ := ite_some h
      refine q_putR (c0 := 11) (j := 10) rfl rfl z_139 (fst_eq k_139) rfl ?_
      obtain ⟨R_139, nR_139, h⟩ := stI_some h
      refine q_nR nR_139 ?_
      refine q_aload rfl ?_
      obtain ⟨mk_143, ms_143, h, ek_143, em_143⟩ := adk_some h
      refine q_new (by omega) (by omega) ?_
      obtain ⟨z_143, nz_143, h⟩ := stI_some h
      obtain ⟨kd_143, nkd_143, h⟩ := stI_some h
      obtain ⟨I_143, nI_143, h⟩ := stI_some h
      obtain ⟨L_143, nL_143, h⟩ := stI_some h
      obtain ⟨R_143, nR_143, h⟩ := stI_some h
      refine q_n5 nz_143 nkd_143 nI_143 nL_143 nR_143 ?_
      refine q_dup rfl ?_
      obtain ⟨d_147, h⟩ := ite_some h
      obtain ⟨⟨zr_147, kr_147⟩, h⟩ := ite_some h
      obtain ⟨⟨⟨z_147, kd_147, I_147, L_147, R_147⟩, ck_147, cm_147⟩, e_147, h⟩ := Option.bind_eq_some_iff.mp h
      dsimp only at h
      obtain ⟨mk_147, ms_147, h, ek_147, em_147⟩ := adk_some h
      refine q_gi1V (a_3 X (d := d - 1) (by omega) e_147) (by omega) (by omega) (by omega) rfl (Nat.le_of_ble_eq_true rfl) ⟨zr_147, kr_147, by decide⟩ ?_
      obtain ⟨⟨z_150, k_150⟩, h⟩ := ite_some h
      refine q_putR (c0 := 11) (j := 11) rfl rfl z_150 (fst_eq k_150) rfl ?_
      obtain ⟨R_150, nR_150, h⟩ := stI_some h
      refine q_nR nR_150 ?_
      refine q_aload rfl ?_
      obtain ⟨mk_154, ms_154, h, ek_154, em_154⟩ := adk_some h
      refine q_new (by omega) (by omega) ?_
      obtain ⟨z_154, nz_154, h⟩ := stI_some h
      obtain ⟨kd_154, nkd_154, h⟩ := stI_some h
      obtain ⟨I_154, nI_154, h⟩ := stI_some h
      obtain ⟨L_154, nL_154, h⟩ := stI_some h
      obtain ⟨R_154, nR_154, h⟩ := stI_some h
      refine q_n5 nz_154 nkd_154 nI_154 nL_154 nR_154 ?_
      refine q_dup rfl ?_
      refine q_aload rfl ?_
      obtain ⟨⟨z_159, k_159⟩, h⟩ := ite_some h
      obtain ⟨b_159, r_159, h⟩ := Option.bind_eq_some_iff.mp h
      refine q_getRs (c0 := 11) (j := 11) rfl rfl z_159 (fst_eq k_159) rfl (by decide) r_159 ?_
      refine q_aload rfl ?_
      obtain ⟨⟨z_163, k_163⟩, h⟩ := ite_some h
      obtain ⟨b_163, r_163, h⟩ := Option.bind_eq_some_iff.mp h
      refine q_getRs (c0 := 11) (j := 7) rfl rfl z_163 (fst_eq k_163) rfl (by decide) r_163 ?_
      obtain ⟨d_166, h⟩ := ite_some h
      obtain ⟨⟨zr_166, kr_166⟩, h⟩ := ite_some h
      obtain ⟨⟨⟨z_166, kd_166, I_166, L_166, R_166⟩, ck_166, cm_166⟩, e_166, h⟩ := Option.bind_eq_some_iff.mp h
      dsimp only at h
      obtain ⟨mk_166, ms_166, h, ek_166, em_166⟩ := adk_some h
      refine q_gi3V (a_12 X (d := d - 1) (by omega) e_166) (by omega) (by omega) (by omega) rfl (Nat.le_of_ble_eq_true rfl) ⟨zr_166, kr_166, by decide⟩ ?_
      obtain ⟨⟨z_169, k_169⟩, h⟩ := ite_some h
      refine q_putR (c0 := 11) (j := 12) rfl rfl z_169 (fst_eq k_169) rfl ?_
      obtain ⟨R_169, nR_169, h⟩ := stI_some h
      refine q_nR nR_169 ?_
      refine q_aload rfl ?_
      refine q_iconst (0) (by decide) ?_
      obtain ⟨⟨z_174, k_174⟩, h⟩ := ite_some h
      refine q_putI (c0 := 11) (j := 13) rfl rfl z_174 (fst_eq k_174) rfl ?_
      obtain ⟨I_174, nI_174, h⟩ := stI_some h
      refine q_nI nI_174 ?_
      refine q_aload rfl ?_
      refine q_iconst (0) (by decide) ?_
      obtain ⟨⟨z_179, k_179⟩, h⟩ := ite_some h
      refine q_putI (c0 := 11) (j := 14) rfl rfl z_179 (fst_eq k_179) rfl ?_
      obtain ⟨I_179, nI_179, h⟩ := stI_some h
      refine q_nI nI_179 ?_
      refine q_aload rfl ?_
      refine q_iconst (-1) (by decide) ?_
      obtain ⟨⟨z_184, k_184⟩, h⟩ := ite_some h
      refine q_putI (c0 := 11) (j := 15) rfl rfl z_184 (fst_eq k_184) rfl ?_
      obtain ⟨I_184, nI_184, h⟩ := stI_some h
      refine q_nI nI_184 ?_
      refine q_aload rfl ?_
      refine q_iconst (0) (by decide) ?_
      obtain ⟨⟨z_189, k_189⟩, h⟩ := ite_some h
      refine q_putI (c0 := 11) (j := 16) rfl rfl z_189 (fst_eq k_189) rfl ?_
      obtain ⟨I_189, nI_189, h⟩ := stI_some h
      refine q_nI nI_189 ?_
      refine q_aload rfl ?_
      refine q_iconst (0) (by decide) ?_
      obtain ⟨⟨z_194, k_194⟩, h⟩ := ite_some h
      refine q_putZ (c0 := 11) (j := 17) rfl rfl z_194 (fst_eq k_194) rfl (Or.inl rfl) ?_
      obtain ⟨I_194, nI_194, h⟩ := stI_some h
      refine q_nI nI_194 ?_
      refine q_aload rfl ?_
      refine q_iconst (0) (by decide) ?_
      obtain ⟨⟨z_199, k_199⟩, h⟩ := ite_some h
      refine q_putI (c0 := 11) (j := 18) rfl rfl z_199 (fst_eq k_199) rfl ?_
      obtain ⟨I_199, nI_199, h⟩ := stI_some h
      refine q_nI nI_199 ?_
      cases h
      exact q_vret rfl (by omega) (by omega) rfl
theorem a_0 (X : GX) {z : Nat} {kd : (Nat → Nat × Nat)} {I : (Nat → Nat → Int32)} {L : (Nat → Nat → Int64)} {R : (Nat → Nat → Option Nat)} {n dp d : Nat} (hd : dp ≤ d) {a0 : Nat} {z1 : Nat} {kd1 : (Nat → Nat × Nat)} {I1 : (Nat → Nat → Int32)} {L1 : (Nat → Nat → Int64)} {R1 : (Nat → Nat → Option Nat)} {k1 m1 : Nat} (h : g_0 n dp 0 z kd I L R a0 = some ((z1, kd1, I1, L1, R1), k1, m1)) : Ct X d 0 k1 m1 [.ref a0] (z, kd, I, L, R) (AV (fun τ => τ = (z1, kd1, I1, L1, R1))) :=
  Ct_of mu_0 (Nat.le_of_ble_eq_true rfl) ((w_0 X n dp d hd z kd I L R a0 _ _ _ _ _ _ _) h k1 m1 0 0 (by omega) (by omega))

/-! 191 CutFloorModel.<init>()V -/
set_option maxHeartbeats 4000000 in
set_option maxRecDepth 100000 in
def g_191 : Nat → Nat → Nat → Nat → (Nat → Nat × Nat) → (Nat → Nat → Int32) → (Nat → Nat → Int64) → (Nat → Nat → Option Nat) → Nat →  Option ((PS) × Nat × Nat)
  | 0, _, _, _, _, _, _, _, _ => none
  | n + 1, dp, lab, z, kd, I, L, R, a0 =>
    if lab = 0 then (if 1 ≤ dp then (adk 1 7 (stI (z + 1) (fun z_7 => (stI (va_up kd z (13, 7)) (fun kd_7 => (stI (va_up I z (fun _ => 0)) (fun I_7 => (stI (va_up L z (fun _ => 0)) (fun L_7 => (stI (va_up R z (fun _ => none)) (fun R_7 => (if a0 < z_7 ∧ (kd_7 a0).1 = 12 then (stI (u2 R_7 a0 2 (some z)) (fun R_9 => (adk 1 1570 (stI (z_7 + 1) (fun z_16 => (stI (va_up kd_7 z_7 (13, 1570)) (fun kd_16 => (stI (va_up I_7 z_7 (fun _ => 0)) (fun I_16 => (stI (va_up L_7 z_7 (fun _ => 0)) (fun L_16 => (stI (va_up R_9 z_7 (fun _ => none)) (fun R_16 => (if a0 < z_16 ∧ (kd_16 a0).1 = 12 then (stI (u2 R_16 a0 3 (some z_7)) (fun R_18 => (adk 1 3140 (stI (z_16 + 1) (fun z_25 => (stI (va_up kd_16 z_16 (13, 3140)) (fun kd_25 => (stI (va_up I_16 z_16 (fun _ => 0)) (fun I_25 => (stI (va_up L_16 z_16 (fun _ => 0)) (fun L_25 => (stI (va_up R_18 z_16 (fun _ => none)) (fun R_25 => (if a0 < z_25 ∧ (kd_25 a0).1 = 12 then (stI (u2 R_25 a0 4 (some z_16)) (fun R_27 => (adk 1 2 (stI (z_25 + 1) (fun z_32 => (stI (va_up kd_25 z_25 (15, 2)) (fun kd_32 => (stI (va_up I_25 z_25 (fun _ => 0)) (fun I_32 => (stI (va_up L_25 z_25 (fun _ => 0)) (fun L_32 => (stI (va_up R_27 z_25 (fun _ => none)) (fun R_32 => (if a0 < z_32 ∧ (kd_32 a0).1 = 12 then (stI (u2 R_32 a0 5 (some z_25)) (fun R_34 => (adk 1 400 (stI (z_32 + 1) (fun z_41 => (stI (va_up kd_32 z_32 (13, 400)) (fun kd_41 => (stI (va_up I_32 z_32 (fun _ => 0)) (fun I_41 => (stI (va_up L_32 z_32 (fun _ => 0)) (fun L_41 => (stI (va_up R_34 z_32 (fun _ => none)) (fun R_41 => (if a0 < z_41 ∧ (kd_41 a0).1 = 12 then (stI (u2 R_41 a0 6 (some z_32)) (fun R_43 => (if a0 < z_41 ∧ (kd_41 a0).1 = 12 then (stI (u2 I_41 a0 12 (-1 : Int32)) (fun I_48 => (adk 1 192 (stI (z_41 + 1) (fun z_55 => (stI (va_up kd_41 z_41 (13, 192)) (fun kd_55 => (stI (va_up I_48 z_41 (fun _ => 0)) (fun I_55 => (stI (va_up L_41 z_41 (fun _ => 0)) (fun L_55 => (stI (va_up R_43 z_41 (fun _ => none)) (fun R_55 => (if a0 < z_55 ∧ (kd_55 a0).1 = 12 then (stI (u2 R_55 a0 15 (some z_41)) (fun R_57 => (adk 1 400 (stI (z_55 + 1) (fun z_64 => (stI (va_up kd_55 z_55 (13, 400)) (fun kd_64 => (stI (va_up I_55 z_55 (fun _ => 0)) (fun I_64 => (stI (va_up L_55 z_55 (fun _ => 0)) (fun L_64 => (stI (va_up R_57 z_55 (fun _ => none)) (fun R_64 => (if a0 < z_64 ∧ (kd_64 a0).1 = 12 then (stI (u2 R_64 a0 17 (some z_55)) (fun R_66 => (adk 1 400 (stI (z_64 + 1) (fun z_73 => (stI (va_up kd_64 z_64 (13, 400)) (fun kd_73 => (stI (va_up I_64 z_64 (fun _ => 0)) (fun I_73 => (stI (va_up L_64 z_64 (fun _ => 0)) (fun L_73 => (stI (va_up R_66 z_64 (fun _ => none)) (fun R_73 => (if a0 < z_73 ∧ (kd_73 a0).1 = 12 then (stI (u2 R_73 a0 18 (some z_64)) (fun R_75 => (adk 1 400 (stI (z_73 + 1) (fun z_82 => (stI (va_up kd_73 z_73 (13, 400)) (fun kd_82 => (stI (va_up I_73 z_73 (fun _ => 0)) (fun I_82 => (stI (va_up L_73 z_73 (fun _ => 0)) (fun L_82 => (stI (va_up R_75 z_73 (fun _ => none)) (fun R_82 => (if a0 < z_82 ∧ (kd_82 a0).1 = 12 then (stI (u2 R_82 a0 20 (some z_73)) (fun R_84 => (adk 1 400 (stI (z_82 + 1) (fun z_91 => (stI (va_up kd_82 z_82 (13, 400)) (fun kd_91 => (stI (va_up I_82 z_82 (fun _ => 0)) (fun I_91 => (stI (va_up L_82 z_82 (fun _ => 0)) (fun L_91 => (stI (va_up R_84 z_82 (fun _ => none)) (fun R_91 => (if a0 < z_91 ∧ (kd_91 a0).1 = 12 then (stI (u2 R_91 a0 21 (some z_82)) (fun R_93 => (adk 1 5 (stI (z_91 + 1) (fun z_98 => (stI (va_up kd_91 z_91 (14, 5)) (fun kd_98 => (stI (va_up I_91 z_91 (fun _ => 0)) (fun I_98 => (stI (va_up L_91 z_91 (fun _ => 0)) (fun L_98 => (stI (va_up R_93 z_91 (fun _ => none)) (fun R_98 => (if (z_91 < z_98 ∧ (kd_98 z_91).1 = 14 ∧ (kd_98 z_91).2 < 2 ^ 31) ∧ 0 ≤ (0 : Int32) ∧ 0 < (kd_98 z_91).2 then (stI (u2 L_98 z_91 0 (3540595 : Int64)) (fun L_105 => (if (z_91 < z_98 ∧ (kd_98 z_91).1 = 14 ∧ (kd_98 z_91).2 < 2 ^ 31) ∧ 0 ≤ (1 : Int32) ∧ 1 < (kd_98 z_91).2 then (stI (u2 L_105 z_91 1 (525908 : Int64)) (fun L_111 => (if (z_91 < z_98 ∧ (kd_98 z_91).1 = 14 ∧ (kd_98 z_91).2 < 2 ^ 31) ∧ 0 ≤ (2 : Int32) ∧ 2 < (kd_98 z_91).2 then (stI (u2 L_111 z_91 2 (23609 : Int64)) (fun L_117 => (if (z_91 < z_98 ∧ (kd_98 z_91).1 = 14 ∧ (kd_98 z_91).2 < 2 ^ 31) ∧ 0 ≤ (3 : Int32) ∧ 3 < (kd_98 z_91).2 then (stI (u2 L_117 z_91 3 (4153 : Int64)) (fun L_123 => (if (z_91 < z_98 ∧ (kd_98 z_91).1 = 14 ∧ (kd_98 z_91).2 < 2 ^ 31) ∧ 0 ≤ (4 : Int32) ∧ 4 < (kd_98 z_91).2 then (stI (u2 L_123 z_91 4 (777297172 : Int64)) (fun L_129 => (if a0 < z_98 ∧ (kd_98 a0).1 = 12 then (stI (u2 R_98 a0 24 (some z_91)) (fun R_130 => (adk 1 176 (stI (z_98 + 1) (fun z_137 => (stI (va_up kd_98 z_98 (13, 176)) (fun kd_137 => (stI (va_up I_98 z_98 (fun _ => 0)) (fun I_137 => (stI (va_up L_129 z_98 (fun _ => 0)) (fun L_137 => (stI (va_up R_130 z_98 (fun _ => none)) (fun R_137 => (if a0 < z_137 ∧ (kd_137 a0).1 = 12 then (stI (u2 R_137 a0 25 (some z_98)) (fun R_139 => (adk 1 13 (stI (z_137 + 1) (fun z_145 => (stI (va_up kd_137 z_137 (14, 13)) (fun kd_145 => (stI (va_up I_137 z_137 (fun _ => 0)) (fun I_145 => (stI (va_up L_137 z_137 (fun _ => 0)) (fun L_145 => (stI (va_up R_139 z_137 (fun _ => none)) (fun R_145 => (if a0 < z_145 ∧ (kd_145 a0).1 = 12 then (stI (u2 R_145 a0 27 (some z_137)) (fun R_147 => (adk 1 400 (stI (z_145 + 1) (fun z_154 => (stI (va_up kd_145 z_145 (14, 400)) (fun kd_154 => (stI (va_up I_145 z_145 (fun _ => 0)) (fun I_154 => (stI (va_up L_145 z_145 (fun _ => 0)) (fun L_154 => (stI (va_up R_147 z_145 (fun _ => none)) (fun R_154 => (if a0 < z_154 ∧ (kd_154 a0).1 = 12 then (stI (u2 R_154 a0 28 (some z_145)) (fun R_156 => (adk 1 3 (stI (z_154 + 1) (fun z_161 => (stI (va_up kd_154 z_154 (13, 3)) (fun kd_161 => (stI (va_up I_154 z_154 (fun _ => 0)) (fun I_161 => (stI (va_up L_154 z_154 (fun _ => 0)) (fun L_161 => (stI (va_up R_156 z_154 (fun _ => none)) (fun R_161 => (if a0 < z_161 ∧ (kd_161 a0).1 = 12 then (stI (u2 R_161 a0 33 (some z_154)) (fun R_163 => (adk 1 1920 (stI (z_161 + 1) (fun z_170 => (stI (va_up kd_161 z_161 (13, 1920)) (fun kd_170 => (stI (va_up I_161 z_161 (fun _ => 0)) (fun I_170 => (stI (va_up L_161 z_161 (fun _ => 0)) (fun L_170 => (stI (va_up R_163 z_161 (fun _ => none)) (fun R_170 => (if a0 < z_170 ∧ (kd_170 a0).1 = 12 then (stI (u2 R_170 a0 34 (some z_161)) (fun R_172 => (adk 1 1920 (stI (z_170 + 1) (fun z_179 => (stI (va_up kd_170 z_170 (13, 1920)) (fun kd_179 => (stI (va_up I_170 z_170 (fun _ => 0)) (fun I_179 => (stI (va_up L_170 z_170 (fun _ => 0)) (fun L_179 => (stI (va_up R_172 z_170 (fun _ => none)) (fun R_179 => (if a0 < z_179 ∧ (kd_179 a0).1 = 12 then (stI (u2 R_179 a0 35 (some z_170)) (fun R_181 => (adk 1 10 (stI (z_179 + 1) (fun z_187 => (stI (va_up kd_179 z_179 (13, 10)) (fun kd_187 => (stI (va_up I_179 z_179 (fun _ => 0)) (fun I_187 => (stI (va_up L_179 z_179 (fun _ => 0)) (fun L_187 => (stI (va_up R_181 z_179 (fun _ => none)) (fun R_187 => (if a0 < z_187 ∧ (kd_187 a0).1 = 12 then (stI (u2 R_187 a0 36 (some z_179)) (fun R_189 => (adk 1 110 (stI (z_187 + 1) (fun z_195 => (stI (va_up kd_187 z_187 (13, 110)) (fun kd_195 => (stI (va_up I_187 z_187 (fun _ => 0)) (fun I_195 => (stI (va_up L_187 z_187 (fun _ => 0)) (fun L_195 => (stI (va_up R_189 z_187 (fun _ => none)) (fun R_195 => (if a0 < z_195 ∧ (kd_195 a0).1 = 12 then (stI (u2 R_195 a0 37 (some z_187)) (fun R_197 => (adk 1 48 (stI (z_195 + 1) (fun z_203 => (stI (va_up kd_195 z_195 (15, 48)) (fun kd_203 => (stI (va_up I_195 z_195 (fun _ => 0)) (fun I_203 => (stI (va_up L_195 z_195 (fun _ => 0)) (fun L_203 => (stI (va_up R_197 z_195 (fun _ => none)) (fun R_203 => (if a0 < z_203 ∧ (kd_203 a0).1 = 12 then (stI (u2 R_203 a0 38 (some z_195)) (fun R_205 => (adk 1 8 (stI (z_203 + 1) (fun z_211 => (stI (va_up kd_203 z_203 (13, 8)) (fun kd_211 => (stI (va_up I_203 z_203 (fun _ => 0)) (fun I_211 => (stI (va_up L_203 z_203 (fun _ => 0)) (fun L_211 => (stI (va_up R_205 z_203 (fun _ => none)) (fun R_211 => (if a0 < z_211 ∧ (kd_211 a0).1 = 12 then (stI (u2 R_211 a0 39 (some z_203)) (fun R_213 => (adk 1 10 (stI (z_211 + 1) (fun z_219 => (stI (va_up kd_211 z_211 (13, 10)) (fun kd_219 => (stI (va_up I_211 z_211 (fun _ => 0)) (fun I_219 => (stI (va_up L_211 z_211 (fun _ => 0)) (fun L_219 => (stI (va_up R_213 z_211 (fun _ => none)) (fun R_219 => (if a0 < z_219 ∧ (kd_219 a0).1 = 12 then (stI (u2 R_219 a0 41 (some z_211)) (fun R_221 => (adk 1 5 (stI (z_219 + 1) (fun z_226 => (stI (va_up kd_219 z_219 (13, 5)) (fun kd_226 => (stI (va_up I_219 z_219 (fun _ => 0)) (fun I_226 => (stI (va_up L_219 z_219 (fun _ => 0)) (fun L_226 => (stI (va_up R_221 z_219 (fun _ => none)) (fun R_226 => (if a0 < z_226 ∧ (kd_226 a0).1 = 12 then (stI (u2 R_226 a0 42 (some z_219)) (fun R_228 => (adk 1 531441 (stI (z_226 + 1) (fun z_234 => (stI (va_up kd_226 z_226 (13, 531441)) (fun kd_234 => (stI (va_up I_226 z_226 (fun _ => 0)) (fun I_234 => (stI (va_up L_226 z_226 (fun _ => 0)) (fun L_234 => (stI (va_up R_228 z_226 (fun _ => none)) (fun R_234 => (if a0 < z_234 ∧ (kd_234 a0).1 = 12 then (stI (u2 R_234 a0 45 (some z_226)) (fun R_236 => (adk 1 531441 (stI (z_234 + 1) (fun z_242 => (stI (va_up kd_234 z_234 (13, 531441)) (fun kd_242 => (stI (va_up I_234 z_234 (fun _ => 0)) (fun I_242 => (stI (va_up L_234 z_234 (fun _ => 0)) (fun L_242 => (stI (va_up R_236 z_234 (fun _ => none)) (fun R_242 => (if a0 < z_242 ∧ (kd_242 a0).1 = 12 then (stI (u2 R_242 a0 46 (some z_234)) (fun R_244 => (adk 1 531441 (stI (z_242 + 1) (fun z_250 => (stI (va_up kd_242 z_242 (15, 531441)) (fun kd_250 => (stI (va_up I_242 z_242 (fun _ => 0)) (fun I_250 => (stI (va_up L_242 z_242 (fun _ => 0)) (fun L_250 => (stI (va_up R_244 z_242 (fun _ => none)) (fun R_250 => (if a0 < z_250 ∧ (kd_250 a0).1 = 12 then (stI (u2 R_250 a0 47 (some z_242)) (fun R_252 => (adk 1 8 (stI (z_250 + 1) (fun z_258 => (stI (va_up kd_250 z_250 (13, 8)) (fun kd_258 => (stI (va_up I_250 z_250 (fun _ => 0)) (fun I_258 => (stI (va_up L_250 z_250 (fun _ => 0)) (fun L_258 => (stI (va_up R_252 z_250 (fun _ => none)) (fun R_258 => (if a0 < z_258 ∧ (kd_258 a0).1 = 12 then (stI (u2 R_258 a0 49 (some z_250)) (fun R_260 => (adk 1 5 (stI (z_258 + 1) (fun z_265 => (stI (va_up kd_258 z_258 (13, 5)) (fun kd_265 => (stI (va_up I_258 z_258 (fun _ => 0)) (fun I_265 => (stI (va_up L_258 z_258 (fun _ => 0)) (fun L_265 => (stI (va_up R_260 z_258 (fun _ => none)) (fun R_265 => (if a0 < z_265 ∧ (kd_265 a0).1 = 12 then (stI (u2 R_265 a0 50 (some z_258)) (fun R_267 => (adk 1 8 (stI (z_265 + 1) (fun z_273 => (stI (va_up kd_265 z_265 (13, 8)) (fun kd_273 => (stI (va_up I_265 z_265 (fun _ => 0)) (fun I_273 => (stI (va_up L_265 z_265 (fun _ => 0)) (fun L_273 => (stI (va_up R_267 z_265 (fun _ => none)) (fun R_273 => (if a0 < z_273 ∧ (kd_273 a0).1 = 12 then (stI (u2 R_273 a0 55 (some z_265)) (fun R_275 => (adk 1 10 (stI (z_273 + 1) (fun z_281 => (stI (va_up kd_273 z_273 (13, 10)) (fun kd_281 => (stI (va_up I_273 z_273 (fun _ => 0)) (fun I_281 => (stI (va_up L_273 z_273 (fun _ => 0)) (fun L_281 => (stI (va_up R_275 z_273 (fun _ => none)) (fun R_281 => (if a0 < z_281 ∧ (kd_281 a0).1 = 12 then (stI (u2 R_281 a0 56 (some z_273)) (fun R_283 => (adk 1 16 (stI (z_281 + 1) (fun z_289 => (stI (va_up kd_281 z_281 (13, 16)) (fun kd_289 => (stI (va_up I_281 z_281 (fun _ => 0)) (fun I_289 => (stI (va_up L_281 z_281 (fun _ => 0)) (fun L_289 => (stI (va_up R_283 z_281 (fun _ => none)) (fun R_289 => (if a0 < z_289 ∧ (kd_289 a0).1 = 12 then (stI (u2 R_289 a0 57 (some z_281)) (fun R_291 => (adk 1 16 (stI (z_289 + 1) (fun z_297 => (stI (va_up kd_289 z_289 (13, 16)) (fun kd_297 => (stI (va_up I_289 z_289 (fun _ => 0)) (fun I_297 => (stI (va_up L_289 z_289 (fun _ => 0)) (fun L_297 => (stI (va_up R_291 z_289 (fun _ => none)) (fun R_297 => (if a0 < z_297 ∧ (kd_297 a0).1 = 12 then (stI (u2 R_297 a0 58 (some z_289)) (fun R_299 => (adk 1 16 (stI (z_297 + 1) (fun z_305 => (stI (va_up kd_297 z_297 (15, 16)) (fun kd_305 => (stI (va_up I_297 z_297 (fun _ => 0)) (fun I_305 => (stI (va_up L_297 z_297 (fun _ => 0)) (fun L_305 => (stI (va_up R_299 z_297 (fun _ => none)) (fun R_305 => (if a0 < z_305 ∧ (kd_305 a0).1 = 12 then (stI (u2 R_305 a0 59 (some z_297)) (fun R_307 => (adk 1 4 (stI (z_305 + 1) (fun z_312 => (stI (va_up kd_305 z_305 (13, 4)) (fun kd_312 => (stI (va_up I_305 z_305 (fun _ => 0)) (fun I_312 => (stI (va_up L_305 z_305 (fun _ => 0)) (fun L_312 => (stI (va_up R_307 z_305 (fun _ => none)) (fun R_312 => (if a0 < z_312 ∧ (kd_312 a0).1 = 12 then (stI (u2 R_312 a0 61 (some z_305)) (fun R_314 => (adk 1 16 (stI (z_312 + 1) (fun z_320 => (stI (va_up kd_312 z_312 (13, 16)) (fun kd_320 => (stI (va_up I_312 z_312 (fun _ => 0)) (fun I_320 => (stI (va_up L_312 z_312 (fun _ => 0)) (fun L_320 => (stI (va_up R_314 z_312 (fun _ => none)) (fun R_320 => (if a0 < z_320 ∧ (kd_320 a0).1 = 12 then (stI (u2 R_320 a0 62 (some z_312)) (fun R_322 => (adk 1 16 (stI (z_320 + 1) (fun z_328 => (stI (va_up kd_320 z_320 (13, 16)) (fun kd_328 => (stI (va_up I_320 z_320 (fun _ => 0)) (fun I_328 => (stI (va_up L_320 z_320 (fun _ => 0)) (fun L_328 => (stI (va_up R_322 z_320 (fun _ => none)) (fun R_328 => (if a0 < z_328 ∧ (kd_328 a0).1 = 12 then (stI (u2 R_328 a0 64 (some z_320)) (fun R_330 => (adk 1 15 (stI (z_328 + 1) (fun z_336 => (stI (va_up kd_328 z_328 (13, 15)) (fun kd_336 => (stI (va_up I_328 z_328 (fun _ => 0)) (fun I_336 => (stI (va_up L_328 z_328 (fun _ => 0)) (fun L_336 => (stI (va_up R_330 z_328 (fun _ => none)) (fun R_336 => (if a0 < z_336 ∧ (kd_336 a0).1 = 12 then (stI (u2 R_336 a0 65 (some z_328)) (fun R_338 => (adk 1 15 (stI (z_336 + 1) (fun z_344 => (stI (va_up kd_336 z_336 (13, 15)) (fun kd_344 => (stI (va_up I_336 z_336 (fun _ => 0)) (fun I_344 => (stI (va_up L_336 z_336 (fun _ => 0)) (fun L_344 => (stI (va_up R_338 z_336 (fun _ => none)) (fun R_344 => (if a0 < z_344 ∧ (kd_344 a0).1 = 12 then (stI (u2 R_344 a0 66 (some z_336)) (fun R_346 => (if a0 < z_344 ∧ (kd_344 a0).1 = 12 then ((R_346 a0 3).bind (fun b_350 => (if (b_350 < z_344 ∧ (kd_344 b_350).1 = 13 ∧ (kd_344 b_350).2 < 2 ^ 31) ∧ 0 ≤ (5 : Int32) ∧ 5 < (kd_344 b_350).2 then (stI (u2 I_344 b_350 5 (5 : Int32)) (fun I_355 => (some ((z_344, kd_344, I_355, L_344, R_346), 0, 0)))) else none))) else none))) else none)))))))))))))) else none)))))))))))))) else none)))))))))))))) else none)))))))))))))) else none)))))))))))))) else none)))))))))))))) else none)))))))))))))) else none)))))))))))))) else none)))))))))))))) else none)))))))))))))) else none)))))))))))))) else none)))))))))))))) else none)))))))))))))) else none)))))))))))))) else none)))))))))))))) else none)))))))))))))) else none)))))))))))))) else none)))))))))))))) else none)))))))))))))) else none)))))))))))))) else none)))))))))))))) else none)))))))))))))) else none)))))))))))))) else none)))))))))))))) else none)))))))))))))) else none)))))))))))))) else none)))))))))))))) else none))) else none))) else none))) else none))) else none))) else none)))))))))))))) else none)))))))))))))) else none)))))))))))))) else none)))))))))))))) else none)))))))))))))) else none)))))))))))))) else none))) else none)))))))))))))) else none)))))))))))))) else none)))))))))))))) else none)))))))))))))) else none)))))))))))) else none)
    else none
set_option maxRecDepth 100000 in
theorem e_191_0 (n dp : Nat) (z : Nat) (kd : (Nat → Nat × Nat)) (I : (Nat → Nat → Int32)) (L : (Nat → Nat → Int64)) (R : (Nat → Nat → Option Nat)) (a0 : Nat) : g_191 (n + 1) dp 0 z kd I L R a0 = (if 1 ≤ dp then (adk 1 7 (stI (z + 1) (fun z_7 => (stI (va_up kd z (13, 7)) (fun kd_7 => (stI (va_up I z (fun _ => 0)) (fun I_7 => (stI (va_up L z (fun _ => 0)) (fun L_7 => (stI (va_up R z (fun _ => none)) (fun R_7 => (if a0 < z_7 ∧ (kd_7 a0).1 = 12 then (stI (u2 R_7 a0 2 (some z)) (fun R_9 => (adk 1 1570 (stI (z_7 + 1) (fun z_16 => (stI (va_up kd_7 z_7 (13, 1570)) (fun kd_16 => (stI (va_up I_7 z_7 (fun _ => 0)) (fun I_16 => (stI (va_up L_7 z_7 (fun _ => 0)) (fun L_16 => (stI (va_up R_9 z_7 (fun _ => none)) (fun R_16 => (if a0 < z_16 ∧ (kd_16 a0).1 = 12 then (stI (u2 R_16 a0 3 (some z_7)) (fun R_18 => (adk 1 3140 (stI (z_16 + 1) (fun z_25 => (stI (va_up kd_16 z_16 (13, 3140)) (fun kd_25 => (stI (va_up I_16 z_16 (fun _ => 0)) (fun I_25 => (stI (va_up L_16 z_16 (fun _ => 0)) (fun L_25 => (stI (va_up R_18 z_16 (fun _ => none)) (fun R_25 => (if a0 < z_25 ∧ (kd_25 a0).1 = 12 then (stI (u2 R_25 a0 4 (some z_16)) (fun R_27 => (adk 1 2 (stI (z_25 + 1) (fun z_32 => (stI (va_up kd_25 z_25 (15, 2)) (fun kd_32 => (stI (va_up I_25 z_25 (fun _ => 0)) (fun I_32 => (stI (va_up L_25 z_25 (fun _ => 0)) (fun L_32 => (stI (va_up R_27 z_25 (fun _ => none)) (fun R_32 => (if a0 < z_32 ∧ (kd_32 a0).1 = 12 then (stI (u2 R_32 a0 5 (some z_25)) (fun R_34 => (adk 1 400 (stI (z_32 + 1) (fun z_41 => (stI (va_up kd_32 z_32 (13, 400)) (fun kd_41 => (stI (va_up I_32 z_32 (fun _ => 0)) (fun I_41 => (stI (va_up L_32 z_32 (fun _ => 0)) (fun L_41 => (stI (va_up R_34 z_32 (fun _ => none)) (fun R_41 => (if a0 < z_41 ∧ (kd_41 a0).1 = 12 then (stI (u2 R_41 a0 6 (some z_32)) (fun R_43 => (if a0 < z_41 ∧ (kd_41 a0).1 = 12 then (stI (u2 I_41 a0 12 (-1 : Int32)) (fun I_48 => (adk 1 192 (stI (z_41 + 1) (fun z_55 => (stI (va_up kd_41 z_41 (13, 192)) (fun kd_55 => (stI (va_up I_48 z_41 (fun _ => 0)) (fun I_55 => (stI (va_up L_41 z_41 (fun _ => 0)) (fun L_55 => (stI (va_up R_43 z_41 (fun _ => none)) (fun R_55 => (if a0 < z_55 ∧ (kd_55 a0).1 = 12 then (stI (u2 R_55 a0 15 (some z_41)) (fun R_57 => (adk 1 400 (stI (z_55 + 1) (fun z_64 => (stI (va_up kd_55 z_55 (13, 400)) (fun kd_64 => (stI (va_up I_55 z_55 (fun _ => 0)) (fun I_64 => (stI (va_up L_55 z_55 (fun _ => 0)) (fun L_64 => (stI (va_up R_57 z_55 (fun _ => none)) (fun R_64 => (if a0 < z_64 ∧ (kd_64 a0).1 = 12 then (stI (u2 R_64 a0 17 (some z_55)) (fun R_66 => (adk 1 400 (stI (z_64 + 1) (fun z_73 => (stI (va_up kd_64 z_64 (13, 400)) (fun kd_73 => (stI (va_up I_64 z_64 (fun _ => 0)) (fun I_73 => (stI (va_up L_64 z_64 (fun _ => 0)) (fun L_73 => (stI (va_up R_66 z_64 (fun _ => none)) (fun R_73 => (if a0 < z_73 ∧ (kd_73 a0).1 = 12 then (stI (u2 R_73 a0 18 (some z_64)) (fun R_75 => (adk 1 400 (stI (z_73 + 1) (fun z_82 => (stI (va_up kd_73 z_73 (13, 400)) (fun kd_82 => (stI (va_up I_73 z_73 (fun _ => 0)) (fun I_82 => (stI (va_up L_73 z_73 (fun _ => 0)) (fun L_82 => (stI (va_up R_75 z_73 (fun _ => none)) (fun R_82 => (if a0 < z_82 ∧ (kd_82 a0).1 = 12 then (stI (u2 R_82 a0 20 (some z_73)) (fun R_84 => (adk 1 400 (stI (z_82 + 1) (fun z_91 => (stI (va_up kd_82 z_82 (13, 400)) (fun kd_91 => (stI (va_up I_82 z_82 (fun _ => 0)) (fun I_91 => (stI (va_up L_82 z_82 (fun _ => 0)) (fun L_91 => (stI (va_up R_84 z_82 (fun _ => none)) (fun R_91 => (if a0 < z_91 ∧ (kd_91 a0).1 = 12 then (stI (u2 R_91 a0 21 (some z_82)) (fun R_93 => (adk 1 5 (stI (z_91 + 1) (fun z_98 => (stI (va_up kd_91 z_91 (14, 5)) (fun kd_98 => (stI (va_up I_91 z_91 (fun _ => 0)) (fun I_98 => (stI (va_up L_91 z_91 (fun _ => 0)) (fun L_98 => (stI (va_up R_93 z_91 (fun _ => none)) (fun R_98 => (if (z_91 < z_98 ∧ (kd_98 z_91).1 = 14 ∧ (kd_98 z_91).2 < 2 ^ 31) ∧ 0 ≤ (0 : Int32) ∧ 0 < (kd_98 z_91).2 then (stI (u2 L_98 z_91 0 (3540595 : Int64)) (fun L_105 => (if (z_91 < z_98 ∧ (kd_98 z_91).1 = 14 ∧ (kd_98 z_91).2 < 2 ^ 31) ∧ 0 ≤ (1 : Int32) ∧ 1 < (kd_98 z_91).2 then (stI (u2 L_105 z_91 1 (525908 : Int64)) (fun L_111 => (if (z_91 < z_98 ∧ (kd_98 z_91).1 = 14 ∧ (kd_98 z_91).2 < 2 ^ 31) ∧ 0 ≤ (2 : Int32) ∧ 2 < (kd_98 z_91).2 then (stI (u2 L_111 z_91 2 (23609 : Int64)) (fun L_117 => (if (z_91 < z_98 ∧ (kd_98 z_91).1 = 14 ∧ (kd_98 z_91).2 < 2 ^ 31) ∧ 0 ≤ (3 : Int32) ∧ 3 < (kd_98 z_91).2 then (stI (u2 L_117 z_91 3 (4153 : Int64)) (fun L_123 => (if (z_91 < z_98 ∧ (kd_98 z_91).1 = 14 ∧ (kd_98 z_91).2 < 2 ^ 31) ∧ 0 ≤ (4 : Int32) ∧ 4 < (kd_98 z_91).2 then (stI (u2 L_123 z_91 4 (777297172 : Int64)) (fun L_129 => (if a0 < z_98 ∧ (kd_98 a0).1 = 12 then (stI (u2 R_98 a0 24 (some z_91)) (fun R_130 => (adk 1 176 (stI (z_98 + 1) (fun z_137 => (stI (va_up kd_98 z_98 (13, 176)) (fun kd_137 => (stI (va_up I_98 z_98 (fun _ => 0)) (fun I_137 => (stI (va_up L_129 z_98 (fun _ => 0)) (fun L_137 => (stI (va_up R_130 z_98 (fun _ => none)) (fun R_137 => (if a0 < z_137 ∧ (kd_137 a0).1 = 12 then (stI (u2 R_137 a0 25 (some z_98)) (fun R_139 => (adk 1 13 (stI (z_137 + 1) (fun z_145 => (stI (va_up kd_137 z_137 (14, 13)) (fun kd_145 => (stI (va_up I_137 z_137 (fun _ => 0)) (fun I_145 => (stI (va_up L_137 z_137 (fun _ => 0)) (fun L_145 => (stI (va_up R_139 z_137 (fun _ => none)) (fun R_145 => (if a0 < z_145 ∧ (kd_145 a0).1 = 12 then (stI (u2 R_145 a0 27 (some z_137)) (fun R_147 => (adk 1 400 (stI (z_145 + 1) (fun z_154 => (stI (va_up kd_145 z_145 (14, 400)) (fun kd_154 => (stI (va_up I_145 z_145 (fun _ => 0)) (fun I_154 => (stI (va_up L_145 z_145 (fun _ => 0)) (fun L_154 => (stI (va_up R_147 z_145 (fun _ => none)) (fun R_154 => (if a0 < z_154 ∧ (kd_154 a0).1 = 12 then (stI (u2 R_154 a0 28 (some z_145)) (fun R_156 => (adk 1 3 (stI (z_154 + 1) (fun z_161 => (stI (va_up kd_154 z_154 (13, 3)) (fun kd_161 => (stI (va_up I_154 z_154 (fun _ => 0)) (fun I_161 => (stI (va_up L_154 z_154 (fun _ => 0)) (fun L_161 => (stI (va_up R_156 z_154 (fun _ => none)) (fun R_161 => (if a0 < z_161 ∧ (kd_161 a0).1 = 12 then (stI (u2 R_161 a0 33 (some z_154)) (fun R_163 => (adk 1 1920 (stI (z_161 + 1) (fun z_170 => (stI (va_up kd_161 z_161 (13, 1920)) (fun kd_170 => (stI (va_up I_161 z_161 (fun _ => 0)) (fun I_170 => (stI (va_up L_161 z_161 (fun _ => 0)) (fun L_170 => (stI (va_up R_163 z_161 (fun _ => none)) (fun R_170 => (if a0 < z_170 ∧ (kd_170 a0).1 = 12 then (stI (u2 R_170 a0 34 (some z_161)) (fun R_172 => (adk 1 1920 (stI (z_170 + 1) (fun z_179 => (stI (va_up kd_170 z_170 (13, 1920)) (fun kd_179 => (stI (va_up I_170 z_170 (fun _ => 0)) (fun I_179 => (stI (va_up L_170 z_170 (fun _ => 0)) (fun L_179 => (stI (va_up R_172 z_170 (fun _ => none)) (fun R_179 => (if a0 < z_179 ∧ (kd_179 a0).1 = 12 then (stI (u2 R_179 a0 35 (some z_170)) (fun R_181 => (adk 1 10 (stI (z_179 + 1) (fun z_187 => (stI (va_up kd_179 z_179 (13, 10)) (fun kd_187 => (stI (va_up I_179 z_179 (fun _ => 0)) (fun I_187 => (stI (va_up L_179 z_179 (fun _ => 0)) (fun L_187 => (stI (va_up R_181 z_179 (fun _ => none)) (fun R_187 => (if a0 < z_187 ∧ (kd_187 a0).1 = 12 then (stI (u2 R_187 a0 36 (some z_179)) (fun R_189 => (adk 1 110 (stI (z_187 + 1) (fun z_195 => (stI (va_up kd_187 z_187 (13, 110)) (fun kd_195 => (stI (va_up I_187 z_187 (fun _ => 0)) (fun I_195 => (stI (va_up L_187 z_187 (fun _ => 0)) (fun L_195 => (stI (va_up R_189 z_187 (fun _ => none)) (fun R_195 => (if a0 < z_195 ∧ (kd_195 a0).1 = 12 then (stI (u2 R_195 a0 37 (some z_187)) (fun R_197 => (adk 1 48 (stI (z_195 + 1) (fun z_203 => (stI (va_up kd_195 z_195 (15, 48)) (fun kd_203 => (stI (va_up I_195 z_195 (fun _ => 0)) (fun I_203 => (stI (va_up L_195 z_195 (fun _ => 0)) (fun L_203 => (stI (va_up R_197 z_195 (fun _ => none)) (fun R_203 => (if a0 < z_203 ∧ (kd_203 a0).1 = 12 then (stI (u2 R_203 a0 38 (some z_195)) (fun R_205 => (adk 1 8 (stI (z_203 + 1) (fun z_211 => (stI (va_up kd_203 z_203 (13, 8)) (fun kd_211 => (stI (va_up I_203 z_203 (fun _ => 0)) (fun I_211 => (stI (va_up L_203 z_203 (fun _ => 0)) (fun L_211 => (stI (va_up R_205 z_203 (fun _ => none)) (fun R_211 => (if a0 < z_211 ∧ (kd_211 a0).1 = 12 then (stI (u2 R_211 a0 39 (some z_203)) (fun R_213 => (adk 1 10 (stI (z_211 + 1) (fun z_219 => (stI (va_up kd_211 z_211 (13, 10)) (fun kd_219 => (stI (va_up I_211 z_211 (fun _ => 0)) (fun I_219 => (stI (va_up L_211 z_211 (fun _ => 0)) (fun L_219 => (stI (va_up R_213 z_211 (fun _ => none)) (fun R_219 => (if a0 < z_219 ∧ (kd_219 a0).1 = 12 then (stI (u2 R_219 a0 41 (some z_211)) (fun R_221 => (adk 1 5 (stI (z_219 + 1) (fun z_226 => (stI (va_up kd_219 z_219 (13, 5)) (fun kd_226 => (stI (va_up I_219 z_219 (fun _ => 0)) (fun I_226 => (stI (va_up L_219 z_219 (fun _ => 0)) (fun L_226 => (stI (va_up R_221 z_219 (fun _ => none)) (fun R_226 => (if a0 < z_226 ∧ (kd_226 a0).1 = 12 then (stI (u2 R_226 a0 42 (some z_219)) (fun R_228 => (adk 1 531441 (stI (z_226 + 1) (fun z_234 => (stI (va_up kd_226 z_226 (13, 531441)) (fun kd_234 => (stI (va_up I_226 z_226 (fun _ => 0)) (fun I_234 => (stI (va_up L_226 z_226 (fun _ => 0)) (fun L_234 => (stI (va_up R_228 z_226 (fun _ => none)) (fun R_234 => (if a0 < z_234 ∧ (kd_234 a0).1 = 12 then (stI (u2 R_234 a0 45 (some z_226)) (fun R_236 => (adk 1 531441 (stI (z_234 + 1) (fun z_242 => (stI (va_up kd_234 z_234 (13, 531441)) (fun kd_242 => (stI (va_up I_234 z_234 (fun _ => 0)) (fun I_242 => (stI (va_up L_234 z_234 (fun _ => 0)) (fun L_242 => (stI (va_up R_236 z_234 (fun _ => none)) (fun R_242 => (if a0 < z_242 ∧ (kd_242 a0).1 = 12 then (stI (u2 R_242 a0 46 (some z_234)) (fun R_244 => (adk 1 531441 (stI (z_242 + 1) (fun z_250 => (stI (va_up kd_242 z_242 (15, 531441)) (fun kd_250 => (stI (va_up I_242 z_242 (fun _ => 0)) (fun I_250 => (stI (va_up L_242 z_242 (fun _ => 0)) (fun L_250 => (stI (va_up R_244 z_242 (fun _ => none)) (fun R_250 => (if a0 < z_250 ∧ (kd_250 a0).1 = 12 then (stI (u2 R_250 a0 47 (some z_242)) (fun R_252 => (adk 1 8 (stI (z_250 + 1) (fun z_258 => (stI (va_up kd_250 z_250 (13, 8)) (fun kd_258 => (stI (va_up I_250 z_250 (fun _ => 0)) (fun I_258 => (stI (va_up L_250 z_250 (fun _ => 0)) (fun L_258 => (stI (va_up R_252 z_250 (fun _ => none)) (fun R_258 => (if a0 < z_258 ∧ (kd_258 a0).1 = 12 then (stI (u2 R_258 a0 49 (some z_250)) (fun R_260 => (adk 1 5 (stI (z_258 + 1) (fun z_265 => (stI (va_up kd_258 z_258 (13, 5)) (fun kd_265 => (stI (va_up I_258 z_258 (fun _ => 0)) (fun I_265 => (stI (va_up L_258 z_258 (fun _ => 0)) (fun L_265 => (stI (va_up R_260 z_258 (fun _ => none)) (fun R_265 => (if a0 < z_265 ∧ (kd_265 a0).1 = 12 then (stI (u2 R_265 a0 50 (some z_258)) (fun R_267 => (adk 1 8 (stI (z_265 + 1) (fun z_273 => (stI (va_up kd_265 z_265 (13, 8)) (fun kd_273 => (stI (va_up I_265 z_265 (fun _ => 0)) (fun I_273 => (stI (va_up L_265 z_265 (fun _ => 0)) (fun L_273 => (stI (va_up R_267 z_265 (fun _ => none)) (fun R_273 => (if a0 < z_273 ∧ (kd_273 a0).1 = 12 then (stI (u2 R_273 a0 55 (some z_265)) (fun R_275 => (adk 1 10 (stI (z_273 + 1) (fun z_281 => (stI (va_up kd_273 z_273 (13, 10)) (fun kd_281 => (stI (va_up I_273 z_273 (fun _ => 0)) (fun I_281 => (stI (va_up L_273 z_273 (fun _ => 0)) (fun L_281 => (stI (va_up R_275 z_273 (fun _ => none)) (fun R_281 => (if a0 < z_281 ∧ (kd_281 a0).1 = 12 then (stI (u2 R_281 a0 56 (some z_273)) (fun R_283 => (adk 1 16 (stI (z_281 + 1) (fun z_289 => (stI (va_up kd_281 z_281 (13, 16)) (fun kd_289 => (stI (va_up I_281 z_281 (fun _ => 0)) (fun I_289 => (stI (va_up L_281 z_281 (fun _ => 0)) (fun L_289 => (stI (va_up R_283 z_281 (fun _ => none)) (fun R_289 => (if a0 < z_289 ∧ (kd_289 a0).1 = 12 then (stI (u2 R_289 a0 57 (some z_281)) (fun R_291 => (adk 1 16 (stI (z_289 + 1) (fun z_297 => (stI (va_up kd_289 z_289 (13, 16)) (fun kd_297 => (stI (va_up I_289 z_289 (fun _ => 0)) (fun I_297 => (stI (va_up L_289 z_289 (fun _ => 0)) (fun L_297 => (stI (va_up R_291 z_289 (fun _ => none)) (fun R_297 => (if a0 < z_297 ∧ (kd_297 a0).1 = 12 then (stI (u2 R_297 a0 58 (some z_289)) (fun R_299 => (adk 1 16 (stI (z_297 + 1) (fun z_305 => (stI (va_up kd_297 z_297 (15, 16)) (fun kd_305 => (stI (va_up I_297 z_297 (fun _ => 0)) (fun I_305 => (stI (va_up L_297 z_297 (fun _ => 0)) (fun L_305 => (stI (va_up R_299 z_297 (fun _ => none)) (fun R_305 => (if a0 < z_305 ∧ (kd_305 a0).1 = 12 then (stI (u2 R_305 a0 59 (some z_297)) (fun R_307 => (adk 1 4 (stI (z_305 + 1) (fun z_312 => (stI (va_up kd_305 z_305 (13, 4)) (fun kd_312 => (stI (va_up I_305 z_305 (fun _ => 0)) (fun I_312 => (stI (va_up L_305 z_305 (fun _ => 0)) (fun L_312 => (stI (va_up R_307 z_305 (fun _ => none)) (fun R_312 => (if a0 < z_312 ∧ (kd_312 a0).1 = 12 then (stI (u2 R_312 a0 61 (some z_305)) (fun R_314 => (adk 1 16 (stI (z_312 + 1) (fun z_320 => (stI (va_up kd_312 z_312 (13, 16)) (fun kd_320 => (stI (va_up I_312 z_312 (fun _ => 0)) (fun I_320 => (stI (va_up L_312 z_312 (fun _ => 0)) (fun L_320 => (stI (va_up R_314 z_312 (fun _ => none)) (fun R_320 => (if a0 < z_320 ∧ (kd_320 a0).1 = 12 then (stI (u2 R_320 a0 62 (some z_312)) (fun R_322 => (adk 1 16 (stI (z_320 + 1) (fun z_328 => (stI (va_up kd_320 z_320 (13, 16)) (fun kd_328 => (stI (va_up I_320 z_320 (fun _ => 0)) (fun I_328 => (stI (va_up L_320 z_320 (fun _ => 0)) (fun L_328 => (stI (va_up R_322 z_320 (fun _ => none)) (fun R_328 => (if a0 < z_328 ∧ (kd_328 a0).1 = 12 then (stI (u2 R_328 a0 64 (some z_320)) (fun R_330 => (adk 1 15 (stI (z_328 + 1) (fun z_336 => (stI (va_up kd_328 z_328 (13, 15)) (fun kd_336 => (stI (va_up I_328 z_328 (fun _ => 0)) (fun I_336 => (stI (va_up L_328 z_328 (fun _ => 0)) (fun L_336 => (stI (va_up R_330 z_328 (fun _ => none)) (fun R_336 => (if a0 < z_336 ∧ (kd_336 a0).1 = 12 then (stI (u2 R_336 a0 65 (some z_328)) (fun R_338 => (adk 1 15 (stI (z_336 + 1) (fun z_344 => (stI (va_up kd_336 z_336 (13, 15)) (fun kd_344 => (stI (va_up I_336 z_336 (fun _ => 0)) (fun I_344 => (stI (va_up L_336 z_336 (fun _ => 0)) (fun L_344 => (stI (va_up R_338 z_336 (fun _ => none)) (fun R_344 => (if a0 < z_344 ∧ (kd_344 a0).1 = 12 then (stI (u2 R_344 a0 66 (some z_336)) (fun R_346 => (if a0 < z_344 ∧ (kd_344 a0).1 = 12 then ((R_346 a0 3).bind (fun b_350 => (if (b_350 < z_344 ∧ (kd_344 b_350).1 = 13 ∧ (kd_344 b_350).2 < 2 ^ 31) ∧ 0 ≤ (5 : Int32) ∧ 5 < (kd_344 b_350).2 then (stI (u2 I_344 b_350 5 (5 : Int32)) (fun I_355 => (some ((z_344, kd_344, I_355, L_344, R_346), 0, 0)))) else none))) else none))) else none)))))))))))))) else none)))))))))))))) else none)))))))))))))) else none)))))))))))))) else none)))))))))))))) else none)))))))))))))) else none)))))))))))))) else none)))))))))))))) else none)))))))))))))) else none)))))))))))))) else none)))))))))))))) else none)))))))))))))) else none)))))))))))))) else none)))))))))))))) else none)))))))))))))) else none)))))))))))))) else none)))))))))))))) else none)))))))))))))) else none)))))))))))))) else none)))))))))))))) else none)))))))))))))) else none)))))))))))))) else none)))))))))))))) else none)))))))))))))) else none)))))))))))))) else none)))))))))))))) else none)))))))))))))) else none))) else none))) else none))) else none))) else none))) else none)))))))))))))) else none)))))))))))))) else none)))))))))))))) else none)))))))))))))) else none)))))))))))))) else none)))))))))))))) else none))) else none)))))))))))))) else none)))))))))))))) else none)))))))))))))) else none)))))))))))))) else none)))))))))))) else none) := by rw [g_191.eq_2, if_pos (show (0 : Nat) = 0 from rfl)]
set_option maxHeartbeats 8000000 in
set_option maxRecDepth 100000 in
theorem w_191 (X : GX) : ∀ (n dp d : Nat), dp ≤ d → ∀ (z : Nat) (kd : (Nat → Nat × Nat)) (I : (Nat → Nat → Int32)) (L : (Nat → Nat → Int64)) (R : (Nat → Nat → Option Nat)), ∀ (a0 : Nat) (z1 : Nat) (kd1 : (Nat → Nat × Nat)) (I1 : (Nat → Nat → Int32)) (L1 : (Nat → Nat → Int64)) (R1 : (Nat → Nat → Option Nat)) (k1 m1 : Nat), (g_191 n dp 0 z kd I L R a0 = some ((z1, kd1, I1, L1, R1), k1, m1) → ∀ MC MS k m : Nat, k + k1 ≤ MC → m + m1 ≤ MS → K X d 191 MC MS (AV (fun τ => τ = (z1, kd1, I1, L1, R1))) 0 [some (.ref a0)] [] (z, kd, I, L, R) k m) := by
  intro n
  induction n with
  | zero => intro dp d hdp z kd I L R  a0 z1 kd1 I1 L1 R1 k1 m1; exact fun h => by cases h
  | succ n ih =>
    intro dp d hdp z kd I L R  a0 z1 kd1 I1 L1 R1 k1 m1
    · intro h MC MS k m hMC hMS
      rw [e_191_0] at h
      refine K_of b_191_0 h_191_0 ?_
      refine q_aload rfl ?_
      obtain ⟨d_1, h⟩ := ite_some h
      refine q_obj (Nat.le_of_ble_eq_true rfl) (Nat.le_trans d_1 hdp) ?_
      refine q_aload rfl ?_
      refine q_iconst (7) (by decide) ?_
      obtain ⟨mk_7, ms_7, h, ek_7, em_7⟩ := adk_some h
      refine q_newa (m0 := 7) (by decide) (by decide) (by decide) (by decide) (by omega) (by omega) ?_
      obtain ⟨z_7, nz_7, h⟩ := stI_some h
      obtain ⟨kd_7, nkd_7, h⟩ := stI_some h
      obtain ⟨I_7, nI_7, h⟩ := stI_some h
      obtain ⟨L_7, nL_7, h⟩ := stI_some h
      obtain ⟨R_7, nR_7, h⟩ := stI_some h
      refine q_n5 nz_7 nkd_7 nI_7 nL_7 nR_7 ?_
      obtain ⟨⟨z_9, k_9⟩, h⟩ := ite_some h
      refine q_putR (c0 := 12) (j := 2) rfl rfl z_9 (fst_eq k_9) rfl ?_
      obtain ⟨R_9, nR_9, h⟩ := stI_some h
      refine q_nR nR_9 ?_
      refine q_aload rfl ?_
      refine q_iconst (1570) (by decide) ?_
      obtain ⟨mk_16, ms_16, h, ek_16, em_16⟩ := adk_some h
      refine q_newa (m0 := 1570) (by decide) (by decide) (by decide) (by decide) (by omega) (by omega) ?_
      obtain ⟨z_16, nz_16, h⟩ := stI_some h
      obtain ⟨kd_16, nkd_16, h⟩ := stI_some h
      obtain ⟨I_16, nI_16, h⟩ := stI_some h
      obtain ⟨L_16, nL_16, h⟩ := stI_some h
      obtain ⟨R_16, nR_16, h⟩ := stI_some h
      refine q_n5 nz_16 nkd_16 nI_16 nL_16 nR_16 ?_
      obtain ⟨⟨z_18, k_18⟩, h⟩ := ite_some h
      refine q_putR (c0 := 12) (j := 3) rfl rfl z_18 (fst_eq k_18) rfl ?_
      obtain ⟨R_18, nR_18, h⟩ := stI_some h
      refine q_nR nR_18 ?_
      refine q_aload rfl ?_
      refine q_iconst (3140) (by decide) ?_
      obtain ⟨mk_25, ms_25, h, ek_25, em_25⟩ := adk_some h
      refine q_newa (m0 := 3140) (by decide) (by decide) (by decide) (by decide) (by omega) (by omega) ?_
      obtain ⟨z_25, nz_25, h⟩ := stI_some h
      obtain ⟨kd_25, nkd_25, h⟩ := stI_some h
      obtain ⟨I_25, nI_25, h⟩ := stI_some h
      obtain ⟨L_25, nL_25, h⟩ := stI_some h
      obtain ⟨R_25, nR_25, h⟩ := stI_some h
      refine q_n5 nz_25 nkd_25 nI_25 nL_25 nR_25 ?_
      obtain ⟨⟨z_27, k_27⟩, h⟩ := ite_some h
      refine q_putR (c0 := 12) (j := 4) rfl rfl z_27 (fst_eq k_27) rfl ?_
      obtain ⟨R_27, nR_27, h⟩ := stI_some h
      refine q_nR nR_27 ?_
      refine q_aload rfl ?_
      refine q_iconst (2) (by decide) ?_
      obtain ⟨mk_32, ms_32, h, ek_32, em_32⟩ := adk_some h
      refine q_newa (m0 := 2) (by decide) (by decide) (by decide) (by decide) (by omega) (by omega) ?_
      obtain ⟨z_32, nz_32, h⟩ := stI_some h
      obtain ⟨kd_32, nkd_32, h⟩ := stI_some h
      obtain ⟨I_32, nI_32, h⟩ := stI_some h
      obtain ⟨L_32, nL_32, h⟩ := stI_some h
      obtain ⟨R_32, nR_32, h⟩ := stI_some h
      refine q_n5 nz_32 nkd_32 nI_32 nL_32 nR_32 ?_
      obtain ⟨⟨z_34, k_34⟩, h⟩ := ite_some h
      refine q_putR (c0 := 12) (j := 5) rfl rfl z_34 (fst_eq k_34) rfl ?_
      obtain ⟨R_34, nR_34, h⟩ := stI_some h
      refine q_nR nR_34 ?_
      refine q_aload rfl ?_
      refine q_iconst (400) (by decide) ?_
      obtain ⟨mk_41, ms_41, h, ek_41, em_41⟩ := adk_some h
      refine q_newa (m0 := 400) (by decide) (by decide) (by decide) (by decide) (by omega) (by omega) ?_
      obtain ⟨z_41, nz_41, h⟩ := stI_some h
      obtain ⟨kd_41, nkd_41, h⟩ := stI_some h
      obtain ⟨I_41, nI_41, h⟩ := stI_some h
      obtain ⟨L_41, nL_41, h⟩ := stI_some h
      obtain ⟨R_41, nR_41, h⟩ := stI_some h
      refine q_n5 nz_41 nkd_41 nI_41 nL_41 nR_41 ?_
      obtain ⟨⟨z_43, k_43⟩, h⟩ := ite_some h
      refine q_putR (c0 := 12) (j := 6) rfl rfl z_43 (fst_eq k_43) rfl ?_
      obtain ⟨R_43, nR_43, h⟩ := stI_some h
      refine q_nR nR_43 ?_
      refine q_aload rfl ?_
      refine q_iconst (-1) (by decide) ?_
      obtain ⟨⟨z_48, k_48⟩, h⟩ := ite_some h
      refine q_putI (c0 := 12) (j := 12) rfl rfl z_48 (fst_eq k_48) rfl ?_
      obtain ⟨I_48, nI_48, h⟩ := stI_some h
      refine q_nI nI_48 ?_
      refine q_aload rfl ?_
      refine q_iconst (192) (by decide) ?_
      obtain ⟨mk_55, ms_55, h, ek_55, em_55⟩ := adk_some h
      refine q_newa (m0 := 192) (by decide) (by decide) (by decide) (by decide) (by omega) (by omega) ?_
      obtain ⟨z_55, nz_55, h⟩ := stI_some h
      obtain ⟨kd_55, nkd_55, h⟩ := stI_some h
      obtain ⟨I_55, nI_55, h⟩ := stI_some h
      obtain ⟨L_55, nL_55, h⟩ := stI_some h
      obtain ⟨R_55, nR_55, h⟩ := stI_some h
      refine q_n5 nz_55 nkd_55 nI_55 nL_55 nR_55 ?_
      obtain ⟨⟨z_57, k_57⟩, h⟩ := ite_some h
      refine q_putR (c0 := 12) (j := 15) rfl rfl z_57 (fst_eq k_57) rfl ?_
      obtain ⟨R_57, nR_57, h⟩ := stI_some h
      refine q_nR nR_57 ?_
      refine q_aload rfl ?_
      refine q_iconst (400) (by decide) ?_
      obtain ⟨mk_64, ms_64, h, ek_64, em_64⟩ := adk_some h
      refine q_newa (m0 := 400) (by decide) (by decide) (by decide) (by decide) (by omega) (by omega) ?_
      obtain ⟨z_64, nz_64, h⟩ := stI_some h
      obtain ⟨kd_64, nkd_64, h⟩ := stI_some h
      obtain ⟨I_64, nI_64, h⟩ := stI_some h
      obtain ⟨L_64, nL_64, h⟩ := stI_some h
      obtain ⟨R_64, nR_64, h⟩ := stI_some h
      refine q_n5 nz_64 nkd_64 nI_64 nL_64 nR_64 ?_
      obtain ⟨⟨z_66, k_66⟩, h⟩ := ite_some h
      refine q_putR (c0 := 12) (j := 17) rfl rfl z_66 (fst_eq k_66) rfl ?_
      obtain ⟨R_66, nR_66, h⟩ := stI_some h
      refine q_nR nR_66 ?_
      refine q_aload rfl ?_
      refine q_iconst (400) (by decide) ?_
      obtain ⟨mk_73, ms_73, h, ek_73, em_73⟩ := adk_some h
      refine q_newa (m0 := 400) (by decide) (by decide) (by decide) (by decide) (by omega) (by omega) ?_
      obtain ⟨z_73, nz_73, h⟩ := stI_some h
      obtain ⟨kd_73, nkd_73, h⟩ := stI_some h
      obtain ⟨I_73, nI_73, h⟩ := stI_some h
      obtain ⟨L_73, nL_73, h⟩ := stI_some h
      obtain ⟨R_73, nR_73, h⟩ := stI_some h
      refine q_n5 nz_73 nkd_73 nI_73 nL_73 nR_73 ?_
      obtain ⟨⟨z_75, k_75⟩, h⟩ := ite_some h
      refine q_putR (c0 := 12) (j := 18) rfl rfl z_75 (fst_eq k_75) rfl ?_
      obtain ⟨R_75, nR_75, h⟩ := stI_some h
      refine q_nR nR_75 ?_
      refine q_aload rfl ?_
      refine q_iconst (400) (by decide) ?_
      obtain ⟨mk_82, ms_82, h, ek_82, em_82⟩ := adk_some h
      refine q_newa (m0 := 400) (by decide) (by decide) (by decide) (by decide) (by omega) (by omega) ?_
      obtain ⟨z_82, nz_82, h⟩ := stI_some h
      obtain ⟨kd_82, nkd_82, h⟩ := stI_some h
      obtain ⟨I_82, nI_82, h⟩ := stI_some h
      obtain ⟨L_82, nL_82, h⟩ := stI_some h
      obtain ⟨R_82, nR_82, h⟩ := stI_some h
      refine q_n5 nz_82 nkd_82 nI_82 nL_82 nR_82 ?_
      obtain ⟨⟨z_84, k_84⟩, h⟩ := ite_some h
      refine q_putR (c0 := 12) (j := 20) rfl rfl z_84 (fst_eq k_84) rfl ?_
      obtain ⟨R_84, nR_84, h⟩ := stI_some h
      refine q_nR nR_84 ?_
      refine q_aload rfl ?_
      refine q_iconst (400) (by decide) ?_
      obtain ⟨mk_91, ms_91, h, ek_91, em_91⟩ := adk_some h
      refine q_newa (m0 := 400) (by decide) (by decide) (by decide) (by decide) (by omega) (by omega) ?_
      obtain ⟨z_91, nz_91, h⟩ := stI_some h
      obtain ⟨kd_91, nkd_91, h⟩ := stI_some h
      obtain ⟨I_91, nI_91, h⟩ := stI_some h
      obtain ⟨L_91, nL_91, h⟩ := stI_some h
      obtain ⟨R_91, nR_91, h⟩ := stI_some h
      refine q_n5 nz_91 nkd_91 nI_91 nL_91 nR_91 ?_
      obtain ⟨⟨z_93, k_93⟩, h⟩ := ite_some h
      refine q_putR (c0 := 12) (j := 21) rfl rfl z_93 (fst_eq k_93) rfl ?_
      obtain ⟨R_93, nR_93, h⟩ := stI_some h
      refine q_nR nR_93 ?_
      refine q_aload rfl ?_
      refine q_iconst (5) (by decide) ?_
      obtain ⟨mk_98, ms_98, h, ek_98, em_98⟩ := adk_some h
      refine q_newa (m0 := 5) (by decide) (by decide) (by decide) (by decide) (by omega) (by omega) ?_
      obtain ⟨z_98, nz_98, h⟩ := stI_some h
      obtain ⟨kd_98, nkd_98, h⟩ := stI_some h
      obtain ⟨I_98, nI_98, h⟩ := stI_some h
      obtain ⟨L_98, nL_98, h⟩ := stI_some h
      obtain ⟨R_98, nR_98, h⟩ := stI_some h
      refine q_n5 nz_98 nkd_98 nI_98 nL_98 nR_98 ?_
      refine q_dup rfl ?_
      refine q_iconst (0) (by decide) ?_
      refine q_lconst (3540595) (by decide) ?_
      obtain ⟨⟨⟨z_105, k_105, m_105⟩, u_105, v_105⟩, h⟩ := ite_some h
      refine q_lasN 0 rfl z_105 (fst_eq k_105) v_105 m_105 ?_
      obtain ⟨L_105, nL_105, h⟩ := stI_some h
      refine q_nL nL_105 ?_
      refine q_dup rfl ?_
      refine q_iconst (1) (by decide) ?_
      refine q_lconst (525908) (by decide) ?_
      obtain ⟨⟨⟨z_111, k_111, m_111⟩, u_111, v_111⟩, h⟩ := ite_some h
      refine q_lasN 1 rfl z_111 (fst_eq k_111) v_111 m_111 ?_
      obtain ⟨L_111, nL_111, h⟩ := stI_some h
      refine q_nL nL_111 ?_
      refine q_dup rfl ?_
      refine q_iconst (2) (by decide) ?_
      refine q_lconst (23609) (by decide) ?_
      obtain ⟨⟨⟨z_117, k_117, m_117⟩, u_117, v_117⟩, h⟩ := ite_some h
      refine q_lasN 2 rfl z_117 (fst_eq k_117) v_117 m_117 ?_
      obtain ⟨L_117, nL_117, h⟩ := stI_some h
      refine q_nL nL_117 ?_
      refine q_dup rfl ?_
      refine q_iconst (3) (by decide) ?_
      refine q_lconst (4153) (by decide) ?_
      obtain ⟨⟨⟨z_123, k_123, m_123⟩, u_123, v_123⟩, h⟩ := ite_some h
      refine q_lasN 3 rfl z_123 (fst_eq k_123) v_123 m_123 ?_
      obtain ⟨L_123, nL_123, h⟩ := stI_some h
      refine q_nL nL_123 ?_
      refine q_dup rfl ?_
      refine q_iconst (4) (by decide) ?_
      refine q_lconst (777297172) (by decide) ?_
      obtain ⟨⟨⟨z_129, k_129, m_129⟩, u_129, v_129⟩, h⟩ := ite_some h
      refine q_lasN 4 rfl z_129 (fst_eq k_129) v_129 m_129 ?_
      obtain ⟨L_129, nL_129, h⟩ := stI_some h
      refine q_nL nL_129 ?_
      obtain ⟨⟨z_130, k_130⟩, h⟩ := ite_some h
      refine q_putR (c0 := 12) (j := 24) rfl rfl z_130 (fst_eq k_130) rfl ?_
      obtain ⟨R_130, nR_130, h⟩ := stI_some h
      refine q_nR nR_130 ?_
      refine q_aload rfl ?_
      refine q_iconst (176) (by decide) ?_
      obtain ⟨mk_137, ms_137, h, ek_137, em_137⟩ := adk_some h
      refine q_newa (m0 := 176) (by decide) (by decide) (by decide) (by decide) (by omega) (by omega) ?_
      obtain ⟨z_137, nz_137, h⟩ := stI_some h
      obtain ⟨kd_137, nkd_137, h⟩ := stI_some h
      obtain ⟨I_137, nI_137, h⟩ := stI_some h
      obtain ⟨L_137, nL_137, h⟩ := stI_some h
      obtain ⟨R_137, nR_137, h⟩ := stI_some h
      refine q_n5 nz_137 nkd_137 nI_137 nL_137 nR_137 ?_
      obtain ⟨⟨z_139, k_139⟩, h⟩ := ite_some h
      refine q_putR (c0 := 12) (j := 25) rfl rfl z_139 (fst_eq k_139) rfl ?_
      obtain ⟨R_139, nR_139, h⟩ := stI_some h
      refine q_nR nR_139 ?_
      refine q_aload rfl ?_
      refine q_iconst (13) (by decide) ?_
      obtain ⟨mk_145, ms_145, h, ek_145, em_145⟩ := adk_some h
      refine q_newa (m0 := 13) (by decide) (by decide) (by decide) (by decide) (by omega) (by omega) ?_
      obtain ⟨z_145, nz_145, h⟩ := stI_some h
      obtain ⟨kd_145, nkd_145, h⟩ := stI_some h
      obtain ⟨I_145, nI_145, h⟩ := stI_some h
      obtain ⟨L_145, nL_145, h⟩ := stI_some h
      obtain ⟨R_145, nR_145, h⟩ := stI_some h
      refine q_n5 nz_145 nkd_145 nI_145 nL_145 nR_145 ?_
      obtain ⟨⟨z_147, k_147⟩, h⟩ := ite_some h
      refine q_putR (c0 := 12) (j := 27) rfl rfl z_147 (fst_eq k_147) rfl ?_
      obtain ⟨R_147, nR_147, h⟩ := stI_some h
      refine q_nR nR_147 ?_
      refine q_aload rfl ?_
      refine q_iconst (400) (by decide) ?_
      obtain ⟨mk_154, ms_154, h, ek_154, em_154⟩ := adk_some h
      refine q_newa (m0 := 400) (by decide) (by decide) (by decide) (by decide) (by omega) (by omega) ?_
      obtain ⟨z_154, nz_154, h⟩ := stI_some h
      obtain ⟨kd_154, nkd_154, h⟩ := stI_some h
      obtain ⟨I_154, nI_154, h⟩ := stI_some h
      obtain ⟨L_154, nL_154, h⟩ := stI_some h
      obtain ⟨R_154, nR_154, h⟩ := stI_some h
      refine q_n5 nz_154 nkd_154 nI_154 nL_154 nR_154 ?_
      obtain ⟨⟨z_156, k_156⟩, h⟩ := ite_some h
      refine q_putR (c0 := 12) (j := 28) rfl rfl z_156 (fst_eq k_156) rfl ?_
      obtain ⟨R_156, nR_156, h⟩ := stI_some h
      refine q_nR nR_156 ?_
      refine q_aload rfl ?_
      refine q_iconst (3) (by decide) ?_
      obtain ⟨mk_161, ms_161, h, ek_161, em_161⟩ := adk_some h
      refine q_newa (m0 := 3) (by decide) (by decide) (by decide) (by decide) (by omega) (by omega) ?_
      obtain ⟨z_161, nz_161, h⟩ := stI_some h
      obtain ⟨kd_161, nkd_161, h⟩ := stI_some h
      obtain ⟨I_161, nI_161, h⟩ := stI_some h
      obtain ⟨L_161, nL_161, h⟩ := stI_some h
      obtain ⟨R_161, nR_161, h⟩ := stI_some h
      refine q_n5 nz_161 nkd_161 nI_161 nL_161 nR_161 ?_
      obtain ⟨⟨z_163, k_163⟩, h⟩ := ite_some h
      refine q_putR (c0 := 12) (j := 33) rfl rfl z_163 (fst_eq k_163) rfl ?_
      obtain ⟨R_163, nR_163, h⟩ := stI_some h
      refine q_nR nR_163 ?_
      refine q_aload rfl ?_
      refine q_iconst (1920) (by decide) ?_
      obtain ⟨mk_170, ms_170, h, ek_170, em_170⟩ := adk_some h
      refine q_newa (m0 := 1920) (by decide) (by decide) (by decide) (by decide) (by omega) (by omega) ?_
      obtain ⟨z_170, nz_170, h⟩ := stI_some h
      obtain ⟨kd_170, nkd_170, h⟩ := stI_some h
      obtain ⟨I_170, nI_170, h⟩ := stI_some h
      obtain ⟨L_170, nL_170, h⟩ := stI_some h
      obtain ⟨R_170, nR_170, h⟩ := stI_some h
      refine q_n5 nz_170 nkd_170 nI_170 nL_170 nR_170 ?_
      obtain ⟨⟨z_172, k_172⟩, h⟩ := ite_some h
      refine q_putR (c0 := 12) (j := 34) rfl rfl z_172 (fst_eq k_172) rfl ?_
      obtain ⟨R_172, nR_172, h⟩ := stI_some h
      refine q_nR nR_172 ?_
      refine q_aload rfl ?_
      refine q_iconst (1920) (by decide) ?_
      obtain ⟨mk_179, ms_179, h, ek_179, em_179⟩ := adk_some h
      refine q_newa (m0 := 1920) (by decide) (by decide) (by decide) (by decide) (by omega) (by omega) ?_
      obtain ⟨z_179, nz_179, h⟩ := stI_some h
      obtain ⟨kd_179, nkd_179, h⟩ := stI_some h
      obtain ⟨I_179, nI_179, h⟩ := stI_some h
      obtain ⟨L_179, nL_179, h⟩ := stI_some h
      obtain ⟨R_179, nR_179, h⟩ := stI_some h
      refine q_n5 nz_179 nkd_179 nI_179 nL_179 nR_179 ?_
      obtain ⟨⟨z_181, k_181⟩, h⟩ := ite_some h
      refine q_putR (c0 := 12) (j := 35) rfl rfl z_181 (fst_eq k_181) rfl ?_
      obtain ⟨R_181, nR_181, h⟩ := stI_some h
      refine q_nR nR_181 ?_
      refine q_aload rfl ?_
      refine q_iconst (10) (by decide) ?_
      obtain ⟨mk_187, ms_187, h, ek_187, em_187⟩ := adk_some h
      refine q_newa (m0 := 10) (by decide) (by decide) (by decide) (by decide) (by omega) (by omega) ?_
      obtain ⟨z_187, nz_187, h⟩ := stI_some h
      obtain ⟨kd_187, nkd_187, h⟩ := stI_some h
      obtain ⟨I_187, nI_187, h⟩ := stI_some h
      obtain ⟨L_187, nL_187, h⟩ := stI_some h
      obtain ⟨R_187, nR_187, h⟩ := stI_some h
      refine q_n5 nz_187 nkd_187 nI_187 nL_187 nR_187 ?_
      obtain ⟨⟨z_189, k_189⟩, h⟩ := ite_some h
      refine q_putR (c0 := 12) (j := 36) rfl rfl z_189 (fst_eq k_189) rfl ?_
      obtain ⟨R_189, nR_189, h⟩ := stI_some h
      refine q_nR nR_189 ?_
      refine q_aload rfl ?_
      refine q_iconst (110) (by decide) ?_
      obtain ⟨mk_195, ms_195, h, ek_195, em_195⟩ := adk_some h
      refine q_newa (m0 := 110) (by decide) (by decide) (by decide) (by decide) (by omega) (by omega) ?_
      obtain ⟨z_195, nz_195, h⟩ := stI_some h
      obtain ⟨kd_195, nkd_195, h⟩ := stI_some h
      obtain ⟨I_195, nI_195, h⟩ := stI_some h
      obtain ⟨L_195, nL_195, h⟩ := stI_some h
      obtain ⟨R_195, nR_195, h⟩ := stI_some h
      refine q_n5 nz_195 nkd_195 nI_195 nL_195 nR_195 ?_
      obtain ⟨⟨z_197, k_197⟩, h⟩ := ite_some h
      refine q_putR (c0 := 12) (j := 37) rfl rfl z_197 (fst_eq k_197) rfl ?_
      obtain ⟨R_197, nR_197, h⟩ := stI_some h
      refine q_nR nR_197 ?_
      refine q_aload rfl ?_
      refine q_iconst (48) (by decide) ?_
      obtain ⟨mk_203, ms_203, h, ek_203, em_203⟩ := adk_some h
      refine q_newa (m0 := 48) (by decide) (by decide) (by decide) (by decide) (by omega) (by omega) ?_
      obtain ⟨z_203, nz_203, h⟩ := stI_some h
      obtain ⟨kd_203, nkd_203, h⟩ := stI_some h
      obtain ⟨I_203, nI_203, h⟩ := stI_some h
      obtain ⟨L_203, nL_203, h⟩ := stI_some h
      obtain ⟨R_203, nR_203, h⟩ := stI_some h
      refine q_n5 nz_203 nkd_203 nI_203 nL_203 nR_203 ?_
      obtain ⟨⟨z_205, k_205⟩, h⟩ := ite_some h
      refine q_putR (c0 := 12) (j := 38) rfl rfl z_205 (fst_eq k_205) rfl ?_
      obtain ⟨R_205, nR_205, h⟩ := stI_some h
      refine q_nR nR_205 ?_
      refine q_aload rfl ?_
      refine q_iconst (8) (by decide) ?_
      obtain ⟨mk_211, ms_211, h, ek_211, em_211⟩ := adk_some h
      refine q_newa (m0 := 8) (by decide) (by decide) (by decide) (by decide) (by omega) (by omega) ?_
      obtain ⟨z_211, nz_211, h⟩ := stI_some h
      obtain ⟨kd_211, nkd_211, h⟩ := stI_some h
      obtain ⟨I_211, nI_211, h⟩ := stI_some h
      obtain ⟨L_211, nL_211, h⟩ := stI_some h
      obtain ⟨R_211, nR_211, h⟩ := stI_some h
      refine q_n5 nz_211 nkd_211 nI_211 nL_211 nR_211 ?_
      obtain ⟨⟨z_213, k_213⟩, h⟩ := ite_some h
      refine q_putR (c0 := 12) (j := 39) rfl rfl z_213 (fst_eq k_213) rfl ?_
      obtain ⟨R_213, nR_213, h⟩ := stI_some h
      refine q_nR nR_213 ?_
      refine q_aload rfl ?_
      refine q_iconst (10) (by decide) ?_
      obtain ⟨mk_219, ms_219, h, ek_219, em_219⟩ := adk_some h
      refine q_newa (m0 := 10) (by decide) (by decide) (by decide) (by decide) (by omega) (by omega) ?_
      obtain ⟨z_219, nz_219, h⟩ := stI_some h
      obtain ⟨kd_219, nkd_219, h⟩ := stI_some h
      obtain ⟨I_219, nI_219, h⟩ := stI_some h
      obtain ⟨L_219, nL_219, h⟩ := stI_some h
      obtain ⟨R_219, nR_219, h⟩ := stI_some h
      refine q_n5 nz_219 nkd_219 nI_219 nL_219 nR_219 ?_
      obtain ⟨⟨z_221, k_221⟩, h⟩ := ite_some h
      refine q_putR (c0 := 12) (j := 41) rfl rfl z_221 (fst_eq k_221) rfl ?_
      obtain ⟨R_221, nR_221, h⟩ := stI_some h
      refine q_nR nR_221 ?_
      refine q_aload rfl ?_
      refine q_iconst (5) (by decide) ?_
      obtain ⟨mk_226, ms_226, h, ek_226, em_226⟩ := adk_some h
      refine q_newa (m0 := 5) (by decide) (by decide) (by decide) (by decide) (by omega) (by omega) ?_
      obtain ⟨z_226, nz_226, h⟩ := stI_some h
      obtain ⟨kd_226, nkd_226, h⟩ := stI_some h
      obtain ⟨I_226, nI_226, h⟩ := stI_some h
      obtain ⟨L_226, nL_226, h⟩ := stI_some h
      obtain ⟨R_226, nR_226, h⟩ := stI_some h
      refine q_n5 nz_226 nkd_226 nI_226 nL_226 nR_226 ?_
      obtain ⟨⟨z_228, k_228⟩, h⟩ := ite_some h
      refine q_putR (c0 := 12) (j := 42) rfl rfl z_228 (fst_eq k_228) rfl ?_
      obtain ⟨R_228, nR_228, h⟩ := stI_some h
      refine q_nR nR_228 ?_
      refine q_aload rfl ?_
      refine q_iconst (531441) (by decide) ?_
      obtain ⟨mk_234, ms_234, h, ek_234, em_234⟩ := adk_some h
      refine q_newa (m0 := 531441) (by decide) (by decide) (by decide) (by decide) (by omega) (by omega) ?_
      obtain ⟨z_234, nz_234, h⟩ := stI_some h
      obtain ⟨kd_234, nkd_234, h⟩ := stI_some h
      obtain ⟨I_234, nI_234, h⟩ := stI_some h
      obtain ⟨L_234, nL_234, h⟩ := stI_some h
      obtain ⟨R_234, nR_234, h⟩ := stI_some h
      refine q_n5 nz_234 nkd_234 nI_234 nL_234 nR_234 ?_
      obtain ⟨⟨z_236, k_236⟩, h⟩ := ite_some h
      refine q_putR (c0 := 12) (j := 45) rfl rfl z_236 (fst_eq k_236) rfl ?_
      obtain ⟨R_236, nR_236, h⟩ := stI_some h
      refine q_nR nR_236 ?_
      refine q_aload rfl ?_
      refine q_iconst (531441) (by decide) ?_
      obtain ⟨mk_242, ms_242, h, ek_242, em_242⟩ := adk_some h
      refine q_newa (m0 := 531441) (by decide) (by decide) (by decide) (by decide) (by omega) (by omega) ?_
      obtain ⟨z_242, nz_242, h⟩ := stI_some h
      obtain ⟨kd_242, nkd_242, h⟩ := stI_some h
      obtain ⟨I_242, nI_242, h⟩ := stI_some h
      obtain ⟨L_242, nL_242, h⟩ := stI_some h
      obtain ⟨R_242, nR_242, h⟩ := stI_some h
      refine q_n5 nz_242 nkd_242 nI_242 nL_242 nR_242 ?_
      obtain ⟨⟨z_244, k_244⟩, h⟩ := ite_some h
      refine q_putR (c0 := 12) (j := 46) rfl rfl z_244 (fst_eq k_244) rfl ?_
      obtain ⟨R_244, nR_244, h⟩ := stI_some h
      refine q_nR nR_244 ?_
      refine q_aload rfl ?_
      refine q_iconst (531441) (by decide) ?_
      obtain ⟨mk_250, ms_250, h, ek_250, em_250⟩ := adk_some h
      refine q_newa (m0 := 531441) (by decide) (by decide) (by decide) (by decide) (by omega) (by omega) ?_
      obtain ⟨z_250, nz_250, h⟩ := stI_some h
      obtain ⟨kd_250, nkd_250, h⟩ := stI_some h
      obtain ⟨I_250, nI_250, h⟩ := stI_some h
      obtain ⟨L_250, nL_250, h⟩ := stI_some h
      obtain ⟨R_250, nR_250, h⟩ := stI_some h
      refine q_n5 nz_250 nkd_250 nI_250 nL_250 nR_250 ?_
      obtain ⟨⟨z_252, k_252⟩, h⟩ := ite_some h
      refine q_putR (c0 := 12) (j := 47) rfl rfl z_252 (fst_eq k_252) rfl ?_
      obtain ⟨R_252, nR_252, h⟩ := stI_some h
      refine q_nR nR_252 ?_
      refine q_aload rfl ?_
      refine q_iconst (8) (by decide) ?_
      obtain ⟨mk_258, ms_258, h, ek_258, em_258⟩ := adk_some h
      refine q_newa (m0 := 8) (by decide) (by decide) (by decide) (by decide) (by omega) (by omega) ?_
      obtain ⟨z_258, nz_258, h⟩ := stI_some h
      obtain ⟨kd_258, nkd_258, h⟩ := stI_some h
      obtain ⟨I_258, nI_258, h⟩ := stI_some h
      obtain ⟨L_258, nL_258, h⟩ := stI_some h
      obtain ⟨R_258, nR_258, h⟩ := stI_some h
      refine q_n5 nz_258 nkd_258 nI_258 nL_258 nR_258 ?_
      obtain ⟨⟨z_260, k_260⟩, h⟩ := ite_some h
      refine q_putR (c0 := 12) (j := 49) rfl rfl z_260 (fst_eq k_260) rfl ?_
      obtain ⟨R_260, nR_260, h⟩ := stI_some h
      refine q_nR nR_260 ?_
      refine q_aload rfl ?_
      refine q_iconst (5) (by decide) ?_
      obtain ⟨mk_265, ms_265, h, ek_265, em_265⟩ := adk_some h
      refine q_newa (m0 := 5) (by decide) (by decide) (by decide) (by decide) (by omega) (by omega) ?_
      obtain ⟨z_265, nz_265, h⟩ := stI_some h
      obtain ⟨kd_265, nkd_265, h⟩ := stI_some h
      obtain ⟨I_265, nI_265, h⟩ := stI_some h
      obtain ⟨L_265, nL_265, h⟩ := stI_some h
      obtain ⟨R_265, nR_265, h⟩ := stI_some h
      refine q_n5 nz_265 nkd_265 nI_265 nL_265 nR_265 ?_
      obtain ⟨⟨z_267, k_267⟩, h⟩ := ite_some h
      refine q_putR (c0 := 12) (j := 50) rfl rfl z_267 (fst_eq k_267) rfl ?_
      obtain ⟨R_267, nR_267, h⟩ := stI_some h
      refine q_nR nR_267 ?_
      refine q_aload rfl ?_
      refine q_iconst (8) (by decide) ?_
      obtain ⟨mk_273, ms_273, h, ek_273, em_273⟩ := adk_some h
      refine q_newa (m0 := 8) (by decide) (by decide) (by decide) (by decide) (by omega) (by omega) ?_
      obtain ⟨z_273, nz_273, h⟩ := stI_some h
      obtain ⟨kd_273, nkd_273, h⟩ := stI_some h
      obtain ⟨I_273, nI_273, h⟩ := stI_some h
      obtain ⟨L_273, nL_273, h⟩ := stI_some h
      obtain ⟨R_273, nR_273, h⟩ := stI_some h
      refine q_n5 nz_273 nkd_273 nI_273 nL_273 nR_273 ?_
      obtain ⟨⟨z_275, k_275⟩, h⟩ := ite_some h
      refine q_putR (c0 := 12) (j := 55) rfl rfl z_275 (fst_eq k_275) rfl ?_
      obtain ⟨R_275, nR_275, h⟩ := stI_some h
      refine q_nR nR_275 ?_
      refine q_aload rfl ?_
      refine q_iconst (10) (by decide) ?_
      obtain ⟨mk_281, ms_281, h, ek_281, em_281⟩ := adk_some h
      refine q_newa (m0 := 10) (by decide) (by decide) (by decide) (by decide) (by omega) (by omega) ?_
      obtain ⟨z_281, nz_281, h⟩ := stI_some h
      obtain ⟨kd_281, nkd_281, h⟩ := stI_some h
      obtain ⟨I_281, nI_281, h⟩ := stI_some h
      obtain ⟨L_281, nL_281, h⟩ := stI_some h
      obtain ⟨R_281, nR_281, h⟩ := stI_some h
      refine q_n5 nz_281 nkd_281 nI_281 nL_281 nR_281 ?_
      obtain ⟨⟨z_283, k_283⟩, h⟩ := ite_some h
      refine q_putR (c0 := 12) (j := 56) rfl rfl z_283 (fst_eq k_283) rfl ?_
      obtain ⟨R_283, nR_283, h⟩ := stI_some h
      refine q_nR nR_283 ?_
      refine q_aload rfl ?_
      refine q_iconst (16) (by decide) ?_
      obtain ⟨mk_289, ms_289, h, ek_289, em_289⟩ := adk_some h
      refine q_newa (m0 := 16) (by decide) (by decide) (by decide) (by decide) (by omega) (by omega) ?_
      obtain ⟨z_289, nz_289, h⟩ := stI_some h
      obtain ⟨kd_289, nkd_289, h⟩ := stI_some h
      obtain ⟨I_289, nI_289, h⟩ := stI_some h
      obtain ⟨L_289, nL_289, h⟩ := stI_some h
      obtain ⟨R_289, nR_289, h⟩ := stI_some h
      refine q_n5 nz_289 nkd_289 nI_289 nL_289 nR_289 ?_
      obtain ⟨⟨z_291, k_291⟩, h⟩ := ite_some h
      refine q_putR (c0 := 12) (j := 57) rfl rfl z_291 (fst_eq k_291) rfl ?_
      obtain ⟨R_291, nR_291, h⟩ := stI_some h
      refine q_nR nR_291 ?_
      refine q_aload rfl ?_
      refine q_iconst (16) (by decide) ?_
      obtain ⟨mk_297, ms_297, h, ek_297, em_297⟩ := adk_some h
      refine q_newa (m0 := 16) (by decide) (by decide) (by decide) (by decide) (by omega) (by omega) ?_
      obtain ⟨z_297, nz_297, h⟩ := stI_some h
      obtain ⟨kd_297, nkd_297, h⟩ := stI_some h
      obtain ⟨I_297, nI_297, h⟩ := stI_some h
      obtain ⟨L_297, nL_297, h⟩ := stI_some h
      obtain ⟨R_297, nR_297, h⟩ := stI_some h
      refine q_n5 nz_297 nkd_297 nI_297 nL_297 nR_297 ?_
      obtain ⟨⟨z_299, k_299⟩, h⟩ := ite_some h
      refine q_putR (c0 := 12) (j := 58) rfl rfl z_299 (fst_eq k_299) rfl ?_
      obtain ⟨R_299, nR_299, h⟩ := stI_some h
      refine q_nR nR_299 ?_
      refine q_aload rfl ?_
      refine q_iconst (16) (by decide) ?_
      obtain ⟨mk_305, ms_305, h, ek_305, em_305⟩ := adk_some h
      refine q_newa (m0 := 16) (by decide) (by decide) (by decide) (by decide) (by omega) (by omega) ?_
      obtain ⟨z_305, nz_305, h⟩ := stI_some h
      obtain ⟨kd_305, nkd_305, h⟩ := stI_some h
      obtain ⟨I_305, nI_305, h⟩ := stI_some h
      obtain ⟨L_305, nL_305, h⟩ := stI_some h
      obtain ⟨R_305, nR_305, h⟩ := stI_some h
      refine q_n5 nz_305 nkd_305 nI_305 nL_305 nR_305 ?_
      obtain ⟨⟨z_307, k_307⟩, h⟩ := ite_some h
      refine q_putR (c0 := 12) (j := 59) rfl rfl z_307 (fst_eq k_307) rfl ?_
      obtain ⟨R_307, nR_307, h⟩ := stI_some h
      refine q_nR nR_307 ?_
      refine q_aload rfl ?_
      refine q_iconst (4) (by decide) ?_
      obtain ⟨mk_312, ms_312, h, ek_312, em_312⟩ := adk_some h
      refine q_newa (m0 := 4) (by decide) (by decide) (by decide) (by decide) (by omega) (by omega) ?_
      obtain ⟨z_312, nz_312, h⟩ := stI_some h
      obtain ⟨kd_312, nkd_312, h⟩ := stI_some h
      obtain ⟨I_312, nI_312, h⟩ := stI_some h
      obtain ⟨L_312, nL_312, h⟩ := stI_some h
      obtain ⟨R_312, nR_312, h⟩ := stI_some h
      refine q_n5 nz_312 nkd_312 nI_312 nL_312 nR_312 ?_
      obtain ⟨⟨z_314, k_314⟩, h⟩ := ite_some h
      refine q_putR (c0 := 12) (j := 61) rfl rfl z_314 (fst_eq k_314) rfl ?_
      obtain ⟨R_314, nR_314, h⟩ := stI_some h
      refine q_nR nR_314 ?_
      refine q_aload rfl ?_
      refine q_iconst (16) (by decide) ?_
      obtain ⟨mk_320, ms_320, h, ek_320, em_320⟩ := adk_some h
      refine q_newa (m0 := 16) (by decide) (by decide) (by decide) (by decide) (by omega) (by omega) ?_
      obtain ⟨z_320, nz_320, h⟩ := stI_some h
      obtain ⟨kd_320, nkd_320, h⟩ := stI_some h
      obtain ⟨I_320, nI_320, h⟩ := stI_some h
      obtain ⟨L_320, nL_320, h⟩ := stI_some h
      obtain ⟨R_320, nR_320, h⟩ := stI_some h
      refine q_n5 nz_320 nkd_320 nI_320 nL_320 nR_320 ?_
      obtain ⟨⟨z_322, k_322⟩, h⟩ := ite_some h
      refine q_putR (c0 := 12) (j := 62) rfl rfl z_322 (fst_eq k_322) rfl ?_
      obtain ⟨R_322, nR_322, h⟩ := stI_some h
      refine q_nR nR_322 ?_
      refine q_aload rfl ?_
      refine q_iconst (16) (by decide) ?_
      obtain ⟨mk_328, ms_328, h, ek_328, em_328⟩ := adk_some h
      refine q_newa (m0 := 16) (by decide) (by decide) (by decide) (by decide) (by omega) (by omega) ?_
      obtain ⟨z_328, nz_328, h⟩ := stI_some h
      obtain ⟨kd_328, nkd_328, h⟩ := stI_some h
      obtain ⟨I_328, nI_328, h⟩ := stI_some h
      obtain ⟨L_328, nL_328, h⟩ := stI_some h
      obtain ⟨R_328, nR_328, h⟩ := stI_some h
      refine q_n5 nz_328 nkd_328 nI_328 nL_328 nR_328 ?_
      obtain ⟨⟨z_330, k_330⟩, h⟩ := ite_some h
      refine q_putR (c0 := 12) (j := 64) rfl rfl z_330 (fst_eq k_330) rfl ?_
      obtain ⟨R_330, nR_330, h⟩ := stI_some h
      refine q_nR nR_330 ?_
      refine q_aload rfl ?_
      refine q_iconst (15) (by decide) ?_
      obtain ⟨mk_336, ms_336, h, ek_336, em_336⟩ := adk_some h
      refine q_newa (m0 := 15) (by decide) (by decide) (by decide) (by decide) (by omega) (by omega) ?_
      obtain ⟨z_336, nz_336, h⟩ := stI_some h
      obtain ⟨kd_336, nkd_336, h⟩ := stI_some h
      obtain ⟨I_336, nI_336, h⟩ := stI_some h
      obtain ⟨L_336, nL_336, h⟩ := stI_some h
      obtain ⟨R_336, nR_336, h⟩ := stI_some h
      refine q_n5 nz_336 nkd_336 nI_336 nL_336 nR_336 ?_
      obtain ⟨⟨z_338, k_338⟩, h⟩ := ite_some h
      refine q_putR (c0 := 12) (j := 65) rfl rfl z_338 (fst_eq k_338) rfl ?_
      obtain ⟨R_338, nR_338, h⟩ := stI_some h
      refine q_nR nR_338 ?_
      refine q_aload rfl ?_
      refine q_iconst (15) (by decide) ?_
      obtain ⟨mk_344, ms_344, h, ek_344, em_344⟩ := adk_some h
      refine q_newa (m0 := 15) (by decide) (by decide) (by decide) (by decide) (by omega) (by omega) ?_
      obtain ⟨z_344, nz_344, h⟩ := stI_some h
      obtain ⟨kd_344, nkd_344, h⟩ := stI_some h
      obtain ⟨I_344, nI_344, h⟩ := stI_some h
      obtain ⟨L_344, nL_344, h⟩ := stI_some h
      obtain ⟨R_344, nR_344, h⟩ := stI_some h
      refine q_n5 nz_344 nkd_344 nI_344 nL_344 nR_344 ?_
      obtain ⟨⟨z_346, k_346⟩, h⟩ := ite_some h
      refine q_putR (c0 := 12) (j := 66) rfl rfl z_346 (fst_eq k_346) rfl ?_
      obtain ⟨R_346, nR_346, h⟩ := stI_some h
      refine q_nR nR_346 ?_
      refine q_aload rfl ?_
      obtain ⟨⟨z_350, k_350⟩, h⟩ := ite_some h
      obtain ⟨b_350, r_350, h⟩ := Option.bind_eq_some_iff.mp h
      refine q_getRs (c0 := 12) (j := 3) rfl rfl z_350 (fst_eq k_350) rfl (by decide) r_350 ?_
      refine q_iconst (5) (by decide) ?_
      refine q_iconst (5) (by decide) ?_
      obtain ⟨⟨⟨z_355, k_355, m_355⟩, u_355, v_355⟩, h⟩ := ite_some h
      refine q_iasN 5 rfl z_355 (fst_eq k_355) v_355 m_355 ?_
      obtain ⟨I_355, nI_355, h⟩ := stI_some h
      refine q_nI nI_355 ?_
      cases h
      exact q_vret rfl (by omega) (by omega) rfl
theorem a_191 (X : GX) {z : Nat} {kd : (Nat → Nat × Nat)} {I : (Nat → Nat → Int32)} {L : (Nat → Nat → Int64)} {R : (Nat → Nat → Option Nat)} {n dp d : Nat} (hd : dp ≤ d) {a0 : Nat} {z1 : Nat} {kd1 : (Nat → Nat × Nat)} {I1 : (Nat → Nat → Int32)} {L1 : (Nat → Nat → Int64)} {R1 : (Nat → Nat → Option Nat)} {k1 m1 : Nat} (h : g_191 n dp 0 z kd I L R a0 = some ((z1, kd1, I1, L1, R1), k1, m1)) : Ct X d 191 k1 m1 [.ref a0] (z, kd, I, L, R) (AV (fun τ => τ = (z1, kd1, I1, L1, R1))) :=
  Ct_of mu_191 (Nat.le_of_ble_eq_true rfl) ((w_191 X n dp d hd z kd I L R a0 _ _ _ _ _ _ _) h k1 m1 0 0 (by omega) (by omega))

/-! 184 CutFloor.image(I)I -/
set_option maxHeartbeats 4000000 in
set_option maxRecDepth 100000 in
def g_184 : Nat → Nat → Nat → Nat → (Nat → Nat × Nat) → (Nat → Nat → Int32) → (Nat → Nat → Int64) → (Nat → Nat → Option Nat) → Int32 → Nat →  Option ((Int32 × PS) × Nat × Nat)
  | 0, _, _, _, _, _, _, _, _, _ => none
  | n + 1, dp, lab, z, kd, I, L, R, i1, a2 =>
    if lab = 0 then (if 1 ≤ dp then (g_14 n (dp - 1) (z, kd, R) 0 I L i1 (0 : Int32) (1 : Int32)).bind (fun ⟨x_3, I_3, L_3⟩ => (if x_3 = 0 then (if 1 ≤ dp then (g_15 n (dp - 1) (z, kd, R) 0 I_3 L_3 (-1 : Int32)).bind (fun ⟨x_11, I_11, L_11⟩ => (some ((x_11, z, kd, I_11, L_11, R), 0, 0))) else none) else (if 0 ≤ i1 ∧ (Int32.toNatClampNeg i1) < 2 then stI (R 20 (Int32.toNatClampNeg i1)) (fun o_20 => (match o_20 with | none => (adk 1 (clN 3).2.2 (stI (z + 1) (fun z_26 => (stI (va_up kd z (3, 0)) (fun kd_26 => (stI (va_up I_3 z (fun _ => 0)) (fun I_26 => (stI (va_up L_3 z (fun _ => 0)) (fun L_26 => (stI (va_up R z (fun _ => none)) (fun R_26 => (if 1 ≤ dp then (if z < z_26 ∧ (kd_26 z).1 = 3 then (g_2 n (dp - 1) 0 z_26 kd_26 I_26 L_26 R_26 z).bind (fun ⟨⟨z_30, kd_30, I_30, L_30, R_30⟩, ck_30, cm_30⟩ => (adk ck_30 cm_30 (if (z < z_30 ∧ (kd_30 z).1 = 3) ∧ 0 ≤ i1 ∧ (Int32.toNatClampNeg i1) < 2 then (stI (u2 R_30 20 (Int32.toNatClampNeg i1) (some z)) (fun R_40 => (g_184 n dp 1 z_30 kd_30 I_30 L_30 R_40 i1 z))) else none))) else none) else none)))))))))))) | some bb_23 => (g_184 n dp 1 z kd I_3 L_3 R i1 bb_23))) else none))) else none)
    else if lab = 1 then (if 1 ≤ dp then (if a2 < z ∧ (kd a2).1 = 3 then (g_185 n (dp - 1) (z, kd, R) 0 I L a2 1).bind (fun ⟨I_46, L_46⟩ => (if 1 ≤ dp then (g_19 n (dp - 1) (z, kd, R) 0 I_46 L_46 (0 : Int32)).bind (fun ⟨x_51, I_51, L_51⟩ => (some ((x_51, z, kd, I_51, L_51, R), 0, 0))) else none)) else none) else none)
    else none
set_option maxRecDepth 100000 in
theorem e_184_0 (n dp : Nat) (z : Nat) (kd : (Nat → Nat × Nat)) (I : (Nat → Nat → Int32)) (L : (Nat → Nat → Int64)) (R : (Nat → Nat → Option Nat)) (i1 : Int32) (a2 : Nat) : g_184 (n + 1) dp 0 z kd I L R i1 a2 = (if 1 ≤ dp then (g_14 n (dp - 1) (z, kd, R) 0 I L i1 (0 : Int32) (1 : Int32)).bind (fun ⟨x_3, I_3, L_3⟩ => (if x_3 = 0 then (if 1 ≤ dp then (g_15 n (dp - 1) (z, kd, R) 0 I_3 L_3 (-1 : Int32)).bind (fun ⟨x_11, I_11, L_11⟩ => (some ((x_11, z, kd, I_11, L_11, R), 0, 0))) else none) else (if 0 ≤ i1 ∧ (Int32.toNatClampNeg i1) < 2 then stI (R 20 (Int32.toNatClampNeg i1)) (fun o_20 => (match o_20 with | none => (adk 1 (clN 3).2.2 (stI (z + 1) (fun z_26 => (stI (va_up kd z (3, 0)) (fun kd_26 => (stI (va_up I_3 z (fun _ => 0)) (fun I_26 => (stI (va_up L_3 z (fun _ => 0)) (fun L_26 => (stI (va_up R z (fun _ => none)) (fun R_26 => (if 1 ≤ dp then (if z < z_26 ∧ (kd_26 z).1 = 3 then (g_2 n (dp - 1) 0 z_26 kd_26 I_26 L_26 R_26 z).bind (fun ⟨⟨z_30, kd_30, I_30, L_30, R_30⟩, ck_30, cm_30⟩ => (adk ck_30 cm_30 (if (z < z_30 ∧ (kd_30 z).1 = 3) ∧ 0 ≤ i1 ∧ (Int32.toNatClampNeg i1) < 2 then (stI (u2 R_30 20 (Int32.toNatClampNeg i1) (some z)) (fun R_40 => (g_184 n dp 1 z_30 kd_30 I_30 L_30 R_40 i1 z))) else none))) else none) else none)))))))))))) | some bb_23 => (g_184 n dp 1 z kd I_3 L_3 R i1 bb_23))) else none))) else none) := by rw [g_184.eq_2, if_pos (show (0 : Nat) = 0 from rfl)]
set_option maxRecDepth 100000 in
theorem e_184_1 (n dp : Nat) (z : Nat) (kd : (Nat → Nat × Nat)) (I : (Nat → Nat → Int32)) (L : (Nat → Nat → Int64)) (R : (Nat → Nat → Option Nat)) (i1 : Int32) (a2 : Nat) : g_184 (n + 1) dp 1 z kd I L R i1 a2 = (if 1 ≤ dp then (if a2 < z ∧ (kd a2).1 = 3 then (g_185 n (dp - 1) (z, kd, R) 0 I L a2 1).bind (fun ⟨I_46, L_46⟩ => (if 1 ≤ dp then (g_19 n (dp - 1) (z, kd, R) 0 I_46 L_46 (0 : Int32)).bind (fun ⟨x_51, I_51, L_51⟩ => (some ((x_51, z, kd, I_51, L_51, R), 0, 0))) else none)) else none) else none) := by rw [g_184.eq_2, if_neg (show ¬ ((1 : Nat) = 0) by decide), if_pos (show (1 : Nat) = 1 from rfl)]
set_option maxHeartbeats 8000000 in
set_option maxRecDepth 100000 in
theorem w_184 (X : GX) : ∀ (n dp d : Nat), dp ≤ d → ∀ (z : Nat) (kd : (Nat → Nat × Nat)) (I : (Nat → Nat → Int32)) (L : (Nat → Nat → Int64)) (R : (Nat → Nat → Option Nat)), Sh z kd R → ∀ (i1 : Int32) (a2 : Nat) (r : Int32) (z1 : Nat) (kd1 : (Nat → Nat × Nat)) (I1 : (Nat → Nat → Int32)) (L1 : (Nat → Nat → Int64)) (R1 : (Nat → Nat → Option Nat)) (k1 m1 : Nat), (g_184 n dp 0 z kd I L R i1 a2 = some ((r, z1, kd1, I1, L1, R1), k1, m1) → ∀ MC MS k m : Nat, k + k1 ≤ MC → m + m1 ≤ MS → K X d 184 MC MS (AI (fun x τ => x = r ∧ τ = (z1, kd1, I1, L1, R1))) 0 [some (.ref 0), some (.int i1), none] [] (z, kd, I, L, R) k m) ∧
    (g_184 n dp 1 z kd I L R i1 a2 = some ((r, z1, kd1, I1, L1, R1), k1, m1) → ∀ MC MS k m : Nat, k + k1 ≤ MC → m + m1 ≤ MS → K X d 184 MC MS (AI (fun x τ => x = r ∧ τ = (z1, kd1, I1, L1, R1))) 41 [some (.ref 0), some (.int i1), some (.ref a2)] [] (z, kd, I, L, R) k m) := by
  intro n
  induction n with
  | zero => intro dp d hdp z kd I L R hS  i1 a2 r z1 kd1 I1 L1 R1 k1 m1; exact ⟨(fun h => by cases h), (fun h => by cases h)⟩
  | succ n ih =>
    intro dp d hdp z kd I L R hS  i1 a2 r z1 kd1 I1 L1 R1 k1 m1
    refine ⟨?_, ?_⟩
    · intro h MC MS k m hMC hMS
      rw [e_184_0] at h
      refine K_of b_184_0 h_184_0 ?_
      refine q_iload rfl ?_
      refine q_iconst (0) (by decide) ?_
      refine q_iconst (1) (by decide) ?_
      obtain ⟨d_3, h⟩ := ite_some h
      obtain ⟨⟨x_3, I_3, L_3⟩, e_3, h⟩ := Option.bind_eq_some_iff.mp h
      dsimp only at h
      refine q_fs3I (a_14 X hS (d := d - 1) (by omega) e_3) (by omega) (by omega) (by omega) rfl (Nat.le_of_ble_eq_true rfl) ?_
      refine q_if_ne (fun c_6 => ?_) (fun c_6 => ?_)
      · rw [if_neg c_6] at h
        refine K_of b_184_15 h_184_15 ?_
        refine q_aload rfl ?_
        refine q_getRs (c0 := 11) (j := 1) rfl rfl (zl hS 0 (by decide)) (sk hS 0 (by decide) rfl) rfl (by decide) (r_0_1 hS) ?_
        refine q_iload rfl ?_
        obtain ⟨⟨u_20, v_20⟩, h⟩ := ite_some h
        obtain ⟨o_20, n_20, h⟩ := stI_some h
        refine q_aald (zl hS 20 (by decide)) (sk hS 20 (by decide) rfl) (by decide) (in_of u_20 v_20) n_20.symm ?_
        refine q_astore (ls1 := [some (.ref 0), some (.int i1), some (va_rf o_20)]) (isR_rf _) (Nat.le_of_ble_eq_true rfl) rfl ?_
        refine q_aloadQ rfl ?_
        refine q_ifnn (fun c_23 => ?_) (fun bb_23 c_23 => ?_)
        · subst c_23
          dsimp only at h
          obtain ⟨mk_26, ms_26, h, ek_26, em_26⟩ := adk_some h
          refine q_new (by omega) (by omega) ?_
          obtain ⟨z_26, nz_26, h⟩ := stI_some h
          obtain ⟨kd_26, nkd_26, h⟩ := stI_some h
          obtain ⟨I_26, nI_26, h⟩ := stI_some h
          obtain ⟨L_26, nL_26, h⟩ := stI_some h
          obtain ⟨R_26, nR_26, h⟩ := stI_some h
          refine q_n5 nz_26 nkd_26 nI_26 nL_26 nR_26 ?_
          have hS_26 : Sh z_26 kd_26 R_26 := by rw [nz_26, nkd_26, nR_26]; exact Sh_alo hS
          refine q_dup rfl ?_
          obtain ⟨d_30, h⟩ := ite_some h
          obtain ⟨⟨zr_30, kr_30⟩, h⟩ := ite_some h
          obtain ⟨⟨⟨z_30, kd_30, I_30, L_30, R_30⟩, ck_30, cm_30⟩, e_30, h⟩ := Option.bind_eq_some_iff.mp h
          dsimp only at h
          obtain ⟨mk_30, ms_30, h, ek_30, em_30⟩ := adk_some h
          refine q_gi1V (a_2 X (d := d - 1) (by omega) e_30) (by omega) (by omega) (by omega) rfl (Nat.le_of_ble_eq_true rfl) ⟨zr_30, kr_30, by decide⟩ ?_
          have hS_30 := s_2 hS_26 (ha := hS.1) e_30
          refine q_astore (ls1 := [some (.ref 0), some (.int i1), some (.ref z)]) rfl (Nat.le_of_ble_eq_true rfl) rfl ?_
          refine q_aload rfl ?_
          refine q_getRs (c0 := 11) (j := 1) rfl rfl (zl hS_30 0 (by decide)) (sk hS_30 0 (by decide) rfl) rfl (by decide) (r_0_1 hS_30) ?_
          refine q_iload rfl ?_
          refine q_aload rfl ?_
          obtain ⟨⟨⟨zv_40, kv_40⟩, u_40, v_40⟩, h⟩ := ite_some h
          refine q_aast (zl hS_30 20 (by decide)) zv_40 (sk hS_30 20 (by decide) rfl) (Or.inr ⟨rfl, kv_40⟩) (in_of u_40 v_40) ?_
          obtain ⟨R_40, nR_40, h⟩ := stI_some h
          refine q_nR nR_40 ?_
          have hS_40 : Sh z_30 kd_30 R_40 := by rw [nR_40]; exact Sh_put20 hS_30 _ _
          refine q_end ?_
          exact (ih dp d hdp _ _ _ _ _ hS_40 i1 z _ _ _ _ _ _ _ _).2 h MC MS _ _ (by omega) (by omega)
        · subst c_23
          dsimp only at h
          exact (ih dp d hdp _ _ _ _ _ hS i1 bb_23 _ _ _ _ _ _ _ _).2 h MC MS _ _ (by omega) (by omega)
      · rw [if_pos c_6] at h
        refine q_aload rfl ?_
        refine q_iconst (-1) (by decide) ?_
        obtain ⟨d_11, h⟩ := ite_some h
        obtain ⟨⟨x_11, I_11, L_11⟩, e_11, h⟩ := Option.bind_eq_some_iff.mp h
        dsimp only at h
        refine q_fv2I (a_15 X hS (d := d - 1) (by omega) e_11) (by omega) (by omega) (by omega) rfl (Nat.le_of_ble_eq_true rfl) ⟨(zl hS 0 (by decide)), congrArg Prod.fst (sk hS 0 (by decide) rfl), by decide⟩ ?_
        cases h
        exact q_iret rfl (by omega) (by omega) ⟨rfl, rfl⟩
    · intro h MC MS k m hMC hMS
      rw [e_184_1] at h
      refine K_of b_184_41 h_184_41 ?_
      refine q_aload rfl ?_
      refine q_aload rfl ?_
      refine q_getRs (c0 := 11) (j := 0) rfl rfl (zl hS 0 (by decide)) (sk hS 0 (by decide) rfl) rfl (by decide) (r_0_0 hS) ?_
      obtain ⟨d_46, h⟩ := ite_some h
      obtain ⟨⟨zr_46, kr_46⟩, h⟩ := ite_some h
      obtain ⟨⟨I_46, L_46⟩, e_46, h⟩ := Option.bind_eq_some_iff.mp h
      dsimp only at h
      refine q_fv2V (a_185 X hS (d := d - 1) (by omega) e_46) (by omega) (by omega) (by omega) rfl (Nat.le_of_ble_eq_true rfl) ⟨zr_46, kr_46, by decide⟩ ?_
      refine q_aload rfl ?_
      refine q_iconst (0) (by decide) ?_
      obtain ⟨d_51, h⟩ := ite_some h
      obtain ⟨⟨x_51, I_51, L_51⟩, e_51, h⟩ := Option.bind_eq_some_iff.mp h
      dsimp only at h
      refine q_fv2I (a_19 X hS (d := d - 1) (by omega) e_51) (by omega) (by omega) (by omega) rfl (Nat.le_of_ble_eq_true rfl) ⟨(zl hS 0 (by decide)), congrArg Prod.fst (sk hS 0 (by decide) rfl), by decide⟩ ?_
      cases h
      exact q_iret rfl (by omega) (by omega) ⟨rfl, rfl⟩
set_option maxHeartbeats 8000000 in
set_option maxRecDepth 100000 in
theorem t_184 : ∀ (n dp : Nat) (z : Nat) (kd : (Nat → Nat × Nat)) (I : (Nat → Nat → Int32)) (L : (Nat → Nat → Int64)) (R : (Nat → Nat → Option Nat)), Sh z kd R → ∀ (i1 : Int32) (a2 : Nat) (r : Int32) (z1 : Nat) (kd1 : (Nat → Nat × Nat)) (I1 : (Nat → Nat → Int32)) (L1 : (Nat → Nat → Int64)) (R1 : (Nat → Nat → Option Nat)) (k1 m1 : Nat), (g_184 n dp 0 z kd I L R i1 a2 = some ((r, z1, kd1, I1, L1, R1), k1, m1) → Sh z1 kd1 R1) ∧
    (g_184 n dp 1 z kd I L R i1 a2 = some ((r, z1, kd1, I1, L1, R1), k1, m1) → Sh z1 kd1 R1) := by
  intro n
  induction n with
  | zero => intro dp z kd I L R hS i1 a2 r z1 kd1 I1 L1 R1 k1 m1; exact ⟨(fun h => by cases h), (fun h => by cases h)⟩
  | succ n ih =>
    intro dp z kd I L R hS i1 a2 r z1 kd1 I1 L1 R1 k1 m1
    refine ⟨?_, ?_⟩
    · intro h
      rw [e_184_0] at h
      obtain ⟨d_3, h⟩ := ite_some h
      obtain ⟨⟨x_3, I_3, L_3⟩, e_3, h⟩ := Option.bind_eq_some_iff.mp h
      dsimp only at h
      by_cases c_6 : x_3 = 0
      · rw [if_pos c_6] at h
        obtain ⟨d_11, h⟩ := ite_some h
        obtain ⟨⟨x_11, I_11, L_11⟩, e_11, h⟩ := Option.bind_eq_some_iff.mp h
        dsimp only at h
        cases h
        exact hS
      · rw [if_neg c_6] at h
        obtain ⟨⟨u_20, v_20⟩, h⟩ := ite_some h
        obtain ⟨o_20, n_20, h⟩ := stI_some h
        rcases c_23 : o_20 with _ | bb_23
        · rw [c_23] at h
          dsimp only at h
          obtain ⟨mk_26, ms_26, h, ek_26, em_26⟩ := adk_some h
          obtain ⟨z_26, nz_26, h⟩ := stI_some h
          obtain ⟨kd_26, nkd_26, h⟩ := stI_some h
          obtain ⟨I_26, nI_26, h⟩ := stI_some h
          obtain ⟨L_26, nL_26, h⟩ := stI_some h
          obtain ⟨R_26, nR_26, h⟩ := stI_some h
          have hS_26 : Sh z_26 kd_26 R_26 := by rw [nz_26, nkd_26, nR_26]; exact Sh_alo hS
          obtain ⟨d_30, h⟩ := ite_some h
          obtain ⟨⟨zr_30, kr_30⟩, h⟩ := ite_some h
          obtain ⟨⟨⟨z_30, kd_30, I_30, L_30, R_30⟩, ck_30, cm_30⟩, e_30, h⟩ := Option.bind_eq_some_iff.mp h
          dsimp only at h
          obtain ⟨mk_30, ms_30, h, ek_30, em_30⟩ := adk_some h
          have hS_30 := s_2 hS_26 (ha := hS.1) e_30
          obtain ⟨⟨⟨zv_40, kv_40⟩, u_40, v_40⟩, h⟩ := ite_some h
          obtain ⟨R_40, nR_40, h⟩ := stI_some h
          have hS_40 : Sh z_30 kd_30 R_40 := by rw [nR_40]; exact Sh_put20 hS_30 _ _
          exact (ih dp _ _ _ _ _ hS_40 i1 z _ _ _ _ _ _ _ _).2 h
        · rw [c_23] at h
          dsimp only at h
          exact (ih dp _ _ _ _ _ hS i1 bb_23 _ _ _ _ _ _ _ _).2 h
    · intro h
      rw [e_184_1] at h
      obtain ⟨d_46, h⟩ := ite_some h
      obtain ⟨⟨zr_46, kr_46⟩, h⟩ := ite_some h
      obtain ⟨⟨I_46, L_46⟩, e_46, h⟩ := Option.bind_eq_some_iff.mp h
      dsimp only at h
      obtain ⟨d_51, h⟩ := ite_some h
      obtain ⟨⟨x_51, I_51, L_51⟩, e_51, h⟩ := Option.bind_eq_some_iff.mp h
      dsimp only at h
      cases h
      exact hS
theorem a_184 (X : GX) {z : Nat} {kd : (Nat → Nat × Nat)} {I : (Nat → Nat → Int32)} {L : (Nat → Nat → Int64)} {R : (Nat → Nat → Option Nat)} (hS : Sh z kd R) {n dp d : Nat} (hd : dp ≤ d) {i1 : Int32} {r : Int32} {z1 : Nat} {kd1 : (Nat → Nat × Nat)} {I1 : (Nat → Nat → Int32)} {L1 : (Nat → Nat → Int64)} {R1 : (Nat → Nat → Option Nat)} {k1 m1 : Nat} (h : g_184 n dp 0 z kd I L R i1 0 = some ((r, z1, kd1, I1, L1, R1), k1, m1)) : Ct X d 184 k1 m1 [.ref 0, .int i1] (z, kd, I, L, R) (AI (fun x τ => x = r ∧ τ = (z1, kd1, I1, L1, R1))) :=
  Ct_of mu_184 (Nat.le_of_ble_eq_true rfl) ((w_184 X n dp d hd z kd I L R hS i1 0 _ _ _ _ _ _ _ _).1 h k1 m1 0 0 (by omega) (by omega))
theorem s_184 {z : Nat} {kd : (Nat → Nat × Nat)} {I : (Nat → Nat → Int32)} {L : (Nat → Nat → Int64)} {R : (Nat → Nat → Option Nat)} (hS : Sh z kd R) {n dp : Nat} {i1 : Int32} {r : Int32} {z1 : Nat} {kd1 : (Nat → Nat × Nat)} {I1 : (Nat → Nat → Int32)} {L1 : (Nat → Nat → Int64)} {R1 : (Nat → Nat → Option Nat)} {k1 m1 : Nat} (h : g_184 n dp 0 z kd I L R i1 0 = some ((r, z1, kd1, I1, L1, R1), k1, m1)) : Sh z1 kd1 R1 := (t_184 n dp z kd I L R hS i1 0 _ _ _ _ _ _ _ _).1 h

