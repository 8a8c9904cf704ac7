/-! 297 CutFloorModel.again(I)I -/
set_option maxHeartbeats 4000000 in
set_option maxRecDepth 100000 in
def g_297 : Nat → Nat → EN → Nat → (Nat → Nat → Int32) → (Nat → Nat → Int64) → Int32 →  Option (Int32 × (Nat → Nat → Int32) × (Nat → Nat → Int64))
  | 0, _, _, _, _, _, _ => none
  | n + 1, dp, e, lab, I, L, i1 =>
    if lab = 0 then (stI (u2 I 105 0 (0 : Int32)) (fun I_2 => (if 1 ≤ dp then (g_193 n (dp - 1) e 0 I_2 L (Int32.toInt64 i1) (0 : Int64) ((Int32.toInt64 (I_2 107 6)) - (1 : Int64))).bind (fun ⟨x0_18, I0_18, L0_18⟩ => (if x0_18 = 0 then (if 1 ≤ dp then (g_194 n (dp - 1) e 0 I0_18 L0_18 (-2 : Int32)).bind (fun ⟨x1_27, I1_27, L1_27⟩ => (some (x1_27, I1_27, L1_27))) else none) else (if 1 ≤ dp then (g_292 n (dp - 1) e 0 I0_18 L0_18 i1 (6 : Int32)).bind (fun ⟨x1_35, I1_35, L1_35⟩ => (if x1_35 = (1 : Int32) then (if 1 ≤ dp then (g_194 n (dp - 1) e 0 I1_35 L1_35 (-3 : Int32)).bind (fun ⟨x2_45, I2_45, L2_45⟩ => (some (x2_45, I2_45, L2_45))) else none) else (if 0 ≤ (((90 : Int32) + ((7 : Int32) * i1)) + (6 : Int32)) ∧ (Int32.toNatClampNeg (((90 : Int32) + ((7 : Int32) * i1)) + (6 : Int32))) < 1570 then (stI (u2 I1_35 107 (Int32.toNatClampNeg (((90 : Int32) + ((7 : Int32) * i1)) + (6 : Int32))) (1 : Int32)) (fun I_64 => (if 1 ≤ dp then (g_194 n (dp - 1) e 0 I_64 L1_35 (0 : Int32)).bind (fun ⟨x2_67, I2_67, L2_67⟩ => (some (x2_67, I2_67, L2_67))) else none))) else none))) else none))) else none)))
    else none
set_option maxRecDepth 100000 in
theorem e_297_0 (n dp : Nat) (e : EN) (I : (Nat → Nat → Int32)) (L : (Nat → Nat → Int64)) (i1 : Int32) : g_297 (n + 1) dp e 0 I L i1 = (stI (u2 I 105 0 (0 : Int32)) (fun I_2 => (if 1 ≤ dp then (g_193 n (dp - 1) e 0 I_2 L (Int32.toInt64 i1) (0 : Int64) ((Int32.toInt64 (I_2 107 6)) - (1 : Int64))).bind (fun ⟨x0_18, I0_18, L0_18⟩ => (if x0_18 = 0 then (if 1 ≤ dp then (g_194 n (dp - 1) e 0 I0_18 L0_18 (-2 : Int32)).bind (fun ⟨x1_27, I1_27, L1_27⟩ => (some (x1_27, I1_27, L1_27))) else none) else (if 1 ≤ dp then (g_292 n (dp - 1) e 0 I0_18 L0_18 i1 (6 : Int32)).bind (fun ⟨x1_35, I1_35, L1_35⟩ => (if x1_35 = (1 : Int32) then (if 1 ≤ dp then (g_194 n (dp - 1) e 0 I1_35 L1_35 (-3 : Int32)).bind (fun ⟨x2_45, I2_45, L2_45⟩ => (some (x2_45, I2_45, L2_45))) else none) else (if 0 ≤ (((90 : Int32) + ((7 : Int32) * i1)) + (6 : Int32)) ∧ (Int32.toNatClampNeg (((90 : Int32) + ((7 : Int32) * i1)) + (6 : Int32))) < 1570 then (stI (u2 I1_35 107 (Int32.toNatClampNeg (((90 : Int32) + ((7 : Int32) * i1)) + (6 : Int32))) (1 : Int32)) (fun I_64 => (if 1 ≤ dp then (g_194 n (dp - 1) e 0 I_64 L1_35 (0 : Int32)).bind (fun ⟨x2_67, I2_67, L2_67⟩ => (some (x2_67, I2_67, L2_67))) else none))) else none))) else none))) else none))) := by rw [g_297.eq_2, if_pos (show (0 : Nat) = 0 from rfl)]
set_option maxHeartbeats 8000000 in
set_option maxRecDepth 100000 in
theorem w_297 (X : GX) {z : Nat} {kd : Nat → Nat × Nat} {Rf : Nat → Nat → Option Nat} (hS : Sh z kd Rf) : ∀ (n dp d : Nat), dp ≤ d → ∀ (I : (Nat → Nat → Int32)) (L : (Nat → Nat → Int64)) (i1 : Int32) (r : Int32) (I1 : (Nat → Nat → Int32)) (L1 : (Nat → Nat → Int64)), (g_297 n dp (z, kd, Rf) 0 I L i1 = some (r, I1, L1) → K X d 297 0 0 (AI (fun x τ => x = r ∧ τ = (z, kd, I1, L1, Rf))) 0 [some (.ref 105), some (.int i1)] [] (z, kd, I, L, Rf) 0 0) := by
  intro n
  induction n with
  | zero => intro dp d hdp I L i1 r I1 L1; exact fun h => by cases h
  | succ n ih =>
    intro dp d hdp I L i1 r I1 L1
    · intro h
      rw [e_297_0] at h
      refine K_of b_297_0 h_297_0 ?_
      refine q_aload rfl ?_
      refine q_iconst (0) (by decide) ?_
      refine q_putI (c0 := 12) (j := 0) rfl rfl (zl hS 105 (by decide)) (sk hS 105 (by decide) rfl) rfl ?_
      obtain ⟨I_2, nI_2, h⟩ := stI_some h
      refine q_nI nI_2 ?_
      refine q_iload rfl ?_
      refine q_i2l ?_
      refine q_lconst (0) (by decide) ?_
      refine q_aload rfl ?_
      refine q_getRs (c0 := 12) (j := 3) rfl rfl (zl hS 105 (by decide)) (sk hS 105 (by decide) rfl) rfl (by decide) (r_105_3 hS) ?_
      refine q_iconst (6) (by decide) ?_
      refine q_ialN (6) rfl (zl hS 107 (by decide)) (sk hS 107 (by decide) rfl) (by decide) (by decide) ?_
      refine q_i2l ?_
      refine q_lconst (1) (by decide) ?_
      refine q_lsub ?_
      obtain ⟨d_18, h⟩ := ite_some h
      obtain ⟨⟨x0_18, I0_18, L0_18⟩, e_18, h⟩ := Option.bind_eq_some_iff.mp h
      dsimp only at h
      refine q_fs3I (a_193 X hS (d := d - 1) (by omega) e_18) (by omega) (Nat.le_refl _) (Nat.le_refl _) rfl (Nat.le_of_ble_eq_true rfl) ?_
      refine q_if_ne (fun c_21 => ?_) (fun c_21 => ?_)
      · rw [if_neg c_21] at h
        refine K_of b_297_31 h_297_31 ?_
        refine q_aload rfl ?_
        refine q_iload rfl ?_
        refine q_iconst (6) (by decide) ?_
        obtain ⟨d_35, h⟩ := ite_some h
        obtain ⟨⟨x1_35, I1_35, L1_35⟩, e_35, h⟩ := Option.bind_eq_some_iff.mp h
        dsimp only at h
        refine q_fv3I (a_292 X hS (d := d - 1) (by omega) e_35) (by omega) (Nat.le_refl _) (Nat.le_refl _) rfl (Nat.le_of_ble_eq_true rfl) ⟨(zl hS 105 (by decide)), congrArg Prod.fst (sk hS 105 (by decide) rfl), by decide⟩ ?_
        refine q_iconst (1) (by decide) ?_
        refine q_icmp_ne (fun c_39 => ?_) (fun c_39 => ?_)
        · rw [if_neg c_39] at h
          refine K_of b_297_49 h_297_49 ?_
          refine q_aload rfl ?_
          refine q_getRs (c0 := 12) (j := 3) rfl rfl (zl hS 105 (by decide)) (sk hS 105 (by decide) rfl) rfl (by decide) (r_105_3 hS) ?_
          refine q_iconst (90) (by decide) ?_
          refine q_iconst (7) (by decide) ?_
          refine q_iload rfl ?_
          refine q_imul ?_
          refine q_iadd ?_
          refine q_iconst (6) (by decide) ?_
          refine q_iadd ?_
          refine q_iconst (1) (by decide) ?_
          obtain ⟨⟨u_64, v_64⟩, h⟩ := ite_some h
          refine q_iasN (Int32.toNatClampNeg (((90 : Int32) + ((7 : Int32) * i1)) + (6 : Int32))) (nx u_64) (zl hS 107 (by decide)) (sk hS 107 (by decide) rfl) v_64 (by decide) ?_
          obtain ⟨I_64, nI_64, h⟩ := stI_some h
          refine q_nI nI_64 ?_
          refine q_aload rfl ?_
          refine q_iconst (0) (by decide) ?_
          obtain ⟨d_67, h⟩ := ite_some h
          obtain ⟨⟨x2_67, I2_67, L2_67⟩, e_67, h⟩ := Option.bind_eq_some_iff.mp h
          dsimp only at h
          refine q_fv2I (a_194 X hS (d := d - 1) (by omega) e_67) (by omega) (Nat.le_refl _) (Nat.le_refl _) rfl (Nat.le_of_ble_eq_true rfl) ⟨(zl hS 105 (by decide)), congrArg Prod.fst (sk hS 105 (by decide) rfl), by decide⟩ ?_
          cases h
          exact q_iret rfl (Nat.le_refl _) (Nat.le_refl _) ⟨rfl, rfl⟩
        · rw [if_pos c_39] at h
          refine q_aload rfl ?_
          refine q_iconst (-3) (by decide) ?_
          obtain ⟨d_45, h⟩ := ite_some h
          obtain ⟨⟨x2_45, I2_45, L2_45⟩, e_45, h⟩ := Option.bind_eq_some_iff.mp h
          dsimp only at h
          refine q_fv2I (a_194 X hS (d := d - 1) (by omega) e_45) (by omega) (Nat.le_refl _) (Nat.le_refl _) rfl (Nat.le_of_ble_eq_true rfl) ⟨(zl hS 105 (by decide)), congrArg Prod.fst (sk hS 105 (by decide) rfl), by decide⟩ ?_
          cases h
          exact q_iret rfl (Nat.le_refl _) (Nat.le_refl _) ⟨rfl, rfl⟩
      · rw [if_pos c_21] at h
        refine q_aload rfl ?_
        refine q_iconst (-2) (by decide) ?_
        obtain ⟨d_27, h⟩ := ite_some h
        obtain ⟨⟨x1_27, I1_27, L1_27⟩, e_27, h⟩ := Option.bind_eq_some_iff.mp h
        dsimp only at h
        refine q_fv2I (a_194 X hS (d := d - 1) (by omega) e_27) (by omega) (Nat.le_refl _) (Nat.le_refl _) rfl (Nat.le_of_ble_eq_true rfl) ⟨(zl hS 105 (by decide)), congrArg Prod.fst (sk hS 105 (by decide) rfl), by decide⟩ ?_
        cases h
        exact q_iret rfl (Nat.le_refl _) (Nat.le_refl _) ⟨rfl, rfl⟩
theorem a_297 (X : GX) {z : Nat} {kd : Nat → Nat × Nat} {Rf : Nat → Nat → Option Nat} (hS : Sh z kd Rf) {n dp d : Nat} (hd : dp ≤ d) {I : (Nat → Nat → Int32)} {L : (Nat → Nat → Int64)} {i1 : Int32} {I1 : (Nat → Nat → Int32)} {L1 : (Nat → Nat → Int64)} {r : Int32} (h : g_297 n dp (z, kd, Rf) 0 I L i1 = some (r, I1, L1)) : Ct X d 297 0 0 [.ref 105, .int i1] (z, kd, I, L, Rf) (AI (fun x τ => x = r ∧ τ = (z, kd, I1, L1, Rf))) :=
  Ct_of mu_297 (Nat.le_of_ble_eq_true rfl) ((w_297 X hS n dp d hd I L i1 _ _ _) h)

/-! 299 CutFloorModel.touches(II)Z -/
set_option maxHeartbeats 4000000 in
set_option maxRecDepth 100000 in
def g_299 : Nat → Nat → EN → Nat → (Nat → Nat → Int32) → (Nat → Nat → Int64) → Int32 → Int32 → Int32 →  Option (Int32 × (Nat → Nat → Int32) × (Nat → Nat → Int64))
  | 0, _, _, _, _, _, _, _, _ => none
  | n + 1, dp, e, lab, I, L, i1, i2, i3 =>
    if lab = 0 then (if 1 ≤ dp then (g_292 n (dp - 1) e 0 I L i1 (2 : Int32)).bind (fun ⟨x0_3, I0_3, L0_3⟩ => (if 1 ≤ dp then (g_292 n (dp - 1) e 0 I0_3 L0_3 i2 (2 : Int32)).bind (fun ⟨x1_9, I1_9, L1_9⟩ => (if x0_3 = x1_9 then (if 1 ≤ dp then (g_292 n (dp - 1) e 0 I1_9 L1_9 i1 (3 : Int32)).bind (fun ⟨x2_18, I2_18, L2_18⟩ => (if 1 ≤ dp then (g_292 n (dp - 1) e 0 I2_18 L2_18 i2 (3 : Int32)).bind (fun ⟨x3_24, I3_24, L3_24⟩ => (if x2_18 = x3_24 then (if 1 ≤ dp then (g_292 n (dp - 1) e 0 I3_24 L3_24 i1 (4 : Int32)).bind (fun ⟨x4_33, I4_33, L4_33⟩ => (if 1 ≤ dp then (g_292 n (dp - 1) e 0 I4_33 L4_33 i2 (4 : Int32)).bind (fun ⟨x5_39, I5_39, L5_39⟩ => (if x4_33 = x5_39 then (if (1 : Int32) = 0 then (if 1 ≤ dp then (g_292 n (dp - 1) e 0 I5_39 L5_39 i1 (5 : Int32)).bind (fun ⟨x6_58, I6_58, L6_58⟩ => (if 1 ≤ dp then (g_292 n (dp - 1) e 0 I6_58 L6_58 i2 (5 : Int32)).bind (fun ⟨x7_64, I7_64, L7_64⟩ => (if (x6_58 &&& x7_64) = 0 then (some ((0 : Int32), I7_64, L7_64)) else (g_299 n dp e 2 I7_64 L7_64 i1 i2 (1 : Int32)))) else none)) else none) else (g_299 n dp e 2 I5_39 L5_39 i1 i2 (1 : Int32))) else (g_299 n dp e 1 I5_39 L5_39 i1 i2 0))) else none)) else none) else (g_299 n dp e 1 I3_24 L3_24 i1 i2 0))) else none)) else none) else (g_299 n dp e 1 I1_9 L1_9 i1 i2 0))) else none)) else none)
    else if lab = 1 then (if (0 : Int32) = 0 then (if 1 ≤ dp then (g_292 n (dp - 1) e 0 I L i1 (5 : Int32)).bind (fun ⟨x0_58, I0_58, L0_58⟩ => (if 1 ≤ dp then (g_292 n (dp - 1) e 0 I0_58 L0_58 i2 (5 : Int32)).bind (fun ⟨x1_64, I1_64, L1_64⟩ => (if (x0_58 &&& x1_64) = 0 then (some ((0 : Int32), I1_64, L1_64)) else (g_299 n dp e 2 I1_64 L1_64 i1 i2 (0 : Int32)))) else none)) else none) else (g_299 n dp e 2 I L i1 i2 (0 : Int32)))
    else if lab = 2 then (some ((1 : Int32), I, L))
    else none
set_option maxRecDepth 100000 in
theorem e_299_0 (n dp : Nat) (e : EN) (I : (Nat → Nat → Int32)) (L : (Nat → Nat → Int64)) (i1 : Int32) (i2 : Int32) (i3 : Int32) : g_299 (n + 1) dp e 0 I L i1 i2 i3 = (if 1 ≤ dp then (g_292 n (dp - 1) e 0 I L i1 (2 : Int32)).bind (fun ⟨x0_3, I0_3, L0_3⟩ => (if 1 ≤ dp then (g_292 n (dp - 1) e 0 I0_3 L0_3 i2 (2 : Int32)).bind (fun ⟨x1_9, I1_9, L1_9⟩ => (if x0_3 = x1_9 then (if 1 ≤ dp then (g_292 n (dp - 1) e 0 I1_9 L1_9 i1 (3 : Int32)).bind (fun ⟨x2_18, I2_18, L2_18⟩ => (if 1 ≤ dp then (g_292 n (dp - 1) e 0 I2_18 L2_18 i2 (3 : Int32)).bind (fun ⟨x3_24, I3_24, L3_24⟩ => (if x2_18 = x3_24 then (if 1 ≤ dp then (g_292 n (dp - 1) e 0 I3_24 L3_24 i1 (4 : Int32)).bind (fun ⟨x4_33, I4_33, L4_33⟩ => (if 1 ≤ dp then (g_292 n (dp - 1) e 0 I4_33 L4_33 i2 (4 : Int32)).bind (fun ⟨x5_39, I5_39, L5_39⟩ => (if x4_33 = x5_39 then (if (1 : Int32) = 0 then (if 1 ≤ dp then (g_292 n (dp - 1) e 0 I5_39 L5_39 i1 (5 : Int32)).bind (fun ⟨x6_58, I6_58, L6_58⟩ => (if 1 ≤ dp then (g_292 n (dp - 1) e 0 I6_58 L6_58 i2 (5 : Int32)).bind (fun ⟨x7_64, I7_64, L7_64⟩ => (if (x6_58 &&& x7_64) = 0 then (some ((0 : Int32), I7_64, L7_64)) else (g_299 n dp e 2 I7_64 L7_64 i1 i2 (1 : Int32)))) else none)) else none) else (g_299 n dp e 2 I5_39 L5_39 i1 i2 (1 : Int32))) else (g_299 n dp e 1 I5_39 L5_39 i1 i2 0))) else none)) else none) else (g_299 n dp e 1 I3_24 L3_24 i1 i2 0))) else none)) else none) else (g_299 n dp e 1 I1_9 L1_9 i1 i2 0))) else none)) else none) := by rw [g_299.eq_2, if_pos (show (0 : Nat) = 0 from rfl)]
set_option maxRecDepth 100000 in
theorem e_299_1 (n dp : Nat) (e : EN) (I : (Nat → Nat → Int32)) (L : (Nat → Nat → Int64)) (i1 : Int32) (i2 : Int32) (i3 : Int32) : g_299 (n + 1) dp e 1 I L i1 i2 i3 = (if (0 : Int32) = 0 then (if 1 ≤ dp then (g_292 n (dp - 1) e 0 I L i1 (5 : Int32)).bind (fun ⟨x0_58, I0_58, L0_58⟩ => (if 1 ≤ dp then (g_292 n (dp - 1) e 0 I0_58 L0_58 i2 (5 : Int32)).bind (fun ⟨x1_64, I1_64, L1_64⟩ => (if (x0_58 &&& x1_64) = 0 then (some ((0 : Int32), I1_64, L1_64)) else (g_299 n dp e 2 I1_64 L1_64 i1 i2 (0 : Int32)))) else none)) else none) else (g_299 n dp e 2 I L i1 i2 (0 : Int32))) := by rw [g_299.eq_2, if_neg (show ¬ ((1 : Nat) = 0) by decide), if_pos (show (1 : Nat) = 1 from rfl)]
set_option maxRecDepth 100000 in
theorem e_299_2 (n dp : Nat) (e : EN) (I : (Nat → Nat → Int32)) (L : (Nat → Nat → Int64)) (i1 : Int32) (i2 : Int32) (i3 : Int32) : g_299 (n + 1) dp e 2 I L i1 i2 i3 = (some ((1 : Int32), I, L)) := by rw [g_299.eq_2, if_neg (show ¬ ((2 : Nat) = 0) by decide), if_neg (show ¬ ((2 : Nat) = 1) by decide), if_pos (show (2 : Nat) = 2 from rfl)]
set_option maxHeartbeats 8000000 in
set_option maxRecDepth 100000 in
theorem w_299 (X : GX) {z : Nat} {kd : Nat → Nat × Nat} {Rf : Nat → Nat → Option Nat} (hS : Sh z kd Rf) : ∀ (n dp d : Nat), dp ≤ d → ∀ (I : (Nat → Nat → Int32)) (L : (Nat → Nat → Int64)) (i1 : Int32) (i2 : Int32) (i3 : Int32) (r : Int32) (I1 : (Nat → Nat → Int32)) (L1 : (Nat → Nat → Int64)), (g_299 n dp (z, kd, Rf) 0 I L i1 i2 i3 = some (r, I1, L1) → K X d 299 0 0 (AI (fun x τ => x = r ∧ τ = (z, kd, I1, L1, Rf))) 0 [some (.ref 105), some (.int i1), some (.int i2), none] [] (z, kd, I, L, Rf) 0 0) ∧
    (g_299 n dp (z, kd, Rf) 1 I L i1 i2 i3 = some (r, I1, L1) → K X d 299 0 0 (AI (fun x τ => x = r ∧ τ = (z, kd, I1, L1, Rf))) 49 [some (.ref 105), some (.int i1), some (.int i2), none] [] (z, kd, I, L, Rf) 0 0) ∧
    (g_299 n dp (z, kd, Rf) 2 I L i1 i2 i3 = some (r, I1, L1) → K X d 299 0 0 (AI (fun x τ => x = r ∧ τ = (z, kd, I1, L1, Rf))) 71 [some (.ref 105), some (.int i1), some (.int i2), some (.int i3)] [] (z, kd, I, L, Rf) 0 0) := by
  intro n
  induction n with
  | zero => intro dp d hdp I L i1 i2 i3 r I1 L1; exact ⟨(fun h => by cases h), (fun h => by cases h), (fun h => by cases h)⟩
  | succ n ih =>
    intro dp d hdp I L i1 i2 i3 r I1 L1
    refine ⟨?_, ?_, ?_⟩
    · intro h
      rw [e_299_0] at h
      refine K_of b_299_0 h_299_0 ?_
      refine q_aload rfl ?_
      refine q_iload rfl ?_
      refine q_iconst (2) (by decide) ?_
      obtain ⟨d_3, h⟩ := ite_some h
      obtain ⟨⟨x0_3, I0_3, L0_3⟩, e_3, h⟩ := Option.bind_eq_some_iff.mp h
      dsimp only at h
      refine q_fv3I (a_292 X hS (d := d - 1) (by omega) e_3) (by omega) (Nat.le_refl _) (Nat.le_refl _) rfl (Nat.le_of_ble_eq_true rfl) ⟨(zl hS 105 (by decide)), congrArg Prod.fst (sk hS 105 (by decide) rfl), by decide⟩ ?_
      refine q_aload rfl ?_
      refine q_iload rfl ?_
      refine q_iconst (2) (by decide) ?_
      obtain ⟨d_9, h⟩ := ite_some h
      obtain ⟨⟨x1_9, I1_9, L1_9⟩, e_9, h⟩ := Option.bind_eq_some_iff.mp h
      dsimp only at h
      refine q_fv3I (a_292 X hS (d := d - 1) (by omega) e_9) (by omega) (Nat.le_refl _) (Nat.le_refl _) rfl (Nat.le_of_ble_eq_true rfl) ⟨(zl hS 105 (by decide)), congrArg Prod.fst (sk hS 105 (by decide) rfl), by decide⟩ ?_
      refine q_icmp_ne (fun c_12 => ?_) (fun c_12 => ?_)
      · rw [if_neg c_12] at h
        exact (ih dp d hdp _ _ i1 i2 0 _ _ _).2.1 h
      · rw [if_pos c_12] at h
        refine q_aload rfl ?_
        refine q_iload rfl ?_
        refine q_iconst (3) (by decide) ?_
        obtain ⟨d_18, h⟩ := ite_some h
        obtain ⟨⟨x2_18, I2_18, L2_18⟩, e_18, h⟩ := Option.bind_eq_some_iff.mp h
        dsimp only at h
        refine q_fv3I (a_292 X hS (d := d - 1) (by omega) e_18) (by omega) (Nat.le_refl _) (Nat.le_refl _) rfl (Nat.le_of_ble_eq_true rfl) ⟨(zl hS 105 (by decide)), congrArg Prod.fst (sk hS 105 (by decide) rfl), by decide⟩ ?_
        refine q_aload rfl ?_
        refine q_iload rfl ?_
        refine q_iconst (3) (by decide) ?_
        obtain ⟨d_24, h⟩ := ite_some h
        obtain ⟨⟨x3_24, I3_24, L3_24⟩, e_24, h⟩ := Option.bind_eq_some_iff.mp h
        dsimp only at h
        refine q_fv3I (a_292 X hS (d := d - 1) (by omega) e_24) (by omega) (Nat.le_refl _) (Nat.le_refl _) rfl (Nat.le_of_ble_eq_true rfl) ⟨(zl hS 105 (by decide)), congrArg Prod.fst (sk hS 105 (by decide) rfl), by decide⟩ ?_
        refine q_icmp_ne (fun c_27 => ?_) (fun c_27 => ?_)
        · rw [if_neg c_27] at h
          exact (ih dp d hdp _ _ i1 i2 0 _ _ _).2.1 h
        · rw [if_pos c_27] at h
          refine q_aload rfl ?_
          refine q_iload rfl ?_
          refine q_iconst (4) (by decide) ?_
          obtain ⟨d_33, h⟩ := ite_some h
          obtain ⟨⟨x4_33, I4_33, L4_33⟩, e_33, h⟩ := Option.bind_eq_some_iff.mp h
          dsimp only at h
          refine q_fv3I (a_292 X hS (d := d - 1) (by omega) e_33) (by omega) (Nat.le_refl _) (Nat.le_refl _) rfl (Nat.le_of_ble_eq_true rfl) ⟨(zl hS 105 (by decide)), congrArg Prod.fst (sk hS 105 (by decide) rfl), by decide⟩ ?_
          refine q_aload rfl ?_
          refine q_iload rfl ?_
          refine q_iconst (4) (by decide) ?_
          obtain ⟨d_39, h⟩ := ite_some h
          obtain ⟨⟨x5_39, I5_39, L5_39⟩, e_39, h⟩ := Option.bind_eq_some_iff.mp h
          dsimp only at h
          refine q_fv3I (a_292 X hS (d := d - 1) (by omega) e_39) (by omega) (Nat.le_refl _) (Nat.le_refl _) rfl (Nat.le_of_ble_eq_true rfl) ⟨(zl hS 105 (by decide)), congrArg Prod.fst (sk hS 105 (by decide) rfl), by decide⟩ ?_
          refine q_icmp_ne (fun c_42 => ?_) (fun c_42 => ?_)
          · rw [if_neg c_42] at h
            exact (ih dp d hdp _ _ i1 i2 0 _ _ _).2.1 h
          · rw [if_pos c_42] at h
            refine q_iconst (1) (by decide) ?_
            refine q_goto ?_
            refine K_of b_299_50 h_299_50 ?_
            refine q_istore (ls1 := [some (.ref 105), some (.int i1), some (.int i2), some (.int (1 : Int32))]) (Nat.le_of_ble_eq_true rfl) rfl ?_
            refine q_iload rfl ?_
            refine q_if_ne (fun c_52 => ?_) (fun c_52 => ?_)
            · rw [if_neg c_52] at h
              exact (ih dp d hdp _ _ i1 i2 (1 : Int32) _ _ _).2.2 h
            · rw [if_pos c_52] at h
              refine q_aload rfl ?_
              refine q_iload rfl ?_
              refine q_iconst (5) (by decide) ?_
              obtain ⟨d_58, h⟩ := ite_some h
              obtain ⟨⟨x6_58, I6_58, L6_58⟩, e_58, h⟩ := Option.bind_eq_some_iff.mp h
              dsimp only at h
              refine q_fv3I (a_292 X hS (d := d - 1) (by omega) e_58) (by omega) (Nat.le_refl _) (Nat.le_refl _) rfl (Nat.le_of_ble_eq_true rfl) ⟨(zl hS 105 (by decide)), congrArg Prod.fst (sk hS 105 (by decide) rfl), by decide⟩ ?_
              refine q_aload rfl ?_
              refine q_iload rfl ?_
              refine q_iconst (5) (by decide) ?_
              obtain ⟨d_64, h⟩ := ite_some h
              obtain ⟨⟨x7_64, I7_64, L7_64⟩, e_64, h⟩ := Option.bind_eq_some_iff.mp h
              dsimp only at h
              refine q_fv3I (a_292 X hS (d := d - 1) (by omega) e_64) (by omega) (Nat.le_refl _) (Nat.le_refl _) rfl (Nat.le_of_ble_eq_true rfl) ⟨(zl hS 105 (by decide)), congrArg Prod.fst (sk hS 105 (by decide) rfl), by decide⟩ ?_
              refine q_iand ?_
              refine q_if_eq (fun c_68 => ?_) (fun c_68 => ?_)
              · rw [if_pos c_68] at h
                refine K_of b_299_75 h_299_75 ?_
                refine q_iconst (0) (by decide) ?_
                refine q_end ?_
                refine K_of b_299_76 h_299_76 ?_
                cases h
                exact q_iret rfl (Nat.le_refl _) (Nat.le_refl _) ⟨rfl, rfl⟩
              · rw [if_neg c_68] at h
                refine q_end ?_
                exact (ih dp d hdp _ _ i1 i2 (1 : Int32) _ _ _).2.2 h
    · intro h
      rw [e_299_1] at h
      refine K_of b_299_49 h_299_49 ?_
      refine q_iconst (0) (by decide) ?_
      refine q_end ?_
      refine K_of b_299_50 h_299_50 ?_
      refine q_istore (ls1 := [some (.ref 105), some (.int i1), some (.int i2), some (.int (0 : Int32))]) (Nat.le_of_ble_eq_true rfl) rfl ?_
      refine q_iload rfl ?_
      refine q_if_ne (fun c_52 => ?_) (fun c_52 => ?_)
      · rw [if_neg c_52] at h
        exact (ih dp d hdp _ _ i1 i2 (0 : Int32) _ _ _).2.2 h
      · rw [if_pos c_52] at h
        refine q_aload rfl ?_
        refine q_iload rfl ?_
        refine q_iconst (5) (by decide) ?_
        obtain ⟨d_58, h⟩ := ite_some h
        obtain ⟨⟨x0_58, I0_58, L0_58⟩, e_58, h⟩ := Option.bind_eq_some_iff.mp h
        dsimp only at h
        refine q_fv3I (a_292 X hS (d := d - 1) (by omega) e_58) (by omega) (Nat.le_refl _) (Nat.le_refl _) rfl (Nat.le_of_ble_eq_true rfl) ⟨(zl hS 105 (by decide)), congrArg Prod.fst (sk hS 105 (by decide) rfl), by decide⟩ ?_
        refine q_aload rfl ?_
        refine q_iload rfl ?_
        refine q_iconst (5) (by decide) ?_
        obtain ⟨d_64, h⟩ := ite_some h
        obtain ⟨⟨x1_64, I1_64, L1_64⟩, e_64, h⟩ := Option.bind_eq_some_iff.mp h
        dsimp only at h
        refine q_fv3I (a_292 X hS (d := d - 1) (by omega) e_64) (by omega) (Nat.le_refl _) (Nat.le_refl _) rfl (Nat.le_of_ble_eq_true rfl) ⟨(zl hS 105 (by decide)), congrArg Prod.fst (sk hS 105 (by decide) rfl), by decide⟩ ?_
        refine q_iand ?_
        refine q_if_eq (fun c_68 => ?_) (fun c_68 => ?_)
        · rw [if_pos c_68] at h
          refine K_of b_299_75 h_299_75 ?_
          refine q_iconst (0) (by decide) ?_
          refine q_end ?_
          refine K_of b_299_76 h_299_76 ?_
          cases h
          exact q_iret rfl (Nat.le_refl _) (Nat.le_refl _) ⟨rfl, rfl⟩
        · rw [if_neg c_68] at h
          refine q_end ?_
          exact (ih dp d hdp _ _ i1 i2 (0 : Int32) _ _ _).2.2 h
    · intro h
      rw [e_299_2] at h
      refine K_of b_299_71 h_299_71 ?_
      refine q_iconst (1) (by decide) ?_
      refine q_goto ?_
      refine K_of b_299_76 h_299_76 ?_
      cases h
      exact q_iret rfl (Nat.le_refl _) (Nat.le_refl _) ⟨rfl, rfl⟩
theorem a_299 (X : GX) {z : Nat} {kd : Nat → Nat × Nat} {Rf : Nat → Nat → Option Nat} (hS : Sh z kd Rf) {n dp d : Nat} (hd : dp ≤ d) {I : (Nat → Nat → Int32)} {L : (Nat → Nat → Int64)} {i1 : Int32} {i2 : Int32} {I1 : (Nat → Nat → Int32)} {L1 : (Nat → Nat → Int64)} {r : Int32} (h : g_299 n dp (z, kd, Rf) 0 I L i1 i2 0 = some (r, I1, L1)) : Ct X d 299 0 0 [.ref 105, .int i1, .int i2] (z, kd, I, L, Rf) (AI (fun x τ => x = r ∧ τ = (z, kd, I1, L1, Rf))) :=
  Ct_of mu_299 (Nat.le_of_ble_eq_true rfl) ((w_299 X hS n dp d hd I L i1 i2 0 _ _ _).1 h)

/-! 298 CutFloorModel.recall(II)I -/
set_option maxHeartbeats 4000000 in
set_option maxRecDepth 100000 in
def g_298 : Nat → Nat → EN → Nat → (Nat → Nat → Int32) → (Nat → Nat → Int64) → Int32 → Int32 → Int32 → Int32 → Int32 → Int32 → Int32 →  Option (Int32 × (Nat → Nat → Int32) × (Nat → Nat → Int64))
  | 0, _, _, _, _, _, _, _, _, _, _, _, _ => none
  | n + 1, dp, e, lab, I, L, i1, i2, i3, i4, i5, i6, i7 =>
    if lab = 0 then (stI (u2 I 105 0 (0 : Int32)) (fun I_2 => (if 1 ≤ dp then (g_193 n (dp - 1) e 0 I_2 L (Int32.toInt64 i1) (0 : Int64) (255 : Int64)).bind (fun ⟨x0_19, I0_19, L0_19⟩ => (if x0_19 = 0 then (some ((-1 : Int32), I0_19, L0_19)) else (if i2 = (-1 : Int32) then (g_298 n dp e 1 I0_19 L0_19 i1 i2 (I_2 107 6) 0 0 0 0) else (if 1 ≤ dp then (g_193 n (dp - 1) e 0 I0_19 L0_19 (Int32.toInt64 i2) (0 : Int64) ((Int32.toInt64 (I_2 107 6)) - (1 : Int64))).bind (fun ⟨x1_37, I1_37, L1_37⟩ => (if x1_37 = 0 then (some ((-1 : Int32), I1_37, L1_37)) else (g_298 n dp e 1 I1_37 L1_37 i1 i2 (I_2 107 6) 0 0 0 0))) else none)))) else none)))
    else if lab = 1 then (g_298 n dp e 2 I L i1 i2 i3 (0 : Int32) (0 : Int32) 0 0)
    else if lab = 2 then (if i3 ≤ i5 then (g_298 n dp e 3 I L i1 i2 i3 i4 (1 : Int32) 0 0) else (if 1 ≤ dp then (g_292 n (dp - 1) e 0 I L i5 (5 : Int32)).bind (fun ⟨x0_67, I0_67, L0_67⟩ => (if (x0_67 &&& i1) = 0 then (if 0 ≤ i5 ∧ (Int32.toNatClampNeg i5) < 16 then (stI (u2 I0_67 141 (Int32.toNatClampNeg i5) (-1 : Int32)) (fun I_80 => (g_298 n dp e 2 I_80 L0_67 i1 i2 i3 i4 (i5 + Int32.ofInt (1)) 0 0))) else none) else (if 0 ≤ i5 ∧ (Int32.toNatClampNeg i5) < 16 then (stI (u2 I0_67 141 (Int32.toNatClampNeg i5) (0 : Int32)) (fun I_80 => (g_298 n dp e 2 I_80 L0_67 i1 i2 i3 i4 (i5 + Int32.ofInt (1)) 0 0))) else none))) else none))
    else if lab = 3 then (if i3 < i5 then (g_298 n dp e 6 I L i1 i2 i3 i4 (0 : Int32) 0 0) else (g_298 n dp e 4 I L i1 i2 i3 i4 i5 (0 : Int32) 0))
    else if lab = 4 then (if i3 ≤ i6 then (g_298 n dp e 3 I L i1 i2 i3 i4 (i5 + Int32.ofInt (1)) 0 0) else (g_298 n dp e 5 I L i1 i2 i3 i4 i5 i6 (0 : Int32)))
    else if lab = 5 then (if i3 ≤ i7 then (g_298 n dp e 4 I L i1 i2 i3 i4 i5 (i6 + Int32.ofInt (1)) 0) else (if 0 ≤ i6 ∧ (Int32.toNatClampNeg i6) < 16 then (if (I 141 (Int32.toNatClampNeg i6)) = (-1 : Int32) then (if 0 ≤ i7 ∧ (Int32.toNatClampNeg i7) < 16 then (if 1 ≤ dp then (g_193 n (dp - 1) e 0 I L (Int32.toInt64 (I 141 (Int32.toNatClampNeg i7))) (0 : Int64) ((Int32.toInt64 i5) - (1 : Int64))).bind (fun ⟨x0_145, I0_145, L0_145⟩ => (if x0_145 = 0 then (if 0 ≤ i6 ∧ (Int32.toNatClampNeg i6) < 16 then (if 0 ≤ i6 ∧ (Int32.toNatClampNeg i6) < 16 then (stI (u2 I0_145 141 (Int32.toNatClampNeg i6) (I0_145 141 (Int32.toNatClampNeg i6))) (fun I_174 => (g_298 n dp e 5 I_174 L0_145 i1 i2 i3 i4 i5 i6 (i7 + Int32.ofInt (1))))) else none) else none) else (if 1 ≤ dp then (g_299 n (dp - 1) e 0 I0_145 L0_145 i6 i7 0).bind (fun ⟨x1_156, I1_156, L1_156⟩ => (if x1_156 = 0 then (if 0 ≤ i6 ∧ (Int32.toNatClampNeg i6) < 16 then (if 0 ≤ i6 ∧ (Int32.toNatClampNeg i6) < 16 then (stI (u2 I1_156 141 (Int32.toNatClampNeg i6) (I1_156 141 (Int32.toNatClampNeg i6))) (fun I_174 => (g_298 n dp e 5 I_174 L1_156 i1 i2 i3 i4 i5 i6 (i7 + Int32.ofInt (1))))) else none) else none) else (if 0 ≤ i6 ∧ (Int32.toNatClampNeg i6) < 16 then (stI (u2 I1_156 141 (Int32.toNatClampNeg i6) i5) (fun I_174 => (g_298 n dp e 5 I_174 L1_156 i1 i2 i3 i4 i5 i6 (i7 + Int32.ofInt (1))))) else none))) else none))) else none) else none) else (if 0 ≤ i6 ∧ (Int32.toNatClampNeg i6) < 16 then (if 0 ≤ i6 ∧ (Int32.toNatClampNeg i6) < 16 then (stI (u2 I 141 (Int32.toNatClampNeg i6) (I 141 (Int32.toNatClampNeg i6))) (fun I_174 => (g_298 n dp e 5 I_174 L i1 i2 i3 i4 i5 i6 (i7 + Int32.ofInt (1))))) else none) else none)) else none))
    else if lab = 6 then (if i3 ≤ i5 then (if i2 = (-1 : Int32) then (some (i4, I, L)) else (if 0 ≤ i2 ∧ (Int32.toNatClampNeg i2) < 16 then (some ((I 141 (Int32.toNatClampNeg i2)), I, L)) else none)) else (if 0 ≤ i5 ∧ (Int32.toNatClampNeg i5) < 16 then (if (I 141 (Int32.toNatClampNeg i5)) = (-1 : Int32) then (g_298 n dp e 6 I L i1 i2 i3 (i4 ||| (0 : Int32)) (i5 + Int32.ofInt (1)) 0 0) else (stI (i4 ||| ((1 : Int32) <<< (i5 &&& 31))) (fun v_224 => (g_298 n dp e 6 I L i1 i2 i3 v_224 (i5 + Int32.ofInt (1)) 0 0)))) else none))
    else none
set_option maxRecDepth 100000 in
theorem e_298_0 (n dp : Nat) (e : EN) (I : (Nat → Nat → Int32)) (L : (Nat → Nat → Int64)) (i1 : Int32) (i2 : Int32) (i3 : Int32) (i4 : Int32) (i5 : Int32) (i6 : Int32) (i7 : Int32) : g_298 (n + 1) dp e 0 I L i1 i2 i3 i4 i5 i6 i7 = (stI (u2 I 105 0 (0 : Int32)) (fun I_2 => (if 1 ≤ dp then (g_193 n (dp - 1) e 0 I_2 L (Int32.toInt64 i1) (0 : Int64) (255 : Int64)).bind (fun ⟨x0_19, I0_19, L0_19⟩ => (if x0_19 = 0 then (some ((-1 : Int32), I0_19, L0_19)) else (if i2 = (-1 : Int32) then (g_298 n dp e 1 I0_19 L0_19 i1 i2 (I_2 107 6) 0 0 0 0) else (if 1 ≤ dp then (g_193 n (dp - 1) e 0 I0_19 L0_19 (Int32.toInt64 i2) (0 : Int64) ((Int32.toInt64 (I_2 107 6)) - (1 : Int64))).bind (fun ⟨x1_37, I1_37, L1_37⟩ => (if x1_37 = 0 then (some ((-1 : Int32), I1_37, L1_37)) else (g_298 n dp e 1 I1_37 L1_37 i1 i2 (I_2 107 6) 0 0 0 0))) else none)))) else none))) := by rw [g_298.eq_2, if_pos (show (0 : Nat) = 0 from rfl)]
set_option maxRecDepth 100000 in
theorem e_298_1 (n dp : Nat) (e : EN) (I : (Nat → Nat → Int32)) (L : (Nat → Nat → Int64)) (i1 : Int32) (i2 : Int32) (i3 : Int32) (i4 : Int32) (i5 : Int32) (i6 : Int32) (i7 : Int32) : g_298 (n + 1) dp e 1 I L i1 i2 i3 i4 i5 i6 i7 = (g_298 n dp e 2 I L i1 i2 i3 (0 : Int32) (0 : Int32) 0 0) := by rw [g_298.eq_2, if_neg (show ¬ ((1 : Nat) = 0) by decide), if_pos (show (1 : Nat) = 1 from rfl)]
set_option maxRecDepth 100000 in
theorem e_298_2 (n dp : Nat) (e : EN) (I : (Nat → Nat → Int32)) (L : (Nat → Nat → Int64)) (i1 : Int32) (i2 : Int32) (i3 : Int32) (i4 : Int32) (i5 : Int32) (i6 : Int32) (i7 : Int32) : g_298 (n + 1) dp e 2 I L i1 i2 i3 i4 i5 i6 i7 = (if i3 ≤ i5 then (g_298 n dp e 3 I L i1 i2 i3 i4 (1 : Int32) 0 0) else (if 1 ≤ dp then (g_292 n (dp - 1) e 0 I L i5 (5 : Int32)).bind (fun ⟨x0_67, I0_67, L0_67⟩ => (if (x0_67 &&& i1) = 0 then (if 0 ≤ i5 ∧ (Int32.toNatClampNeg i5) < 16 then (stI (u2 I0_67 141 (Int32.toNatClampNeg i5) (-1 : Int32)) (fun I_80 => (g_298 n dp e 2 I_80 L0_67 i1 i2 i3 i4 (i5 + Int32.ofInt (1)) 0 0))) else none) else (if 0 ≤ i5 ∧ (Int32.toNatClampNeg i5) < 16 then (stI (u2 I0_67 141 (Int32.toNatClampNeg i5) (0 : Int32)) (fun I_80 => (g_298 n dp e 2 I_80 L0_67 i1 i2 i3 i4 (i5 + Int32.ofInt (1)) 0 0))) else none))) else none)) := by rw [g_298.eq_2, if_neg (show ¬ ((2 : Nat) = 0) by decide), if_neg (show ¬ ((2 : Nat) = 1) by decide), if_pos (show (2 : Nat) = 2 from rfl)]
set_option maxRecDepth 100000 in
theorem e_298_3 (n dp : Nat) (e : EN) (I : (Nat → Nat → Int32)) (L : (Nat → Nat → Int64)) (i1 : Int32) (i2 : Int32) (i3 : Int32) (i4 : Int32) (i5 : Int32) (i6 : Int32) (i7 : Int32) : g_298 (n + 1) dp e 3 I L i1 i2 i3 i4 i5 i6 i7 = (if i3 < i5 then (g_298 n dp e 6 I L i1 i2 i3 i4 (0 : Int32) 0 0) else (g_298 n dp e 4 I L i1 i2 i3 i4 i5 (0 : Int32) 0)) := by rw [g_298.eq_2, if_neg (show ¬ ((3 : Nat) = 0) by decide), if_neg (show ¬ ((3 : Nat) = 1) by decide), if_neg (show ¬ ((3 : Nat) = 2) by decide), if_pos (show (3 : Nat) = 3 from rfl)]
set_option maxRecDepth 100000 in
theorem e_298_4 (n dp : Nat) (e : EN) (I : (Nat → Nat → Int32)) (L : (Nat → Nat → Int64)) (i1 : Int32) (i2 : Int32) (i3 : Int32) (i4 : Int32) (i5 : Int32) (i6 : Int32) (i7 : Int32) : g_298 (n + 1) dp e 4 I L i1 i2 i3 i4 i5 i6 i7 = (if i3 ≤ i6 then (g_298 n dp e 3 I L i1 i2 i3 i4 (i5 + Int32.ofInt (1)) 0 0) else (g_298 n dp e 5 I L i1 i2 i3 i4 i5 i6 (0 : Int32))) := by rw [g_298.eq_2, if_neg (show ¬ ((4 : Nat) = 0) by decide), if_neg (show ¬ ((4 : Nat) = 1) by decide), if_neg (show ¬ ((4 : Nat) = 2) by decide), if_neg (show ¬ ((4 : Nat) = 3) by decide), if_pos (show (4 : Nat) = 4 from rfl)]
set_option maxRecDepth 100000 in
theorem e_298_5 (n dp : Nat) (e : EN) (I : (Nat → Nat → Int32)) (L : (Nat → Nat → Int64)) (i1 : Int32) (i2 : Int32) (i3 : Int32) (i4 : Int32) (i5 : Int32) (i6 : Int32) (i7 : Int32) : g_298 (n + 1) dp e 5 I L i1 i2 i3 i4 i5 i6 i7 = (if i3 ≤ i7 then (g_298 n dp e 4 I L i1 i2 i3 i4 i5 (i6 + Int32.ofInt (1)) 0) else (if 0 ≤ i6 ∧ (Int32.toNatClampNeg i6) < 16 then (if (I 141 (Int32.toNatClampNeg i6)) = (-1 : Int32) then (if 0 ≤ i7 ∧ (Int32.toNatClampNeg i7) < 16 then (if 1 ≤ dp then (g_193 n (dp - 1) e 0 I L (Int32.toInt64 (I 141 (Int32.toNatClampNeg i7))) (0 : Int64) ((Int32.toInt64 i5) - (1 : Int64))).bind (fun ⟨x0_145, I0_145, L0_145⟩ => (if x0_145 = 0 then (if 0 ≤ i6 ∧ (Int32.toNatClampNeg i6) < 16 then (if 0 ≤ i6 ∧ (Int32.toNatClampNeg i6) < 16 then (stI (u2 I0_145 141 (Int32.toNatClampNeg i6) (I0_145 141 (Int32.toNatClampNeg i6))) (fun I_174 => (g_298 n dp e 5 I_174 L0_145 i1 i2 i3 i4 i5 i6 (i7 + Int32.ofInt (1))))) else none) else none) else (if 1 ≤ dp then (g_299 n (dp - 1) e 0 I0_145 L0_145 i6 i7 0).bind (fun ⟨x1_156, I1_156, L1_156⟩ => (if x1_156 = 0 then (if 0 ≤ i6 ∧ (Int32.toNatClampNeg i6) < 16 then (if 0 ≤ i6 ∧ (Int32.toNatClampNeg i6) < 16 then (stI (u2 I1_156 141 (Int32.toNatClampNeg i6) (I1_156 141 (Int32.toNatClampNeg i6))) (fun I_174 => (g_298 n dp e 5 I_174 L1_156 i1 i2 i3 i4 i5 i6 (i7 + Int32.ofInt (1))))) else none) else none) else (if 0 ≤ i6 ∧ (Int32.toNatClampNeg i6) < 16 then (stI (u2 I1_156 141 (Int32.toNatClampNeg i6) i5) (fun I_174 => (g_298 n dp e 5 I_174 L1_156 i1 i2 i3 i4 i5 i6 (i7 + Int32.ofInt (1))))) else none))) else none))) else none) else none) else (if 0 ≤ i6 ∧ (Int32.toNatClampNeg i6) < 16 then (if 0 ≤ i6 ∧ (Int32.toNatClampNeg i6) < 16 then (stI (u2 I 141 (Int32.toNatClampNeg i6) (I 141 (Int32.toNatClampNeg i6))) (fun I_174 => (g_298 n dp e 5 I_174 L i1 i2 i3 i4 i5 i6 (i7 + Int32.ofInt (1))))) else none) else none)) else none)) := by rw [g_298.eq_2, if_neg (show ¬ ((5 : Nat) = 0) by decide), if_neg (show ¬ ((5 : Nat) = 1) by decide), if_neg (show ¬ ((5 : Nat) = 2) by decide), if_neg (show ¬ ((5 : Nat) = 3) by decide), if_neg (show ¬ ((5 : Nat) = 4) by decide), if_pos (show (5 : Nat) = 5 from rfl)]
set_option maxRecDepth 100000 in
theorem e_298_6 (n dp : Nat) (e : EN) (I : (Nat → Nat → Int32)) (L : (Nat → Nat → Int64)) (i1 : Int32) (i2 : Int32) (i3 : Int32) (i4 : Int32) (i5 : Int32) (i6 : Int32) (i7 : Int32) : g_298 (n + 1) dp e 6 I L i1 i2 i3 i4 i5 i6 i7 = (if i3 ≤ i5 then (if i2 = (-1 : Int32) then (some (i4, I, L)) else (if 0 ≤ i2 ∧ (Int32.toNatClampNeg i2) < 16 then (some ((I 141 (Int32.toNatClampNeg i2)), I, L)) else none)) else (if 0 ≤ i5 ∧ (Int32.toNatClampNeg i5) < 16 then (if (I 141 (Int32.toNatClampNeg i5)) = (-1 : Int32) then (g_298 n dp e 6 I L i1 i2 i3 (i4 ||| (0 : Int32)) (i5 + Int32.ofInt (1)) 0 0) else (stI (i4 ||| ((1 : Int32) <<< (i5 &&& 31))) (fun v_224 => (g_298 n dp e 6 I L i1 i2 i3 v_224 (i5 + Int32.ofInt (1)) 0 0)))) else none)) := by rw [g_298.eq_2, if_neg (show ¬ ((6 : Nat) = 0) by decide), if_neg (show ¬ ((6 : Nat) = 1) by decide), if_neg (show ¬ ((6 : Nat) = 2) by decide), if_neg (show ¬ ((6 : Nat) = 3) by decide), if_neg (show ¬ ((6 : Nat) = 4) by decide), if_neg (show ¬ ((6 : Nat) = 5) by decide), if_pos (show (6 : Nat) = 6 from rfl)]
set_option maxHeartbeats 8000000 in
set_option maxRecDepth 100000 in
theorem w_298 (X : GX) {z : Nat} {kd : Nat → Nat × Nat} {Rf : Nat → Nat → Option Nat} (hS : Sh z kd Rf) : ∀ (n dp d : Nat), dp ≤ d → ∀ (I : (Nat → Nat → Int32)) (L : (Nat → Nat → Int64)) (i1 : Int32) (i2 : Int32) (i3 : Int32) (i4 : Int32) (i5 : Int32) (i6 : Int32) (i7 : Int32) (r : Int32) (I1 : (Nat → Nat → Int32)) (L1 : (Nat → Nat → Int64)), (g_298 n dp (z, kd, Rf) 0 I L i1 i2 i3 i4 i5 i6 i7 = some (r, I1, L1) → K X d 298 0 0 (AI (fun x τ => x = r ∧ τ = (z, kd, I1, L1, Rf))) 0 [some (.ref 105), some (.int i1), some (.int i2), none, none, none, none, none] [] (z, kd, I, L, Rf) 0 0) ∧
    (g_298 n dp (z, kd, Rf) 1 I L i1 i2 i3 i4 i5 i6 i7 = some (r, I1, L1) → K X d 298 0 0 (AI (fun x τ => x = r ∧ τ = (z, kd, I1, L1, Rf))) 45 [some (.ref 105), some (.int i1), some (.int i2), some (.int i3), none, none, none, none] [] (z, kd, I, L, Rf) 0 0) ∧
    (g_298 n dp (z, kd, Rf) 2 I L i1 i2 i3 i4 i5 i6 i7 = some (r, I1, L1) → K X d 298 0 0 (AI (fun x τ => x = r ∧ τ = (z, kd, I1, L1, Rf))) 51 [some (.ref 105), some (.int i1), some (.int i2), some (.int i3), some (.int i4), some (.int i5), none, none] [] (z, kd, I, L, Rf) 0 0) ∧
    (g_298 n dp (z, kd, Rf) 3 I L i1 i2 i3 i4 i5 i6 i7 = some (r, I1, L1) → K X d 298 0 0 (AI (fun x τ => x = r ∧ τ = (z, kd, I1, L1, Rf))) 90 [some (.ref 105), some (.int i1), some (.int i2), some (.int i3), some (.int i4), some (.int i5), none, none] [] (z, kd, I, L, Rf) 0 0) ∧
    (g_298 n dp (z, kd, Rf) 4 I L i1 i2 i3 i4 i5 i6 i7 = some (r, I1, L1) → K X d 298 0 0 (AI (fun x τ => x = r ∧ τ = (z, kd, I1, L1, Rf))) 99 [some (.ref 105), some (.int i1), some (.int i2), some (.int i3), some (.int i4), some (.int i5), some (.int i6), none] [] (z, kd, I, L, Rf) 0 0) ∧
    (g_298 n dp (z, kd, Rf) 5 I L i1 i2 i3 i4 i5 i6 i7 = some (r, I1, L1) → K X d 298 0 0 (AI (fun x τ => x = r ∧ τ = (z, kd, I1, L1, Rf))) 108 [some (.ref 105), some (.int i1), some (.int i2), some (.int i3), some (.int i4), some (.int i5), some (.int i6), some (.int i7)] [] (z, kd, I, L, Rf) 0 0) ∧
    (g_298 n dp (z, kd, Rf) 6 I L i1 i2 i3 i4 i5 i6 i7 = some (r, I1, L1) → K X d 298 0 0 (AI (fun x τ => x = r ∧ τ = (z, kd, I1, L1, Rf))) 196 [some (.ref 105), some (.int i1), some (.int i2), some (.int i3), some (.int i4), some (.int i5), none, none] [] (z, kd, I, L, Rf) 0 0) := by
  intro n
  induction n with
  | zero => intro dp d hdp I L i1 i2 i3 i4 i5 i6 i7 r I1 L1; exact ⟨(fun h => by cases h), (fun h => by cases h), (fun h => by cases h), (fun h => by cases h), (fun h => by cases h), (fun h => by cases h), (fun h => by cases h)⟩
  | succ n ih =>
    intro dp d hdp I L i1 i2 i3 i4 i5 i6 i7 r I1 L1
    refine ⟨?_, ?_, ?_, ?_, ?_, ?_, ?_⟩
    · intro h
      rw [e_298_0] at h
      refine K_of b_298_0 h_298_0 ?_
      refine q_aload rfl ?_
      refine q_iconst (0) (by decide) ?_
      refine q_putI (c0 := 12) (j := 0) rfl rfl (zl hS 105 (by decide)) (sk hS 105 (by decide) rfl) rfl ?_
      obtain ⟨I_2, nI_2, h⟩ := stI_some h
      refine q_nI nI_2 ?_
      refine q_aload rfl ?_
      refine q_getRs (c0 := 12) (j := 3) rfl rfl (zl hS 105 (by decide)) (sk hS 105 (by decide) rfl) rfl (by decide) (r_105_3 hS) ?_
      refine q_iconst (6) (by decide) ?_
      refine q_ialN (6) rfl (zl hS 107 (by decide)) (sk hS 107 (by decide) rfl) (by decide) (by decide) ?_
      refine q_istore (ls1 := [some (.ref 105), some (.int i1), some (.int i2), some (.int (I_2 107 6)), none, none, none, none]) (Nat.le_of_ble_eq_true rfl) rfl ?_
      refine q_iload rfl ?_
      refine q_i2l ?_
      refine q_lconst (0) (by decide) ?_
      refine q_lconst (255) (by decide) ?_
      obtain ⟨d_19, h⟩ := ite_some h
      obtain ⟨⟨x0_19, I0_19, L0_19⟩, e_19, h⟩ := Option.bind_eq_some_iff.mp h
      dsimp only at h
      refine q_fs3I (a_193 X hS (d := d - 1) (by omega) e_19) (by omega) (Nat.le_refl _) (Nat.le_refl _) rfl (Nat.le_of_ble_eq_true rfl) ?_
      refine q_if_eq (fun c_22 => ?_) (fun c_22 => ?_)
      · rw [if_pos c_22] at h
        refine K_of b_298_43 h_298_43 ?_
        refine q_iconst (-1) (by decide) ?_
        cases h
        exact q_iret rfl (Nat.le_refl _) (Nat.le_refl _) ⟨rfl, rfl⟩
      · rw [if_neg c_22] at h
        refine q_iload rfl ?_
        refine q_iconst (-1) (by decide) ?_
        refine q_icmp_eq (fun c_27 => ?_) (fun c_27 => ?_)
        · rw [if_pos c_27] at h
          exact (ih dp d hdp _ _ i1 i2 (I_2 107 6) 0 0 0 0 _ _ _).2.1 h
        · rw [if_neg c_27] at h
          refine q_iload rfl ?_
          refine q_i2l ?_
          refine q_lconst (0) (by decide) ?_
          refine q_iload rfl ?_
          refine q_i2l ?_
          refine q_lconst (1) (by decide) ?_
          refine q_lsub ?_
          obtain ⟨d_37, h⟩ := ite_some h
          obtain ⟨⟨x1_37, I1_37, L1_37⟩, e_37, h⟩ := Option.bind_eq_some_iff.mp h
          dsimp only at h
          refine q_fs3I (a_193 X hS (d := d - 1) (by omega) e_37) (by omega) (Nat.le_refl _) (Nat.le_refl _) rfl (Nat.le_of_ble_eq_true rfl) ?_
          refine q_if_ne (fun c_40 => ?_) (fun c_40 => ?_)
          · rw [if_neg c_40] at h
            exact (ih dp d hdp _ _ i1 i2 (I_2 107 6) 0 0 0 0 _ _ _).2.1 h
          · rw [if_pos c_40] at h
            refine q_end ?_
            refine K_of b_298_43 h_298_43 ?_
            refine q_iconst (-1) (by decide) ?_
            cases h
            exact q_iret rfl (Nat.le_refl _) (Nat.le_refl _) ⟨rfl, rfl⟩
    · intro h
      rw [e_298_1] at h
      refine K_of b_298_45 h_298_45 ?_
      refine q_iconst (0) (by decide) ?_
      refine q_istore (ls1 := [some (.ref 105), some (.int i1), some (.int i2), some (.int i3), some (.int (0 : Int32)), none, none, none]) (Nat.le_of_ble_eq_true rfl) rfl ?_
      refine q_iconst (0) (by decide) ?_
      refine q_istore (ls1 := [some (.ref 105), some (.int i1), some (.int i2), some (.int i3), some (.int (0 : Int32)), some (.int (0 : Int32)), none, none]) (Nat.le_of_ble_eq_true rfl) rfl ?_
      refine q_end ?_
      exact (ih dp d hdp _ _ i1 i2 i3 (0 : Int32) (0 : Int32) 0 0 _ _ _).2.2.1 h
    · intro h
      rw [e_298_2] at h
      refine K_of b_298_51 h_298_51 ?_
      refine q_iload rfl ?_
      refine q_iload rfl ?_
      refine q_icmp_ge (fun c_54 => ?_) (fun c_54 => ?_)
      · rw [if_pos c_54] at h
        refine K_of b_298_87 h_298_87 ?_
        refine q_iconst (1) (by decide) ?_
        refine q_istore (ls1 := [some (.ref 105), some (.int i1), some (.int i2), some (.int i3), some (.int i4), some (.int (1 : Int32)), none, none]) (Nat.le_of_ble_eq_true rfl) rfl ?_
        refine q_end ?_
        exact (ih dp d hdp _ _ i1 i2 i3 i4 (1 : Int32) 0 0 _ _ _).2.2.2.1 h
      · rw [if_neg c_54] at h
        refine q_aload rfl ?_
        refine q_getRs (c0 := 12) (j := 64) rfl rfl (zl hS 105 (by decide)) (sk hS 105 (by decide) rfl) rfl (by decide) (r_105_64 hS) ?_
        refine q_iload rfl ?_
        refine q_aload rfl ?_
        refine q_iload rfl ?_
        refine q_iconst (5) (by decide) ?_
        obtain ⟨d_67, h⟩ := ite_some h
        obtain ⟨⟨x0_67, I0_67, L0_67⟩, e_67, h⟩ := Option.bind_eq_some_iff.mp h
        dsimp only at h
        refine q_fv3I (a_292 X hS (d := d - 1) (by omega) e_67) (by omega) (Nat.le_refl _) (Nat.le_refl _) rfl (Nat.le_of_ble_eq_true rfl) ⟨(zl hS 105 (by decide)), congrArg Prod.fst (sk hS 105 (by decide) rfl), by decide⟩ ?_
        refine q_iload rfl ?_
        refine q_iand ?_
        refine q_if_eq (fun c_72 => ?_) (fun c_72 => ?_)
        · rw [if_pos c_72] at h
          refine K_of b_298_79 h_298_79 ?_
          refine q_iconst (-1) (by decide) ?_
          refine q_end ?_
          refine K_of b_298_80 h_298_80 ?_
          obtain ⟨⟨u_80, v_80⟩, h⟩ := ite_some h
          refine q_iasN (Int32.toNatClampNeg i5) (nx u_80) (zl hS 141 (by decide)) (sk hS 141 (by decide) rfl) v_80 (by decide) ?_
          obtain ⟨I_80, nI_80, h⟩ := stI_some h
          refine q_nI nI_80 ?_
          refine q_iinc (ls1 := [some (.ref 105), some (.int i1), some (.int i2), some (.int i3), some (.int i4), some (.int (i5 + Int32.ofInt (1))), none, none]) rfl rfl ?_
          refine q_goto ?_
          exact (ih dp d hdp _ _ i1 i2 i3 i4 (i5 + Int32.ofInt (1)) 0 0 _ _ _).2.2.1 h
        · rw [if_neg c_72] at h
          refine q_iconst (0) (by decide) ?_
          refine q_goto ?_
          refine K_of b_298_80 h_298_80 ?_
          obtain ⟨⟨u_80, v_80⟩, h⟩ := ite_some h
          refine q_iasN (Int32.toNatClampNeg i5) (nx u_80) (zl hS 141 (by decide)) (sk hS 141 (by decide) rfl) v_80 (by decide) ?_
          obtain ⟨I_80, nI_80, h⟩ := stI_some h
          refine q_nI nI_80 ?_
          refine q_iinc (ls1 := [some (.ref 105), some (.int i1), some (.int i2), some (.int i3), some (.int i4), some (.int (i5 + Int32.ofInt (1))), none, none]) rfl rfl ?_
          refine q_goto ?_
          exact (ih dp d hdp _ _ i1 i2 i3 i4 (i5 + Int32.ofInt (1)) 0 0 _ _ _).2.2.1 h
    · intro h
      rw [e_298_3] at h
      refine K_of b_298_90 h_298_90 ?_
      refine q_iload rfl ?_
      refine q_iload rfl ?_
      refine q_icmp_gt (fun c_93 => ?_) (fun c_93 => ?_)
      · rw [if_pos c_93] at h
        refine K_of b_298_193 h_298_193 ?_
        refine q_iconst (0) (by decide) ?_
        refine q_istore (ls1 := [some (.ref 105), some (.int i1), some (.int i2), some (.int i3), some (.int i4), some (.int (0 : Int32)), none, none]) (Nat.le_of_ble_eq_true rfl) rfl ?_
        refine q_end ?_
        exact (ih dp d hdp _ _ i1 i2 i3 i4 (0 : Int32) 0 0 _ _ _).2.2.2.2.2.2 h
      · rw [if_neg c_93] at h
        refine q_iconst (0) (by decide) ?_
        refine q_istore (ls1 := [some (.ref 105), some (.int i1), some (.int i2), some (.int i3), some (.int i4), some (.int i5), some (.int (0 : Int32)), none]) (Nat.le_of_ble_eq_true rfl) rfl ?_
        refine q_end ?_
        exact (ih dp d hdp _ _ i1 i2 i3 i4 i5 (0 : Int32) 0 _ _ _).2.2.2.2.1 h
    · intro h
      rw [e_298_4] at h
      refine K_of b_298_99 h_298_99 ?_
      refine q_iload rfl ?_
      refine q_iload rfl ?_
      refine q_icmp_ge (fun c_102 => ?_) (fun c_102 => ?_)
      · rw [if_pos c_102] at h
        refine K_of b_298_187 h_298_187 ?_
        refine q_iinc (ls1 := [some (.ref 105), some (.int i1), some (.int i2), some (.int i3), some (.int i4), some (.int (i5 + Int32.ofInt (1))), some (.int i6), none]) rfl rfl ?_
        refine q_goto ?_
        refine K_mask [true, true, true, true, true, true, false, false] (Nat.le_of_ble_eq_true rfl) ?_
        exact (ih dp d hdp _ _ i1 i2 i3 i4 (i5 + Int32.ofInt (1)) 0 0 _ _ _).2.2.2.1 h
      · rw [if_neg c_102] at h
        refine q_iconst (0) (by decide) ?_
        refine q_istore (ls1 := [some (.ref 105), some (.int i1), some (.int i2), some (.int i3), some (.int i4), some (.int i5), some (.int i6), some (.int (0 : Int32))]) (Nat.le_of_ble_eq_true rfl) rfl ?_
        refine q_end ?_
        exact (ih dp d hdp _ _ i1 i2 i3 i4 i5 i6 (0 : Int32) _ _ _).2.2.2.2.2.1 h
    · intro h
      rw [e_298_5] at h
      refine K_of b_298_108 h_298_108 ?_
      refine q_iload rfl ?_
      refine q_iload rfl ?_
      refine q_icmp_ge (fun c_111 => ?_) (fun c_111 => ?_)
      · rw [if_pos c_111] at h
        refine K_of b_298_181 h_298_181 ?_
        refine q_iinc (ls1 := [some (.ref 105), some (.int i1), some (.int i2), some (.int i3), some (.int i4), some (.int i5), some (.int (i6 + Int32.ofInt (1))), some (.int i7)]) rfl rfl ?_
        refine q_goto ?_
        refine K_mask [true, true, true, true, true, true, true, false] (Nat.le_of_ble_eq_true rfl) ?_
        exact (ih dp d hdp _ _ i1 i2 i3 i4 i5 (i6 + Int32.ofInt (1)) 0 _ _ _).2.2.2.2.1 h
      · rw [if_neg c_111] at h
        refine q_aload rfl ?_
        refine q_getRs (c0 := 12) (j := 64) rfl rfl (zl hS 105 (by decide)) (sk hS 105 (by decide) rfl) rfl (by decide) (r_105_64 hS) ?_
        refine q_iload rfl ?_
        refine q_aload rfl ?_
        refine q_getRs (c0 := 12) (j := 64) rfl rfl (zl hS 105 (by decide)) (sk hS 105 (by decide) rfl) rfl (by decide) (r_105_64 hS) ?_
        refine q_iload rfl ?_
        obtain ⟨⟨u_126, v_126⟩, h⟩ := ite_some h
        refine q_ialN (Int32.toNatClampNeg i6) (nx u_126) (zl hS 141 (by decide)) (sk hS 141 (by decide) rfl) v_126 (by decide) ?_
        refine q_iconst (-1) (by decide) ?_
        refine q_icmp_ne (fun c_128 => ?_) (fun c_128 => ?_)
        · rw [if_neg c_128] at h
          refine K_of b_298_167 h_298_167 ?_
          refine q_aload rfl ?_
          refine q_getRs (c0 := 12) (j := 64) rfl rfl (zl hS 105 (by decide)) (sk hS 105 (by decide) rfl) rfl (by decide) (r_105_64 hS) ?_
          refine q_iload rfl ?_
          obtain ⟨⟨u_173, v_173⟩, h⟩ := ite_some h
          refine q_ialN (Int32.toNatClampNeg i6) (nx u_173) (zl hS 141 (by decide)) (sk hS 141 (by decide) rfl) v_173 (by decide) ?_
          refine q_end ?_
          refine K_of b_298_174 h_298_174 ?_
          obtain ⟨⟨u_174, v_174⟩, h⟩ := ite_some h
          refine q_iasN (Int32.toNatClampNeg i6) (nx u_174) (zl hS 141 (by decide)) (sk hS 141 (by decide) rfl) v_174 (by decide) ?_
          obtain ⟨I_174, nI_174, h⟩ := stI_some h
          refine q_nI nI_174 ?_
          refine q_iinc (ls1 := [some (.ref 105), some (.int i1), some (.int i2), some (.int i3), some (.int i4), some (.int i5), some (.int i6), some (.int (i7 + Int32.ofInt (1)))]) rfl rfl ?_
          refine q_goto ?_
          exact (ih dp d hdp _ _ i1 i2 i3 i4 i5 i6 (i7 + Int32.ofInt (1)) _ _ _).2.2.2.2.2.1 h
        · rw [if_pos c_128] at h
          refine q_aload rfl ?_
          refine q_getRs (c0 := 12) (j := 64) rfl rfl (zl hS 105 (by decide)) (sk hS 105 (by decide) rfl) rfl (by decide) (r_105_64 hS) ?_
          refine q_iload rfl ?_
          obtain ⟨⟨u_137, v_137⟩, h⟩ := ite_some h
          refine q_ialN (Int32.toNatClampNeg i7) (nx u_137) (zl hS 141 (by decide)) (sk hS 141 (by decide) rfl) v_137 (by decide) ?_
          refine q_i2l ?_
          refine q_lconst (0) (by decide) ?_
          refine q_iload rfl ?_
          refine q_i2l ?_
          refine q_lconst (1) (by decide) ?_
          refine q_lsub ?_
          obtain ⟨d_145, h⟩ := ite_some h
          obtain ⟨⟨x0_145, I0_145, L0_145⟩, e_145, h⟩ := Option.bind_eq_some_iff.mp h
          dsimp only at h
          refine q_fs3I (a_193 X hS (d := d - 1) (by omega) e_145) (by omega) (Nat.le_refl _) (Nat.le_refl _) rfl (Nat.le_of_ble_eq_true rfl) ?_
          refine q_if_eq (fun c_148 => ?_) (fun c_148 => ?_)
          · rw [if_pos c_148] at h
            refine K_of b_298_167 h_298_167 ?_
            refine q_aload rfl ?_
            refine q_getRs (c0 := 12) (j := 64) rfl rfl (zl hS 105 (by decide)) (sk hS 105 (by decide) rfl) rfl (by decide) (r_105_64 hS) ?_
            refine q_iload rfl ?_
            obtain ⟨⟨u_173, v_173⟩, h⟩ := ite_some h
            refine q_ialN (Int32.toNatClampNeg i6) (nx u_173) (zl hS 141 (by decide)) (sk hS 141 (by decide) rfl) v_173 (by decide) ?_
            refine q_end ?_
            refine K_of b_298_174 h_298_174 ?_
            obtain ⟨⟨u_174, v_174⟩, h⟩ := ite_some h
            refine q_iasN (Int32.toNatClampNeg i6) (nx u_174) (zl hS 141 (by decide)) (sk hS 141 (by decide) rfl) v_174 (by decide) ?_
            obtain ⟨I_174, nI_174, h⟩ := stI_some h
            refine q_nI nI_174 ?_
            refine q_iinc (ls1 := [some (.ref 105), some (.int i1), some (.int i2), some (.int i3), some (.int i4), some (.int i5), some (.int i6), some (.int (i7 + Int32.ofInt (1)))]) rfl rfl ?_
            refine q_goto ?_
            exact (ih dp d hdp _ _ i1 i2 i3 i4 i5 i6 (i7 + Int32.ofInt (1)) _ _ _).2.2.2.2.2.1 h
          · rw [if_neg c_148] at h
            refine q_aload rfl ?_
            refine q_iload rfl ?_
            refine q_iload rfl ?_
            obtain ⟨d_156, h⟩ := ite_some h
            obtain ⟨⟨x1_156, I1_156, L1_156⟩, e_156, h⟩ := Option.bind_eq_some_iff.mp h
            dsimp only at h
            refine q_fv3I (a_299 X hS (d := d - 1) (by omega) e_156) (by omega) (Nat.le_refl _) (Nat.le_refl _) rfl (Nat.le_of_ble_eq_true rfl) ⟨(zl hS 105 (by decide)), congrArg Prod.fst (sk hS 105 (by decide) rfl), by decide⟩ ?_
            refine q_if_eq (fun c_159 => ?_) (fun c_159 => ?_)
            · rw [if_pos c_159] at h
              refine K_of b_298_167 h_298_167 ?_
              refine q_aload rfl ?_
              refine q_getRs (c0 := 12) (j := 64) rfl rfl (zl hS 105 (by decide)) (sk hS 105 (by decide) rfl) rfl (by decide) (r_105_64 hS) ?_
              refine q_iload rfl ?_
              obtain ⟨⟨u_173, v_173⟩, h⟩ := ite_some h
              refine q_ialN (Int32.toNatClampNeg i6) (nx u_173) (zl hS 141 (by decide)) (sk hS 141 (by decide) rfl) v_173 (by decide) ?_
              refine q_end ?_
              refine K_of b_298_174 h_298_174 ?_
              obtain ⟨⟨u_174, v_174⟩, h⟩ := ite_some h
              refine q_iasN (Int32.toNatClampNeg i6) (nx u_174) (zl hS 141 (by decide)) (sk hS 141 (by decide) rfl) v_174 (by decide) ?_
              obtain ⟨I_174, nI_174, h⟩ := stI_some h
              refine q_nI nI_174 ?_
              refine q_iinc (ls1 := [some (.ref 105), some (.int i1), some (.int i2), some (.int i3), some (.int i4), some (.int i5), some (.int i6), some (.int (i7 + Int32.ofInt (1)))]) rfl rfl ?_
              refine q_goto ?_
              exact (ih dp d hdp _ _ i1 i2 i3 i4 i5 i6 (i7 + Int32.ofInt (1)) _ _ _).2.2.2.2.2.1 h
            · rw [if_neg c_159] at h
              refine q_iload rfl ?_
              refine q_goto ?_
              refine K_of b_298_174 h_298_174 ?_
              obtain ⟨⟨u_174, v_174⟩, h⟩ := ite_some h
              refine q_iasN (Int32.toNatClampNeg i6) (nx u_174) (zl hS 141 (by decide)) (sk hS 141 (by decide) rfl) v_174 (by decide) ?_
              obtain ⟨I_174, nI_174, h⟩ := stI_some h
              refine q_nI nI_174 ?_
              refine q_iinc (ls1 := [some (.ref 105), some (.int i1), some (.int i2), some (.int i3), some (.int i4), some (.int i5), some (.int i6), some (.int (i7 + Int32.ofInt (1)))]) rfl rfl ?_
              refine q_goto ?_
              exact (ih dp d hdp _ _ i1 i2 i3 i4 i5 i6 (i7 + Int32.ofInt (1)) _ _ _).2.2.2.2.2.1 h
    · intro h
      rw [e_298_6] at h
      refine K_of b_298_196 h_298_196 ?_
      refine q_iload rfl ?_
      refine q_iload rfl ?_
      refine q_icmp_ge (fun c_199 => ?_) (fun c_199 => ?_)
      · rw [if_pos c_199] at h
        refine K_of b_298_232 h_298_232 ?_
        refine q_iload rfl ?_
        refine q_iconst (-1) (by decide) ?_
        refine q_icmp_ne (fun c_234 => ?_) (fun c_234 => ?_)
        · rw [if_neg c_234] at h
          refine K_of b_298_242 h_298_242 ?_
          refine q_aload rfl ?_
          refine q_getRs (c0 := 12) (j := 64) rfl rfl (zl hS 105 (by decide)) (sk hS 105 (by decide) rfl) rfl (by decide) (r_105_64 hS) ?_
          refine q_iload rfl ?_
          obtain ⟨⟨u_247, v_247⟩, h⟩ := ite_some h
          refine q_ialN (Int32.toNatClampNeg i2) (nx u_247) (zl hS 141 (by decide)) (sk hS 141 (by decide) rfl) v_247 (by decide) ?_
          refine q_end ?_
          refine K_of b_298_248 h_298_248 ?_
          cases h
          exact q_iret rfl (Nat.le_refl _) (Nat.le_refl _) ⟨rfl, rfl⟩
        · rw [if_pos c_234] at h
          refine q_iload rfl ?_
          refine q_goto ?_
          refine K_of b_298_248 h_298_248 ?_
          cases h
          exact q_iret rfl (Nat.le_refl _) (Nat.le_refl _) ⟨rfl, rfl⟩
      · rw [if_neg c_199] at h
        refine q_iload rfl ?_
        refine q_aload rfl ?_
        refine q_getRs (c0 := 12) (j := 64) rfl rfl (zl hS 105 (by decide)) (sk hS 105 (by decide) rfl) rfl (by decide) (r_105_64 hS) ?_
        refine q_iload rfl ?_
        obtain ⟨⟨u_210, v_210⟩, h⟩ := ite_some h
        refine q_ialN (Int32.toNatClampNeg i5) (nx u_210) (zl hS 141 (by decide)) (sk hS 141 (by decide) rfl) v_210 (by decide) ?_
        refine q_iconst (-1) (by decide) ?_
        refine q_icmp_eq (fun c_212 => ?_) (fun c_212 => ?_)
        · rw [if_pos c_212] at h
          refine K_of b_298_222 h_298_222 ?_
          refine q_iconst (0) (by decide) ?_
          refine q_end ?_
          refine K_of b_298_223 h_298_223 ?_
          refine q_ior ?_
          refine q_istore (ls1 := [some (.ref 105), some (.int i1), some (.int i2), some (.int i3), some (.int (i4 ||| (0 : Int32))), some (.int i5), none, none]) (Nat.le_of_ble_eq_true rfl) rfl ?_
          refine q_iinc (ls1 := [some (.ref 105), some (.int i1), some (.int i2), some (.int i3), some (.int (i4 ||| (0 : Int32))), some (.int (i5 + Int32.ofInt (1))), none, none]) rfl rfl ?_
          refine q_goto ?_
          exact (ih dp d hdp _ _ i1 i2 i3 (i4 ||| (0 : Int32)) (i5 + Int32.ofInt (1)) 0 0 _ _ _).2.2.2.2.2.2 h
        · rw [if_neg c_212] at h
          refine q_iconst (1) (by decide) ?_
          refine q_iload rfl ?_
          refine q_ishl ?_
          refine q_goto ?_
          refine K_of b_298_223 h_298_223 ?_
          refine q_ior ?_
          obtain ⟨v_224, nv_224, h⟩ := stI_some h
          refine q_eqi nv_224.symm ?_
          refine q_istore (ls1 := [some (.ref 105), some (.int i1), some (.int i2), some (.int i3), some (.int v_224), some (.int i5), none, none]) (Nat.le_of_ble_eq_true rfl) rfl ?_
          refine q_iinc (ls1 := [some (.ref 105), some (.int i1), some (.int i2), some (.int i3), some (.int v_224), some (.int (i5 + Int32.ofInt (1))), none, none]) rfl rfl ?_
          refine q_goto ?_
          exact (ih dp d hdp _ _ i1 i2 i3 v_224 (i5 + Int32.ofInt (1)) 0 0 _ _ _).2.2.2.2.2.2 h
theorem a_298 (X : GX) {z : Nat} {kd : Nat → Nat × Nat} {Rf : Nat → Nat → Option Nat} (hS : Sh z kd Rf) {n dp d : Nat} (hd : dp ≤ d) {I : (Nat → Nat → Int32)} {L : (Nat → Nat → Int64)} {i1 : Int32} {i2 : Int32} {I1 : (Nat → Nat → Int32)} {L1 : (Nat → Nat → Int64)} {r : Int32} (h : g_298 n dp (z, kd, Rf) 0 I L i1 i2 0 0 0 0 0 = some (r, I1, L1)) : Ct X d 298 0 0 [.ref 105, .int i1, .int i2] (z, kd, I, L, Rf) (AI (fun x τ => x = r ∧ τ = (z, kd, I1, L1, Rf))) :=
  Ct_of mu_298 (Nat.le_of_ble_eq_true rfl) ((w_298 X hS n dp d hd I L i1 i2 0 0 0 0 0 _ _ _).1 h)

/-! 300 CutFloorModel.yields(II)I -/
set_option maxHeartbeats 4000000 in
set_option maxRecDepth 100000 in
def g_300 : Nat → Nat → EN → Nat → (Nat → Nat → Int32) → (Nat → Nat → Int64) → Int32 → Int32 →  Option (Int32 × (Nat → Nat → Int32) × (Nat → Nat → Int64))
  | 0, _, _, _, _, _, _, _ => none
  | n + 1, dp, e, lab, I, L, i1, i2 =>
    if lab = 0 then (stI (u2 I 105 0 (0 : Int32)) (fun I_2 => (if 1 ≤ dp then (g_193 n (dp - 1) e 0 I_2 L (Int32.toInt64 i1) (0 : Int64) (999 : Int64)).bind (fun ⟨x0_11, I0_11, L0_11⟩ => (if x0_11 = 0 then (if 1 ≤ dp then (g_194 n (dp - 1) e 0 I0_11 L0_11 (-1 : Int32)).bind (fun ⟨x1_31, I1_31, L1_31⟩ => (some (x1_31, I1_31, L1_31))) else none) else (if 1 ≤ dp then (g_193 n (dp - 1) e 0 I0_11 L0_11 (Int32.toInt64 i2) (0 : Int64) (999 : Int64)).bind (fun ⟨x1_23, I1_23, L1_23⟩ => (if x1_23 = 0 then (if 1 ≤ dp then (g_194 n (dp - 1) e 0 I1_23 L1_23 (-1 : Int32)).bind (fun ⟨x2_31, I2_31, L2_31⟩ => (some (x2_31, I2_31, L2_31))) else none) else (if (I1_23 107 7) = (40 : Int32) then (if 1 ≤ dp then (g_194 n (dp - 1) e 0 I1_23 L1_23 (-5 : Int32)).bind (fun ⟨x2_50, I2_50, L2_50⟩ => (some (x2_50, I2_50, L2_50))) else none) else (if 0 ≤ ((202 : Int32) + ((2 : Int32) * (I1_23 107 7))) ∧ (Int32.toNatClampNeg ((202 : Int32) + ((2 : Int32) * (I1_23 107 7)))) < 1570 then (stI (u2 I1_23 107 (Int32.toNatClampNeg ((202 : Int32) + ((2 : Int32) * (I1_23 107 7)))) i1) (fun I_72 => (if 0 ≤ (((202 : Int32) + ((2 : Int32) * (I_72 107 7))) + (1 : Int32)) ∧ (Int32.toNatClampNeg (((202 : Int32) + ((2 : Int32) * (I_72 107 7))) + (1 : Int32))) < 1570 then (stI (u2 I_72 107 (Int32.toNatClampNeg (((202 : Int32) + ((2 : Int32) * (I_72 107 7))) + (1 : Int32))) i2) (fun I_93 => (stI (u2 I_93 107 7 ((I_93 107 7) + (1 : Int32))) (fun I_104 => (if 1 ≤ dp then (g_194 n (dp - 1) e 0 I_104 L1_23 (I_104 107 7)).bind (fun ⟨x2_113, I2_113, L2_113⟩ => (some (x2_113, I2_113, L2_113))) else none))))) else none))) else none)))) else none))) else none)))
    else none
set_option maxRecDepth 100000 in
theorem e_300_0 (n dp : Nat) (e : EN) (I : (Nat → Nat → Int32)) (L : (Nat → Nat → Int64)) (i1 : Int32) (i2 : Int32) : g_300 (n + 1) dp e 0 I L i1 i2 = (stI (u2 I 105 0 (0 : Int32)) (fun I_2 => (if 1 ≤ dp then (g_193 n (dp - 1) e 0 I_2 L (Int32.toInt64 i1) (0 : Int64) (999 : Int64)).bind (fun ⟨x0_11, I0_11, L0_11⟩ => (if x0_11 = 0 then (if 1 ≤ dp then (g_194 n (dp - 1) e 0 I0_11 L0_11 (-1 : Int32)).bind (fun ⟨x1_31, I1_31, L1_31⟩ => (some (x1_31, I1_31, L1_31))) else none) else (if 1 ≤ dp then (g_193 n (dp - 1) e 0 I0_11 L0_11 (Int32.toInt64 i2) (0 : Int64) (999 : Int64)).bind (fun ⟨x1_23, I1_23, L1_23⟩ => (if x1_23 = 0 then (if 1 ≤ dp then (g_194 n (dp - 1) e 0 I1_23 L1_23 (-1 : Int32)).bind (fun ⟨x2_31, I2_31, L2_31⟩ => (some (x2_31, I2_31, L2_31))) else none) else (if (I1_23 107 7) = (40 : Int32) then (if 1 ≤ dp then (g_194 n (dp - 1) e 0 I1_23 L1_23 (-5 : Int32)).bind (fun ⟨x2_50, I2_50, L2_50⟩ => (some (x2_50, I2_50, L2_50))) else none) else (if 0 ≤ ((202 : Int32) + ((2 : Int32) * (I1_23 107 7))) ∧ (Int32.toNatClampNeg ((202 : Int32) + ((2 : Int32) * (I1_23 107 7)))) < 1570 then (stI (u2 I1_23 107 (Int32.toNatClampNeg ((202 : Int32) + ((2 : Int32) * (I1_23 107 7)))) i1) (fun I_72 => (if 0 ≤ (((202 : Int32) + ((2 : Int32) * (I_72 107 7))) + (1 : Int32)) ∧ (Int32.toNatClampNeg (((202 : Int32) + ((2 : Int32) * (I_72 107 7))) + (1 : Int32))) < 1570 then (stI (u2 I_72 107 (Int32.toNatClampNeg (((202 : Int32) + ((2 : Int32) * (I_72 107 7))) + (1 : Int32))) i2) (fun I_93 => (stI (u2 I_93 107 7 ((I_93 107 7) + (1 : Int32))) (fun I_104 => (if 1 ≤ dp then (g_194 n (dp - 1) e 0 I_104 L1_23 (I_104 107 7)).bind (fun ⟨x2_113, I2_113, L2_113⟩ => (some (x2_113, I2_113, L2_113))) else none))))) else none))) else none)))) else none))) else none))) := by rw [g_300.eq_2, if_pos (show (0 : Nat) = 0 from rfl)]
set_option maxHeartbeats 8000000 in
set_option maxRecDepth 100000 in
theorem w_300 (X : GX) {z : Nat} {kd : Nat → Nat × Nat} {Rf : Nat → Nat → Option Nat} (hS : Sh z kd Rf) : ∀ (n dp d : Nat), dp ≤ d → ∀ (I : (Nat → Nat → Int32)) (L : (Nat → Nat → Int64)) (i1 : Int32) (i2 : Int32) (r : Int32) (I1 : (Nat → Nat → Int32)) (L1 : (Nat → Nat → Int64)), (g_300 n dp (z, kd, Rf) 0 I L i1 i2 = some (r, I1, L1) → K X d 300 0 0 (AI (fun x τ => x = r ∧ τ = (z, kd, I1, L1, Rf))) 0 [some (.ref 105), some (.int i1), some (.int i2)] [] (z, kd, I, L, Rf) 0 0) := by
  intro n
  induction n with
  | zero => intro dp d hdp I L i1 i2 r I1 L1; exact fun h => by cases h
  | succ n ih =>
    intro dp d hdp I L i1 i2 r I1 L1
    · intro h
      rw [e_300_0] at h
      refine K_of b_300_0 h_300_0 ?_
      refine q_aload rfl ?_
      refine q_iconst (0) (by decide) ?_
      refine q_putI (c0 := 12) (j := 0) rfl rfl (zl hS 105 (by decide)) (sk hS 105 (by decide) rfl) rfl ?_
      obtain ⟨I_2, nI_2, h⟩ := stI_some h
      refine q_nI nI_2 ?_
      refine q_iload rfl ?_
      refine q_i2l ?_
      refine q_lconst (0) (by decide) ?_
      refine q_lconst (999) (by decide) ?_
      obtain ⟨d_11, h⟩ := ite_some h
      obtain ⟨⟨x0_11, I0_11, L0_11⟩, e_11, h⟩ := Option.bind_eq_some_iff.mp h
      dsimp only at h
      refine q_fs3I (a_193 X hS (d := d - 1) (by omega) e_11) (by omega) (Nat.le_refl _) (Nat.le_refl _) rfl (Nat.le_of_ble_eq_true rfl) ?_
      refine q_if_eq (fun c_14 => ?_) (fun c_14 => ?_)
      · rw [if_pos c_14] at h
        refine K_of b_300_29 h_300_29 ?_
        refine q_aload rfl ?_
        refine q_iconst (-1) (by decide) ?_
        obtain ⟨d_31, h⟩ := ite_some h
        obtain ⟨⟨x1_31, I1_31, L1_31⟩, e_31, h⟩ := Option.bind_eq_some_iff.mp h
        dsimp only at h
        refine q_fv2I (a_194 X hS (d := d - 1) (by omega) e_31) (by omega) (Nat.le_refl _) (Nat.le_refl _) rfl (Nat.le_of_ble_eq_true rfl) ⟨(zl hS 105 (by decide)), congrArg Prod.fst (sk hS 105 (by decide) rfl), by decide⟩ ?_
        cases h
        exact q_iret rfl (Nat.le_refl _) (Nat.le_refl _) ⟨rfl, rfl⟩
      · rw [if_neg c_14] at h
        refine q_iload rfl ?_
        refine q_i2l ?_
        refine q_lconst (0) (by decide) ?_
        refine q_lconst (999) (by decide) ?_
        obtain ⟨d_23, h⟩ := ite_some h
        obtain ⟨⟨x1_23, I1_23, L1_23⟩, e_23, h⟩ := Option.bind_eq_some_iff.mp h
        dsimp only at h
        refine q_fs3I (a_193 X hS (d := d - 1) (by omega) e_23) (by omega) (Nat.le_refl _) (Nat.le_refl _) rfl (Nat.le_of_ble_eq_true rfl) ?_
        refine q_if_ne (fun c_26 => ?_) (fun c_26 => ?_)
        · rw [if_neg c_26] at h
          refine K_of b_300_35 h_300_35 ?_
          refine q_aload rfl ?_
          refine q_getRs (c0 := 12) (j := 3) rfl rfl (zl hS 105 (by decide)) (sk hS 105 (by decide) rfl) rfl (by decide) (r_105_3 hS) ?_
          refine q_iconst (7) (by decide) ?_
          refine q_ialN (7) rfl (zl hS 107 (by decide)) (sk hS 107 (by decide) rfl) (by decide) (by decide) ?_
          refine q_iconst (40) (by decide) ?_
          refine q_icmp_ne (fun c_44 => ?_) (fun c_44 => ?_)
          · rw [if_neg c_44] at h
            refine K_of b_300_54 h_300_54 ?_
            refine q_aload rfl ?_
            refine q_getRs (c0 := 12) (j := 3) rfl rfl (zl hS 105 (by decide)) (sk hS 105 (by decide) rfl) rfl (by decide) (r_105_3 hS) ?_
            refine q_iconst (202) (by decide) ?_
            refine q_iconst (2) (by decide) ?_
            refine q_aload rfl ?_
            refine q_getRs (c0 := 12) (j := 3) rfl rfl (zl hS 105 (by decide)) (sk hS 105 (by decide) rfl) rfl (by decide) (r_105_3 hS) ?_
            refine q_iconst (7) (by decide) ?_
            refine q_ialN (7) rfl (zl hS 107 (by decide)) (sk hS 107 (by decide) rfl) (by decide) (by decide) ?_
            refine q_imul ?_
            refine q_iadd ?_
            refine q_iload rfl ?_
            obtain ⟨⟨u_72, v_72⟩, h⟩ := ite_some h
            refine q_iasN (Int32.toNatClampNeg ((202 : Int32) + ((2 : Int32) * (I1_23 107 7)))) (nx u_72) (zl hS 107 (by decide)) (sk hS 107 (by decide) rfl) v_72 (by decide) ?_
            obtain ⟨I_72, nI_72, h⟩ := stI_some h
            refine q_nI nI_72 ?_
            refine q_aload rfl ?_
            refine q_getRs (c0 := 12) (j := 3) rfl rfl (zl hS 105 (by decide)) (sk hS 105 (by decide) rfl) rfl (by decide) (r_105_3 hS) ?_
            refine q_iconst (202) (by decide) ?_
            refine q_iconst (2) (by decide) ?_
            refine q_aload rfl ?_
            refine q_getRs (c0 := 12) (j := 3) rfl rfl (zl hS 105 (by decide)) (sk hS 105 (by decide) rfl) rfl (by decide) (r_105_3 hS) ?_
            refine q_iconst (7) (by decide) ?_
            refine q_ialN (7) rfl (zl hS 107 (by decide)) (sk hS 107 (by decide) rfl) (by decide) (by decide) ?_
            refine q_imul ?_
            refine q_iadd ?_
            refine q_iconst (1) (by decide) ?_
            refine q_iadd ?_
            refine q_iload rfl ?_
            obtain ⟨⟨u_93, v_93⟩, h⟩ := ite_some h
            refine q_iasN (Int32.toNatClampNeg (((202 : Int32) + ((2 : Int32) * (I_72 107 7))) + (1 : Int32))) (nx u_93) (zl hS 107 (by decide)) (sk hS 107 (by decide) rfl) v_93 (by decide) ?_
            obtain ⟨I_93, nI_93, h⟩ := stI_some h
            refine q_nI nI_93 ?_
            refine q_aload rfl ?_
            refine q_getRs (c0 := 12) (j := 3) rfl rfl (zl hS 105 (by decide)) (sk hS 105 (by decide) rfl) rfl (by decide) (r_105_3 hS) ?_
            refine q_iconst (7) (by decide) ?_
            refine q_dup2 rfl rfl ?_
            refine q_ialN (7) rfl (zl hS 107 (by decide)) (sk hS 107 (by decide) rfl) (by decide) (by decide) ?_
            refine q_iconst (1) (by decide) ?_
            refine q_iadd ?_
            refine q_iasN (7) rfl (zl hS 107 (by decide)) (sk hS 107 (by decide) rfl) (by decide) (by decide) ?_
            obtain ⟨I_104, nI_104, h⟩ := stI_some h
            refine q_nI nI_104 ?_
            refine q_aload rfl ?_
            refine q_aload rfl ?_
            refine q_getRs (c0 := 12) (j := 3) rfl rfl (zl hS 105 (by decide)) (sk hS 105 (by decide) rfl) rfl (by decide) (r_105_3 hS) ?_
            refine q_iconst (7) (by decide) ?_
            refine q_ialN (7) rfl (zl hS 107 (by decide)) (sk hS 107 (by decide) rfl) (by decide) (by decide) ?_
            obtain ⟨d_113, h⟩ := ite_some h
            obtain ⟨⟨x2_113, I2_113, L2_113⟩, e_113, h⟩ := Option.bind_eq_some_iff.mp h
            dsimp only at h
            refine q_fv2I (a_194 X hS (d := d - 1) (by omega) e_113) (by omega) (Nat.le_refl _) (Nat.le_refl _) rfl (Nat.le_of_ble_eq_true rfl) ⟨(zl hS 105 (by decide)), congrArg Prod.fst (sk hS 105 (by decide) rfl), by decide⟩ ?_
            cases h
            exact q_iret rfl (Nat.le_refl _) (Nat.le_refl _) ⟨rfl, rfl⟩
          · rw [if_pos c_44] at h
            refine q_aload rfl ?_
            refine q_iconst (-5) (by decide) ?_
            obtain ⟨d_50, h⟩ := ite_some h
            obtain ⟨⟨x2_50, I2_50, L2_50⟩, e_50, h⟩ := Option.bind_eq_some_iff.mp h
            dsimp only at h
            refine q_fv2I (a_194 X hS (d := d - 1) (by omega) e_50) (by omega) (Nat.le_refl _) (Nat.le_refl _) rfl (Nat.le_of_ble_eq_true rfl) ⟨(zl hS 105 (by decide)), congrArg Prod.fst (sk hS 105 (by decide) rfl), by decide⟩ ?_
            cases h
            exact q_iret rfl (Nat.le_refl _) (Nat.le_refl _) ⟨rfl, rfl⟩
        · rw [if_pos c_26] at h
          refine q_end ?_
          refine K_of b_300_29 h_300_29 ?_
          refine q_aload rfl ?_
          refine q_iconst (-1) (by decide) ?_
          obtain ⟨d_31, h⟩ := ite_some h
          obtain ⟨⟨x2_31, I2_31, L2_31⟩, e_31, h⟩ := Option.bind_eq_some_iff.mp h
          dsimp only at h
          refine q_fv2I (a_194 X hS (d := d - 1) (by omega) e_31) (by omega) (Nat.le_refl _) (Nat.le_refl _) rfl (Nat.le_of_ble_eq_true rfl) ⟨(zl hS 105 (by decide)), congrArg Prod.fst (sk hS 105 (by decide) rfl), by decide⟩ ?_
          cases h
          exact q_iret rfl (Nat.le_refl _) (Nat.le_refl _) ⟨rfl, rfl⟩
theorem a_300 (X : GX) {z : Nat} {kd : Nat → Nat × Nat} {Rf : Nat → Nat → Option Nat} (hS : Sh z kd Rf) {n dp d : Nat} (hd : dp ≤ d) {I : (Nat → Nat → Int32)} {L : (Nat → Nat → Int64)} {i1 : Int32} {i2 : Int32} {I1 : (Nat → Nat → Int32)} {L1 : (Nat → Nat → Int64)} {r : Int32} (h : g_300 n dp (z, kd, Rf) 0 I L i1 i2 = some (r, I1, L1)) : Ct X d 300 0 0 [.ref 105, .int i1, .int i2] (z, kd, I, L, Rf) (AI (fun x τ => x = r ∧ τ = (z, kd, I1, L1, Rf))) :=
  Ct_of mu_300 (Nat.le_of_ble_eq_true rfl) ((w_300 X hS n dp d hd I L i1 i2 _ _ _) h)

/-! 301 CutFloorModel.drift(III)I -/
set_option maxHeartbeats 4000000 in
set_option maxRecDepth 100000 in
def g_301 : Nat → Nat → EN → Nat → (Nat → Nat → Int32) → (Nat → Nat → Int64) → Int32 → Int32 → Int32 → Int32 → Int32 → Int32 → Int32 →  Option (Int32 × (Nat → Nat → Int32) × (Nat → Nat → Int64))
  | 0, _, _, _, _, _, _, _, _, _, _, _, _ => none
  | n + 1, dp, e, lab, I, L, i1, i2, i3, i4, i5, i6, i7 =>
    if lab = 0 then (stI (u2 I 105 0 (0 : Int32)) (fun I_2 => (if 1 ≤ dp then (g_193 n (dp - 1) e 0 I_2 L (Int32.toInt64 i1) (0 : Int64) (99 : Int64)).bind (fun ⟨x0_11, I0_11, L0_11⟩ => (if x0_11 = 0 then (some ((-1 : Int32), I0_11, L0_11)) else (if 1 ≤ dp then (g_193 n (dp - 1) e 0 I0_11 L0_11 (Int32.toInt64 i2) (0 : Int64) (9999 : Int64)).bind (fun ⟨x1_23, I1_23, L1_23⟩ => (if x1_23 = 0 then (some ((-1 : Int32), I1_23, L1_23)) else (if 1 ≤ dp then (g_193 n (dp - 1) e 0 I1_23 L1_23 (Int32.toInt64 i3) (0 : Int64) (1 : Int64)).bind (fun ⟨x2_33, I2_33, L2_33⟩ => (if x2_33 = 0 then (some ((-1 : Int32), I2_33, L2_33)) else (g_301 n dp e 1 I2_33 L2_33 i1 i2 i3 (-1 : Int32) (0 : Int32) (0 : Int32) (0 : Int32)))) else none))) else none))) else none)))
    else if lab = 1 then (if (I 107 7) ≤ i7 then (if i3 = 0 then (some (i4, I, L)) else (some (i5, I, L))) else (if 0 ≤ ((202 : Int32) + ((2 : Int32) * i7)) ∧ (Int32.toNatClampNeg ((202 : Int32) + ((2 : Int32) * i7))) < 1570 then (if 0 ≤ (((202 : Int32) + ((2 : Int32) * i7)) + (1 : Int32)) ∧ (Int32.toNatClampNeg (((202 : Int32) + ((2 : Int32) * i7)) + (1 : Int32))) < 1570 then (stI (i6 + (((I 107 (Int32.toNatClampNeg ((202 : Int32) + ((2 : Int32) * i7)))) - (I 107 (Int32.toNatClampNeg (((202 : Int32) + ((2 : Int32) * i7)) + (1 : Int32))))) - i1)) (fun v_99 => (if 0 ≤ v_99 then (if i4 = (-1 : Int32) then (if v_99 ≤ i2 then (g_301 n dp e 2 I L i1 i2 i3 i4 i5 v_99 i7) else (if v_99 ≤ i5 then (g_301 n dp e 1 I L i1 i2 i3 i7 i5 v_99 (i7 + Int32.ofInt (1))) else (g_301 n dp e 1 I L i1 i2 i3 i7 v_99 v_99 (i7 + Int32.ofInt (1))))) else (g_301 n dp e 2 I L i1 i2 i3 i4 i5 v_99 i7)) else (if i4 = (-1 : Int32) then (if (0 : Int32) ≤ i2 then (g_301 n dp e 2 I L i1 i2 i3 i4 i5 (0 : Int32) i7) else (if (0 : Int32) ≤ i5 then (g_301 n dp e 1 I L i1 i2 i3 i7 i5 (0 : Int32) (i7 + Int32.ofInt (1))) else (g_301 n dp e 1 I L i1 i2 i3 i7 (0 : Int32) (0 : Int32) (i7 + Int32.ofInt (1))))) else (g_301 n dp e 2 I L i1 i2 i3 i4 i5 (0 : Int32) i7))))) else none) else none))
    else if lab = 2 then (if i6 ≤ i5 then (g_301 n dp e 1 I L i1 i2 i3 i4 i5 i6 (i7 + Int32.ofInt (1))) else (g_301 n dp e 1 I L i1 i2 i3 i4 i6 i6 (i7 + Int32.ofInt (1))))
    else none
set_option maxRecDepth 100000 in
theorem e_301_0 (n dp : Nat) (e : EN) (I : (Nat → Nat → Int32)) (L : (Nat → Nat → Int64)) (i1 : Int32) (i2 : Int32) (i3 : Int32) (i4 : Int32) (i5 : Int32) (i6 : Int32) (i7 : Int32) : g_301 (n + 1) dp e 0 I L i1 i2 i3 i4 i5 i6 i7 = (stI (u2 I 105 0 (0 : Int32)) (fun I_2 => (if 1 ≤ dp then (g_193 n (dp - 1) e 0 I_2 L (Int32.toInt64 i1) (0 : Int64) (99 : Int64)).bind (fun ⟨x0_11, I0_11, L0_11⟩ => (if x0_11 = 0 then (some ((-1 : Int32), I0_11, L0_11)) else (if 1 ≤ dp then (g_193 n (dp - 1) e 0 I0_11 L0_11 (Int32.toInt64 i2) (0 : Int64) (9999 : Int64)).bind (fun ⟨x1_23, I1_23, L1_23⟩ => (if x1_23 = 0 then (some ((-1 : Int32), I1_23, L1_23)) else (if 1 ≤ dp then (g_193 n (dp - 1) e 0 I1_23 L1_23 (Int32.toInt64 i3) (0 : Int64) (1 : Int64)).bind (fun ⟨x2_33, I2_33, L2_33⟩ => (if x2_33 = 0 then (some ((-1 : Int32), I2_33, L2_33)) else (g_301 n dp e 1 I2_33 L2_33 i1 i2 i3 (-1 : Int32) (0 : Int32) (0 : Int32) (0 : Int32)))) else none))) else none))) else none))) := by rw [g_301.eq_2, if_pos (show (0 : Nat) = 0 from rfl)]
set_option maxRecDepth 100000 in
theorem e_301_1 (n dp : Nat) (e : EN) (I : (Nat → Nat → Int32)) (L : (Nat → Nat → Int64)) (i1 : Int32) (i2 : Int32) (i3 : Int32) (i4 : Int32) (i5 : Int32) (i6 : Int32) (i7 : Int32) : g_301 (n + 1) dp e 1 I L i1 i2 i3 i4 i5 i6 i7 = (if (I 107 7) ≤ i7 then (if i3 = 0 then (some (i4, I, L)) else (some (i5, I, L))) else (if 0 ≤ ((202 : Int32) + ((2 : Int32) * i7)) ∧ (Int32.toNatClampNeg ((202 : Int32) + ((2 : Int32) * i7))) < 1570 then (if 0 ≤ (((202 : Int32) + ((2 : Int32) * i7)) + (1 : Int32)) ∧ (Int32.toNatClampNeg (((202 : Int32) + ((2 : Int32) * i7)) + (1 : Int32))) < 1570 then (stI (i6 + (((I 107 (Int32.toNatClampNeg ((202 : Int32) + ((2 : Int32) * i7)))) - (I 107 (Int32.toNatClampNeg (((202 : Int32) + ((2 : Int32) * i7)) + (1 : Int32))))) - i1)) (fun v_99 => (if 0 ≤ v_99 then (if i4 = (-1 : Int32) then (if v_99 ≤ i2 then (g_301 n dp e 2 I L i1 i2 i3 i4 i5 v_99 i7) else (if v_99 ≤ i5 then (g_301 n dp e 1 I L i1 i2 i3 i7 i5 v_99 (i7 + Int32.ofInt (1))) else (g_301 n dp e 1 I L i1 i2 i3 i7 v_99 v_99 (i7 + Int32.ofInt (1))))) else (g_301 n dp e 2 I L i1 i2 i3 i4 i5 v_99 i7)) else (if i4 = (-1 : Int32) then (if (0 : Int32) ≤ i2 then (g_301 n dp e 2 I L i1 i2 i3 i4 i5 (0 : Int32) i7) else (if (0 : Int32) ≤ i5 then (g_301 n dp e 1 I L i1 i2 i3 i7 i5 (0 : Int32) (i7 + Int32.ofInt (1))) else (g_301 n dp e 1 I L i1 i2 i3 i7 (0 : Int32) (0 : Int32) (i7 + Int32.ofInt (1))))) else (g_301 n dp e 2 I L i1 i2 i3 i4 i5 (0 : Int32) i7))))) else none) else none)) := by rw [g_301.eq_2, if_neg (show ¬ ((1 : Nat) = 0) by decide), if_pos (show (1 : Nat) = 1 from rfl)]
set_option maxRecDepth 100000 in
theorem e_301_2 (n dp : Nat) (e : EN) (I : (Nat → Nat → Int32)) (L : (Nat → Nat → Int64)) (i1 : Int32) (i2 : Int32) (i3 : Int32) (i4 : Int32) (i5 : Int32) (i6 : Int32) (i7 : Int32) : g_301 (n + 1) dp e 2 I L i1 i2 i3 i4 i5 i6 i7 = (if i6 ≤ i5 then (g_301 n dp e 1 I L i1 i2 i3 i4 i5 i6 (i7 + Int32.ofInt (1))) else (g_301 n dp e 1 I L i1 i2 i3 i4 i6 i6 (i7 + Int32.ofInt (1)))) := by rw [g_301.eq_2, if_neg (show ¬ ((2 : Nat) = 0) by decide), if_neg (show ¬ ((2 : Nat) = 1) by decide), if_pos (show (2 : Nat) = 2 from rfl)]
set_option maxHeartbeats 8000000 in
set_option maxRecDepth 100000 in
theorem w_301 (X : GX) {z : Nat} {kd : Nat → Nat × Nat} {Rf : Nat → Nat → Option Nat} (hS : Sh z kd Rf) : ∀ (n dp d : Nat), dp ≤ d → ∀ (I : (Nat → Nat → Int32)) (L : (Nat → Nat → Int64)) (i1 : Int32) (i2 : Int32) (i3 : Int32) (i4 : Int32) (i5 : Int32) (i6 : Int32) (i7 : Int32) (r : Int32) (I1 : (Nat → Nat → Int32)) (L1 : (Nat → Nat → Int64)), (g_301 n dp (z, kd, Rf) 0 I L i1 i2 i3 i4 i5 i6 i7 = some (r, I1, L1) → K X d 301 0 0 (AI (fun x τ => x = r ∧ τ = (z, kd, I1, L1, Rf))) 0 [some (.ref 105), some (.int i1), some (.int i2), some (.int i3), none, none, none, none] [] (z, kd, I, L, Rf) 0 0) ∧
    (g_301 n dp (z, kd, Rf) 1 I L i1 i2 i3 i4 i5 i6 i7 = some (r, I1, L1) → K X d 301 0 0 (AI (fun x τ => x = r ∧ τ = (z, kd, I1, L1, Rf))) 53 [some (.ref 105), some (.int i1), some (.int i2), some (.int i3), some (.int i4), some (.int i5), some (.int i6), some (.int i7)] [] (z, kd, I, L, Rf) 0 0) ∧
    (g_301 n dp (z, kd, Rf) 2 I L i1 i2 i3 i4 i5 i6 i7 = some (r, I1, L1) → K X d 301 0 0 (AI (fun x τ => x = r ∧ τ = (z, kd, I1, L1, Rf))) 131 [some (.ref 105), some (.int i1), some (.int i2), some (.int i3), some (.int i4), some (.int i5), some (.int i6), some (.int i7)] [] (z, kd, I, L, Rf) 0 0) := by
  intro n
  induction n with
  | zero => intro dp d hdp I L i1 i2 i3 i4 i5 i6 i7 r I1 L1; exact ⟨(fun h => by cases h), (fun h => by cases h), (fun h => by cases h)⟩
  | succ n ih =>
    intro dp d hdp I L i1 i2 i3 i4 i5 i6 i7 r I1 L1
    refine ⟨?_, ?_, ?_⟩
    · intro h
      rw [e_301_0] at h
      refine K_of b_301_0 h_301_0 ?_
      refine q_aload rfl ?_
      refine q_iconst (0) (by decide) ?_
      refine q_putI (c0 := 12) (j := 0) rfl rfl (zl hS 105 (by decide)) (sk hS 105 (by decide) rfl) rfl ?_
      obtain ⟨I_2, nI_2, h⟩ := stI_some h
      refine q_nI nI_2 ?_
      refine q_iload rfl ?_
      refine q_i2l ?_
      refine q_lconst (0) (by decide) ?_
      refine q_lconst (99) (by decide) ?_
      obtain ⟨d_11, h⟩ := ite_some h
      obtain ⟨⟨x0_11, I0_11, L0_11⟩, e_11, h⟩ := Option.bind_eq_some_iff.mp h
      dsimp only at h
      refine q_fs3I (a_193 X hS (d := d - 1) (by omega) e_11) (by omega) (Nat.le_refl _) (Nat.le_refl _) rfl (Nat.le_of_ble_eq_true rfl) ?_
      refine q_if_eq (fun c_14 => ?_) (fun c_14 => ?_)
      · rw [if_pos c_14] at h
        refine K_of b_301_39 h_301_39 ?_
        refine q_iconst (-1) (by decide) ?_
        cases h
        exact q_iret rfl (Nat.le_refl _) (Nat.le_refl _) ⟨rfl, rfl⟩
      · rw [if_neg c_14] at h
        refine q_iload rfl ?_
        refine q_i2l ?_
        refine q_lconst (0) (by decide) ?_
        refine q_lconst (9999) (by decide) ?_
        obtain ⟨d_23, h⟩ := ite_some h
        obtain ⟨⟨x1_23, I1_23, L1_23⟩, e_23, h⟩ := Option.bind_eq_some_iff.mp h
        dsimp only at h
        refine q_fs3I (a_193 X hS (d := d - 1) (by omega) e_23) (by omega) (Nat.le_refl _) (Nat.le_refl _) rfl (Nat.le_of_ble_eq_true rfl) ?_
        refine q_if_eq (fun c_26 => ?_) (fun c_26 => ?_)
        · rw [if_pos c_26] at h
          refine K_of b_301_39 h_301_39 ?_
          refine q_iconst (-1) (by decide) ?_
          cases h
          exact q_iret rfl (Nat.le_refl _) (Nat.le_refl _) ⟨rfl, rfl⟩
        · rw [if_neg c_26] at h
          refine q_iload rfl ?_
          refine q_i2l ?_
          refine q_lconst (0) (by decide) ?_
          refine q_lconst (1) (by decide) ?_
          obtain ⟨d_33, h⟩ := ite_some h
          obtain ⟨⟨x2_33, I2_33, L2_33⟩, e_33, h⟩ := Option.bind_eq_some_iff.mp h
          dsimp only at h
          refine q_fs3I (a_193 X hS (d := d - 1) (by omega) e_33) (by omega) (Nat.le_refl _) (Nat.le_refl _) rfl (Nat.le_of_ble_eq_true rfl) ?_
          refine q_if_ne (fun c_36 => ?_) (fun c_36 => ?_)
          · rw [if_neg c_36] at h
            refine K_of b_301_41 h_301_41 ?_
            refine q_iconst (-1) (by decide) ?_
            refine q_istore (ls1 := [some (.ref 105), some (.int i1), some (.int i2), some (.int i3), some (.int (-1 : Int32)), none, none, none]) (Nat.le_of_ble_eq_true rfl) rfl ?_
            refine q_iconst (0) (by decide) ?_
            refine q_istore (ls1 := [some (.ref 105), some (.int i1), some (.int i2), some (.int i3), some (.int (-1 : Int32)), some (.int (0 : Int32)), none, none]) (Nat.le_of_ble_eq_true rfl) rfl ?_
            refine q_iconst (0) (by decide) ?_
            refine q_istore (ls1 := [some (.ref 105), some (.int i1), some (.int i2), some (.int i3), some (.int (-1 : Int32)), some (.int (0 : Int32)), some (.int (0 : Int32)), none]) (Nat.le_of_ble_eq_true rfl) rfl ?_
            refine q_iconst (0) (by decide) ?_
            refine q_istore (ls1 := [some (.ref 105), some (.int i1), some (.int i2), some (.int i3), some (.int (-1 : Int32)), some (.int (0 : Int32)), some (.int (0 : Int32)), some (.int (0 : Int32))]) (Nat.le_of_ble_eq_true rfl) rfl ?_
            refine q_end ?_
            exact (ih dp d hdp _ _ i1 i2 i3 (-1 : Int32) (0 : Int32) (0 : Int32) (0 : Int32) _ _ _).2.1 h
          · rw [if_pos c_36] at h
            refine q_end ?_
            refine K_of b_301_39 h_301_39 ?_
            refine q_iconst (-1) (by decide) ?_
            cases h
            exact q_iret rfl (Nat.le_refl _) (Nat.le_refl _) ⟨rfl, rfl⟩
    · intro h
      rw [e_301_1] at h
      refine K_of b_301_53 h_301_53 ?_
      refine q_iload rfl ?_
      refine q_aload rfl ?_
      refine q_getRs (c0 := 12) (j := 3) rfl rfl (zl hS 105 (by decide)) (sk hS 105 (by decide) rfl) rfl (by decide) (r_105_3 hS) ?_
      refine q_iconst (7) (by decide) ?_
      refine q_ialN (7) rfl (zl hS 107 (by decide)) (sk hS 107 (by decide) rfl) (by decide) (by decide) ?_
      refine q_icmp_ge (fun c_62 => ?_) (fun c_62 => ?_)
      · rw [if_pos c_62] at h
        refine K_of b_301_157 h_301_157 ?_
        refine q_iload rfl ?_
        refine q_if_ne (fun c_158 => ?_) (fun c_158 => ?_)
        · rw [if_neg c_158] at h
          refine K_of b_301_166 h_301_166 ?_
          refine q_iload rfl ?_
          refine q_end ?_
          refine K_of b_301_168 h_301_168 ?_
          cases h
          exact q_iret rfl (Nat.le_refl _) (Nat.le_refl _) ⟨rfl, rfl⟩
        · rw [if_pos c_158] at h
          refine q_iload rfl ?_
          refine q_goto ?_
          refine K_of b_301_168 h_301_168 ?_
          cases h
          exact q_iret rfl (Nat.le_refl _) (Nat.le_refl _) ⟨rfl, rfl⟩
      · rw [if_neg c_62] at h
        refine q_iload rfl ?_
        refine q_aload rfl ?_
        refine q_getRs (c0 := 12) (j := 3) rfl rfl (zl hS 105 (by decide)) (sk hS 105 (by decide) rfl) rfl (by decide) (r_105_3 hS) ?_
        refine q_iconst (202) (by decide) ?_
        refine q_iconst (2) (by decide) ?_
        refine q_iload rfl ?_
        refine q_imul ?_
        refine q_iadd ?_
        obtain ⟨⟨u_79, v_79⟩, h⟩ := ite_some h
        refine q_ialN (Int32.toNatClampNeg ((202 : Int32) + ((2 : Int32) * i7))) (nx u_79) (zl hS 107 (by decide)) (sk hS 107 (by decide) rfl) v_79 (by decide) ?_
        refine q_aload rfl ?_
        refine q_getRs (c0 := 12) (j := 3) rfl rfl (zl hS 105 (by decide)) (sk hS 105 (by decide) rfl) rfl (by decide) (r_105_3 hS) ?_
        refine q_iconst (202) (by decide) ?_
        refine q_iconst (2) (by decide) ?_
        refine q_iload rfl ?_
        refine q_imul ?_
        refine q_iadd ?_
        refine q_iconst (1) (by decide) ?_
        refine q_iadd ?_
        obtain ⟨⟨u_94, v_94⟩, h⟩ := ite_some h
        refine q_ialN (Int32.toNatClampNeg (((202 : Int32) + ((2 : Int32) * i7)) + (1 : Int32))) (nx u_94) (zl hS 107 (by decide)) (sk hS 107 (by decide) rfl) v_94 (by decide) ?_
        refine q_isub ?_
        refine q_iload rfl ?_
        refine q_isub ?_
        refine q_iadd ?_
        obtain ⟨v_99, nv_99, h⟩ := stI_some h
        refine q_eqi nv_99.symm ?_
        refine q_istore (ls1 := [some (.ref 105), some (.int i1), some (.int i2), some (.int i3), some (.int i4), some (.int i5), some (.int v_99), some (.int i7)]) (Nat.le_of_ble_eq_true rfl) rfl ?_
        refine q_iload rfl ?_
        refine q_if_ge (fun c_103 => ?_) (fun c_103 => ?_)
        · rw [if_pos c_103] at h
          refine K_of b_301_110 h_301_110 ?_
          refine q_iload rfl ?_
          refine q_end ?_
          refine K_of b_301_112 h_301_112 ?_
          refine q_istore (ls1 := [some (.ref 105), some (.int i1), some (.int i2), some (.int i3), some (.int i4), some (.int i5), some (.int v_99), some (.int i7)]) (Nat.le_of_ble_eq_true rfl) rfl ?_
          refine q_iload rfl ?_
          refine q_iconst (-1) (by decide) ?_
          refine q_icmp_ne (fun c_117 => ?_) (fun c_117 => ?_)
          · rw [if_neg c_117] at h
            exact (ih dp d hdp _ _ i1 i2 i3 i4 i5 v_99 i7 _ _ _).2.2 h
          · rw [if_pos c_117] at h
            refine q_iload rfl ?_
            refine q_iload rfl ?_
            refine q_icmp_le (fun c_123 => ?_) (fun c_123 => ?_)
            · rw [if_pos c_123] at h
              exact (ih dp d hdp _ _ i1 i2 i3 i4 i5 v_99 i7 _ _ _).2.2 h
            · rw [if_neg c_123] at h
              refine q_iload rfl ?_
              refine q_goto ?_
              refine K_of b_301_133 h_301_133 ?_
              refine q_istore (ls1 := [some (.ref 105), some (.int i1), some (.int i2), some (.int i3), some (.int i7), some (.int i5), some (.int v_99), some (.int i7)]) (Nat.le_of_ble_eq_true rfl) rfl ?_
              refine q_iload rfl ?_
              refine q_iload rfl ?_
              refine q_icmp_le (fun c_139 => ?_) (fun c_139 => ?_)
              · rw [if_pos c_139] at h
                refine K_of b_301_147 h_301_147 ?_
                refine q_iload rfl ?_
                refine q_end ?_
                refine K_of b_301_149 h_301_149 ?_
                refine q_istore (ls1 := [some (.ref 105), some (.int i1), some (.int i2), some (.int i3), some (.int i7), some (.int i5), some (.int v_99), some (.int i7)]) (Nat.le_of_ble_eq_true rfl) rfl ?_
                refine q_iinc (ls1 := [some (.ref 105), some (.int i1), some (.int i2), some (.int i3), some (.int i7), some (.int i5), some (.int v_99), some (.int (i7 + Int32.ofInt (1)))]) rfl rfl ?_
                refine q_goto ?_
                exact (ih dp d hdp _ _ i1 i2 i3 i7 i5 v_99 (i7 + Int32.ofInt (1)) _ _ _).2.1 h
              · rw [if_neg c_139] at h
                refine q_iload rfl ?_
                refine q_goto ?_
                refine K_of b_301_149 h_301_149 ?_
                refine q_istore (ls1 := [some (.ref 105), some (.int i1), some (.int i2), some (.int i3), some (.int i7), some (.int v_99), some (.int v_99), some (.int i7)]) (Nat.le_of_ble_eq_true rfl) rfl ?_
                refine q_iinc (ls1 := [some (.ref 105), some (.int i1), some (.int i2), some (.int i3), some (.int i7), some (.int v_99), some (.int v_99), some (.int (i7 + Int32.ofInt (1)))]) rfl rfl ?_
                refine q_goto ?_
                exact (ih dp d hdp _ _ i1 i2 i3 i7 v_99 v_99 (i7 + Int32.ofInt (1)) _ _ _).2.1 h
        · rw [if_neg c_103] at h
          refine q_iconst (0) (by decide) ?_
          refine q_goto ?_
          refine K_of b_301_112 h_301_112 ?_
          refine q_istore (ls1 := [some (.ref 105), some (.int i1), some (.int i2), some (.int i3), some (.int i4), some (.int i5), some (.int (0 : Int32)), some (.int i7)]) (Nat.le_of_ble_eq_true rfl) rfl ?_
          refine q_iload rfl ?_
          refine q_iconst (-1) (by decide) ?_
          refine q_icmp_ne (fun c_117 => ?_) (fun c_117 => ?_)
          · rw [if_neg c_117] at h
            exact (ih dp d hdp _ _ i1 i2 i3 i4 i5 (0 : Int32) i7 _ _ _).2.2 h
          · rw [if_pos c_117] at h
            refine q_iload rfl ?_
            refine q_iload rfl ?_
            refine q_icmp_le (fun c_123 => ?_) (fun c_123 => ?_)
            · rw [if_pos c_123] at h
              exact (ih dp d hdp _ _ i1 i2 i3 i4 i5 (0 : Int32) i7 _ _ _).2.2 h
            · rw [if_neg c_123] at h
              refine q_iload rfl ?_
              refine q_goto ?_
              refine K_of b_301_133 h_301_133 ?_
              refine q_istore (ls1 := [some (.ref 105), some (.int i1), some (.int i2), some (.int i3), some (.int i7), some (.int i5), some (.int (0 : Int32)), some (.int i7)]) (Nat.le_of_ble_eq_true rfl) rfl ?_
              refine q_iload rfl ?_
              refine q_iload rfl ?_
              refine q_icmp_le (fun c_139 => ?_) (fun c_139 => ?_)
              · rw [if_pos c_139] at h
                refine K_of b_301_147 h_301_147 ?_
                refine q_iload rfl ?_
                refine q_end ?_
                refine K_of b_301_149 h_301_149 ?_
                refine q_istore (ls1 := [some (.ref 105), some (.int i1), some (.int i2), some (.int i3), some (.int i7), some (.int i5), some (.int (0 : Int32)), some (.int i7)]) (Nat.le_of_ble_eq_true rfl) rfl ?_
                refine q_iinc (ls1 := [some (.ref 105), some (.int i1), some (.int i2), some (.int i3), some (.int i7), some (.int i5), some (.int (0 : Int32)), some (.int (i7 + Int32.ofInt (1)))]) rfl rfl ?_
                refine q_goto ?_
                exact (ih dp d hdp _ _ i1 i2 i3 i7 i5 (0 : Int32) (i7 + Int32.ofInt (1)) _ _ _).2.1 h
              · rw [if_neg c_139] at h
                refine q_iload rfl ?_
                refine q_goto ?_
                refine K_of b_301_149 h_301_149 ?_
                refine q_istore (ls1 := [some (.ref 105), some (.int i1), some (.int i2), some (.int i3), some (.int i7), some (.int (0 : Int32)), some (.int (0 : Int32)), some (.int i7)]) (Nat.le_of_ble_eq_true rfl) rfl ?_
                refine q_iinc (ls1 := [some (.ref 105), some (.int i1), some (.int i2), some (.int i3), some (.int i7), some (.int (0 : Int32)), some (.int (0 : Int32)), some (.int (i7 + Int32.ofInt (1)))]) rfl rfl ?_
                refine q_goto ?_
                exact (ih dp d hdp _ _ i1 i2 i3 i7 (0 : Int32) (0 : Int32) (i7 + Int32.ofInt (1)) _ _ _).2.1 h
    · intro h
      rw [e_301_2] at h
      refine K_of b_301_131 h_301_131 ?_
      refine q_iload rfl ?_
      refine q_end ?_
      refine K_of b_301_133 h_301_133 ?_
      refine q_istore (ls1 := [some (.ref 105), some (.int i1), some (.int i2), some (.int i3), some (.int i4), some (.int i5), some (.int i6), some (.int i7)]) (Nat.le_of_ble_eq_true rfl) rfl ?_
      refine q_iload rfl ?_
      refine q_iload rfl ?_
      refine q_icmp_le (fun c_139 => ?_) (fun c_139 => ?_)
      · rw [if_pos c_139] at h
        refine K_of b_301_147 h_301_147 ?_
        refine q_iload rfl ?_
        refine q_end ?_
        refine K_of b_301_149 h_301_149 ?_
        refine q_istore (ls1 := [some (.ref 105), some (.int i1), some (.int i2), some (.int i3), some (.int i4), some (.int i5), some (.int i6), some (.int i7)]) (Nat.le_of_ble_eq_true rfl) rfl ?_
        refine q_iinc (ls1 := [some (.ref 105), some (.int i1), some (.int i2), some (.int i3), some (.int i4), some (.int i5), some (.int i6), some (.int (i7 + Int32.ofInt (1)))]) rfl rfl ?_
        refine q_goto ?_
        exact (ih dp d hdp _ _ i1 i2 i3 i4 i5 i6 (i7 + Int32.ofInt (1)) _ _ _).2.1 h
      · rw [if_neg c_139] at h
        refine q_iload rfl ?_
        refine q_goto ?_
        refine K_of b_301_149 h_301_149 ?_
        refine q_istore (ls1 := [some (.ref 105), some (.int i1), some (.int i2), some (.int i3), some (.int i4), some (.int i6), some (.int i6), some (.int i7)]) (Nat.le_of_ble_eq_true rfl) rfl ?_
        refine q_iinc (ls1 := [some (.ref 105), some (.int i1), some (.int i2), some (.int i3), some (.int i4), some (.int i6), some (.int i6), some (.int (i7 + Int32.ofInt (1)))]) rfl rfl ?_
        refine q_goto ?_
        exact (ih dp d hdp _ _ i1 i2 i3 i4 i6 i6 (i7 + Int32.ofInt (1)) _ _ _).2.1 h
theorem a_301 (X : GX) {z : Nat} {kd : Nat → Nat × Nat} {Rf : Nat → Nat → Option Nat} (hS : Sh z kd Rf) {n dp d : Nat} (hd : dp ≤ d) {I : (Nat → Nat → Int32)} {L : (Nat → Nat → Int64)} {i1 : Int32} {i2 : Int32} {i3 : Int32} {I1 : (Nat → Nat → Int32)} {L1 : (Nat → Nat → Int64)} {r : Int32} (h : g_301 n dp (z, kd, Rf) 0 I L i1 i2 i3 0 0 0 0 = some (r, I1, L1)) : Ct X d 301 0 0 [.ref 105, .int i1, .int i2, .int i3] (z, kd, I, L, Rf) (AI (fun x τ => x = r ∧ τ = (z, kd, I1, L1, Rf))) :=
  Ct_of mu_301 (Nat.le_of_ble_eq_true rfl) ((w_301 X hS n dp d hd I L i1 i2 i3 0 0 0 0 _ _ _).1 h)

/-! 302 CutFloorModel.week(I)I -/
set_option maxHeartbeats 4000000 in
set_option maxRecDepth 100000 in
def g_302 : Nat → Nat → EN → Nat → (Nat → Nat → Int32) → (Nat → Nat → Int64) → Int32 → Int32 → Int32 → Int32 → Int64 →  Option (Int32 × (Nat → Nat → Int32) × (Nat → Nat → Int64))
  | 0, _, _, _, _, _, _, _, _, _, _ => none
  | n + 1, dp, e, lab, I, L, i1, i4, i5, i6, j2 =>
    if lab = 0 then (stI (u2 I 105 0 (0 : Int32)) (fun I_2 => (if 1 ≤ dp then (g_193 n (dp - 1) e 0 I_2 L (Int32.toInt64 i1) (0 : Int64) (1000000 : Int64)).bind (fun ⟨x0_11, I0_11, L0_11⟩ => (if x0_11 = 0 then (if 1 ≤ dp then (g_194 n (dp - 1) e 0 I0_11 L0_11 (-1 : Int32)).bind (fun ⟨x1_19, I1_19, L1_19⟩ => (some (x1_19, I1_19, L1_19))) else none) else (g_302 n dp e 1 I0_11 L0_11 i1 (0 : Int32) (0 : Int32) 0 (Int32.toInt64 i1)))) else none)))
    else if lab = 1 then (if (5 : Int32) ≤ i5 then (g_302 n dp e 3 I L i1 i4 (0 : Int32) 0 j2) else (g_302 n dp e 2 I L i1 i4 i5 (0 : Int32) j2))
    else if lab = 2 then (if (3 : Int32) ≤ i6 then (g_302 n dp e 1 I L i1 i4 (i5 + Int32.ofInt (1)) 0 j2) else (stI (((j2 * (1103 : Int64)) + (12345 : Int64)) - ((j2 * (1103 : Int64)) + (12345 : Int64)) / (1000003 : Int64) * (1000003 : Int64)) (fun v_60 => (if 0 ≤ ((0 : Int32) + i6) ∧ (Int32.toNatClampNeg ((0 : Int32) + i6)) < 1570 then (if ¬ ((Int32.toInt64 (I 107 (Int32.toNatClampNeg ((0 : Int32) + i6)))) + (1 : Int64)) = 0 then (if 0 ≤ (((3 : Int32) * i5) + i6) ∧ (Int32.toNatClampNeg (((3 : Int32) * i5) + i6)) < 15 then (stI (u2 I 143 (Int32.toNatClampNeg (((3 : Int32) * i5) + i6)) (Int64.toInt32 (v_60 - v_60 / ((Int32.toInt64 (I 107 (Int32.toNatClampNeg ((0 : Int32) + i6)))) + (1 : Int64)) * ((Int32.toInt64 (I 107 (Int32.toNatClampNeg ((0 : Int32) + i6)))) + (1 : Int64))))) (fun I_87 => (g_302 n dp e 2 I_87 L i1 i4 i5 (i6 + Int32.ofInt (1)) v_60))) else none) else none) else none))))
    else if lab = 3 then (if (5 : Int32) ≤ i5 then (stI (u2 I 105 67 (1 : Int32)) (fun I_171 => (g_302 n dp e 4 I_171 L i1 i4 (0 : Int32) 0 j2))) else (if 0 ≤ ((3 : Int32) * i5) ∧ (Int32.toNatClampNeg ((3 : Int32) * i5)) < 15 then (if 0 ≤ (((3 : Int32) * i5) + (1 : Int32)) ∧ (Int32.toNatClampNeg (((3 : Int32) * i5) + (1 : Int32))) < 15 then (if 0 ≤ (((3 : Int32) * i5) + (2 : Int32)) ∧ (Int32.toNatClampNeg (((3 : Int32) * i5) + (2 : Int32))) < 15 then (if 1 ≤ dp then (g_262 n (dp - 1) e 0 I L (I 143 (Int32.toNatClampNeg ((3 : Int32) * i5))) (I 143 (Int32.toNatClampNeg (((3 : Int32) * i5) + (1 : Int32)))) (I 143 (Int32.toNatClampNeg (((3 : Int32) * i5) + (2 : Int32)))) 0 0 0).bind (fun ⟨x0_141, I0_141, L0_141⟩ => (if x0_141 = 0 then (if 1 ≤ dp then (g_194 n (dp - 1) e 0 I0_141 L0_141 (-3 : Int32)).bind (fun ⟨x1_150, I1_150, L1_150⟩ => (some (x1_150, I1_150, L1_150))) else none) else (if 1 ≤ dp then (g_263 n (dp - 1) e 0 I0_141 L0_141 0 0 0).bind (fun ⟨x1_157, I1_157, L1_157⟩ => (g_302 n dp e 3 I1_157 L1_157 i1 (i4 + x1_157) (i5 + Int32.ofInt (1)) 0 j2)) else none))) else none) else none) else none) else none))
    else if lab = 4 then (if (15 : Int32) ≤ i5 then (if 1 ≤ dp then (g_194 n (dp - 1) e 0 I L i4).bind (fun ⟨x0_207, I0_207, L0_207⟩ => (some (x0_207, I0_207, L0_207))) else none) else (if 0 ≤ i5 ∧ (Int32.toNatClampNeg i5) < 15 then (if 0 ≤ i5 ∧ (Int32.toNatClampNeg i5) < 15 then (stI (u2 I 142 (Int32.toNatClampNeg i5) (I 143 (Int32.toNatClampNeg i5))) (fun I_197 => (g_302 n dp e 4 I_197 L i1 i4 (i5 + Int32.ofInt (1)) 0 j2))) else none) else none))
    else none
set_option maxRecDepth 100000 in
theorem e_302_0 (n dp : Nat) (e : EN) (I : (Nat → Nat → Int32)) (L : (Nat → Nat → Int64)) (i1 : Int32) (i4 : Int32) (i5 : Int32) (i6 : Int32) (j2 : Int64) : g_302 (n + 1) dp e 0 I L i1 i4 i5 i6 j2 = (stI (u2 I 105 0 (0 : Int32)) (fun I_2 => (if 1 ≤ dp then (g_193 n (dp - 1) e 0 I_2 L (Int32.toInt64 i1) (0 : Int64) (1000000 : Int64)).bind (fun ⟨x0_11, I0_11, L0_11⟩ => (if x0_11 = 0 then (if 1 ≤ dp then (g_194 n (dp - 1) e 0 I0_11 L0_11 (-1 : Int32)).bind (fun ⟨x1_19, I1_19, L1_19⟩ => (some (x1_19, I1_19, L1_19))) else none) else (g_302 n dp e 1 I0_11 L0_11 i1 (0 : Int32) (0 : Int32) 0 (Int32.toInt64 i1)))) else none))) := by rw [g_302.eq_2, if_pos (show (0 : Nat) = 0 from rfl)]
set_option maxRecDepth 100000 in
theorem e_302_1 (n dp : Nat) (e : EN) (I : (Nat → Nat → Int32)) (L : (Nat → Nat → Int64)) (i1 : Int32) (i4 : Int32) (i5 : Int32) (i6 : Int32) (j2 : Int64) : g_302 (n + 1) dp e 1 I L i1 i4 i5 i6 j2 = (if (5 : Int32) ≤ i5 then (g_302 n dp e 3 I L i1 i4 (0 : Int32) 0 j2) else (g_302 n dp e 2 I L i1 i4 i5 (0 : Int32) j2)) := by rw [g_302.eq_2, if_neg (show ¬ ((1 : Nat) = 0) by decide), if_pos (show (1 : Nat) = 1 from rfl)]
set_option maxRecDepth 100000 in
theorem e_302_2 (n dp : Nat) (e : EN) (I : (Nat → Nat → Int32)) (L : (Nat → Nat → Int64)) (i1 : Int32) (i4 : Int32) (i5 : Int32) (i6 : Int32) (j2 : Int64) : g_302 (n + 1) dp e 2 I L i1 i4 i5 i6 j2 = (if (3 : Int32) ≤ i6 then (g_302 n dp e 1 I L i1 i4 (i5 + Int32.ofInt (1)) 0 j2) else (stI (((j2 * (1103 : Int64)) + (12345 : Int64)) - ((j2 * (1103 : Int64)) + (12345 : Int64)) / (1000003 : Int64) * (1000003 : Int64)) (fun v_60 => (if 0 ≤ ((0 : Int32) + i6) ∧ (Int32.toNatClampNeg ((0 : Int32) + i6)) < 1570 then (if ¬ ((Int32.toInt64 (I 107 (Int32.toNatClampNeg ((0 : Int32) + i6)))) + (1 : Int64)) = 0 then (if 0 ≤ (((3 : Int32) * i5) + i6) ∧ (Int32.toNatClampNeg (((3 : Int32) * i5) + i6)) < 15 then (stI (u2 I 143 (Int32.toNatClampNeg (((3 : Int32) * i5) + i6)) (Int64.toInt32 (v_60 - v_60 / ((Int32.toInt64 (I 107 (Int32.toNatClampNeg ((0 : Int32) + i6)))) + (1 : Int64)) * ((Int32.toInt64 (I 107 (Int32.toNatClampNeg ((0 : Int32) + i6)))) + (1 : Int64))))) (fun I_87 => (g_302 n dp e 2 I_87 L i1 i4 i5 (i6 + Int32.ofInt (1)) v_60))) else none) else none) else none)))) := by rw [g_302.eq_2, if_neg (show ¬ ((2 : Nat) = 0) by decide), if_neg (show ¬ ((2 : Nat) = 1) by decide), if_pos (show (2 : Nat) = 2 from rfl)]
set_option maxRecDepth 100000 in
theorem e_302_3 (n dp : Nat) (e : EN) (I : (Nat → Nat → Int32)) (L : (Nat → Nat → Int64)) (i1 : Int32) (i4 : Int32) (i5 : Int32) (i6 : Int32) (j2 : Int64) : g_302 (n + 1) dp e 3 I L i1 i4 i5 i6 j2 = (if (5 : Int32) ≤ i5 then (stI (u2 I 105 67 (1 : Int32)) (fun I_171 => (g_302 n dp e 4 I_171 L i1 i4 (0 : Int32) 0 j2))) else (if 0 ≤ ((3 : Int32) * i5) ∧ (Int32.toNatClampNeg ((3 : Int32) * i5)) < 15 then (if 0 ≤ (((3 : Int32) * i5) + (1 : Int32)) ∧ (Int32.toNatClampNeg (((3 : Int32) * i5) + (1 : Int32))) < 15 then (if 0 ≤ (((3 : Int32) * i5) + (2 : Int32)) ∧ (Int32.toNatClampNeg (((3 : Int32) * i5) + (2 : Int32))) < 15 then (if 1 ≤ dp then (g_262 n (dp - 1) e 0 I L (I 143 (Int32.toNatClampNeg ((3 : Int32) * i5))) (I 143 (Int32.toNatClampNeg (((3 : Int32) * i5) + (1 : Int32)))) (I 143 (Int32.toNatClampNeg (((3 : Int32) * i5) + (2 : Int32)))) 0 0 0).bind (fun ⟨x0_141, I0_141, L0_141⟩ => (if x0_141 = 0 then (if 1 ≤ dp then (g_194 n (dp - 1) e 0 I0_141 L0_141 (-3 : Int32)).bind (fun ⟨x1_150, I1_150, L1_150⟩ => (some (x1_150, I1_150, L1_150))) else none) else (if 1 ≤ dp then (g_263 n (dp - 1) e 0 I0_141 L0_141 0 0 0).bind (fun ⟨x1_157, I1_157, L1_157⟩ => (g_302 n dp e 3 I1_157 L1_157 i1 (i4 + x1_157) (i5 + Int32.ofInt (1)) 0 j2)) else none))) else none) else none) else none) else none)) := by rw [g_302.eq_2, if_neg (show ¬ ((3 : Nat) = 0) by decide), if_neg (show ¬ ((3 : Nat) = 1) by decide), if_neg (show ¬ ((3 : Nat) = 2) by decide), if_pos (show (3 : Nat) = 3 from rfl)]
set_option maxRecDepth 100000 in
theorem e_302_4 (n dp : Nat) (e : EN) (I : (Nat → Nat → Int32)) (L : (Nat → Nat → Int64)) (i1 : Int32) (i4 : Int32) (i5 : Int32) (i6 : Int32) (j2 : Int64) : g_302 (n + 1) dp e 4 I L i1 i4 i5 i6 j2 = (if (15 : Int32) ≤ i5 then (if 1 ≤ dp then (g_194 n (dp - 1) e 0 I L i4).bind (fun ⟨x0_207, I0_207, L0_207⟩ => (some (x0_207, I0_207, L0_207))) else none) else (if 0 ≤ i5 ∧ (Int32.toNatClampNeg i5) < 15 then (if 0 ≤ i5 ∧ (Int32.toNatClampNeg i5) < 15 then (stI (u2 I 142 (Int32.toNatClampNeg i5) (I 143 (Int32.toNatClampNeg i5))) (fun I_197 => (g_302 n dp e 4 I_197 L i1 i4 (i5 + Int32.ofInt (1)) 0 j2))) else none) else none)) := by rw [g_302.eq_2, if_neg (show ¬ ((4 : Nat) = 0) by decide), if_neg (show ¬ ((4 : Nat) = 1) by decide), if_neg (show ¬ ((4 : Nat) = 2) by decide), if_neg (show ¬ ((4 : Nat) = 3) by decide), if_pos (show (4 : Nat) = 4 from rfl)]
set_option maxHeartbeats 8000000 in
set_option maxRecDepth 100000 in
theorem w_302 (X : GX) {z : Nat} {kd : Nat → Nat × Nat} {Rf : Nat → Nat → Option Nat} (hS : Sh z kd Rf) : ∀ (n dp d : Nat), dp ≤ d → ∀ (I : (Nat → Nat → Int32)) (L : (Nat → Nat → Int64)) (i1 : Int32) (i4 : Int32) (i5 : Int32) (i6 : Int32) (j2 : Int64) (r : Int32) (I1 : (Nat → Nat → Int32)) (L1 : (Nat → Nat → Int64)), (g_302 n dp (z, kd, Rf) 0 I L i1 i4 i5 i6 j2 = some (r, I1, L1) → K X d 302 0 0 (AI (fun x τ => x = r ∧ τ = (z, kd, I1, L1, Rf))) 0 [some (.ref 105), some (.int i1), none, none, none, none, none] [] (z, kd, I, L, Rf) 0 0) ∧
    (g_302 n dp (z, kd, Rf) 1 I L i1 i4 i5 i6 j2 = some (r, I1, L1) → K X d 302 0 0 (AI (fun x τ => x = r ∧ τ = (z, kd, I1, L1, Rf))) 32 [some (.ref 105), some (.int i1), some (.long j2), none, some (.int i4), some (.int i5), none] [] (z, kd, I, L, Rf) 0 0) ∧
    (g_302 n dp (z, kd, Rf) 2 I L i1 i4 i5 i6 j2 = some (r, I1, L1) → K X d 302 0 0 (AI (fun x τ => x = r ∧ τ = (z, kd, I1, L1, Rf))) 41 [some (.ref 105), some (.int i1), some (.long j2), none, some (.int i4), some (.int i5), some (.int i6)] [] (z, kd, I, L, Rf) 0 0) ∧
    (g_302 n dp (z, kd, Rf) 3 I L i1 i4 i5 i6 j2 = some (r, I1, L1) → K X d 302 0 0 (AI (fun x τ => x = r ∧ τ = (z, kd, I1, L1, Rf))) 103 [some (.ref 105), some (.int i1), some (.long j2), none, some (.int i4), some (.int i5), none] [] (z, kd, I, L, Rf) 0 0) ∧
    (g_302 n dp (z, kd, Rf) 4 I L i1 i4 i5 i6 j2 = some (r, I1, L1) → K X d 302 0 0 (AI (fun x τ => x = r ∧ τ = (z, kd, I1, L1, Rf))) 177 [some (.ref 105), some (.int i1), some (.long j2), none, some (.int i4), some (.int i5), none] [] (z, kd, I, L, Rf) 0 0) := by
  intro n
  induction n with
  | zero => intro dp d hdp I L i1 i4 i5 i6 j2 r I1 L1; exact ⟨(fun h => by cases h), (fun h => by cases h), (fun h => by cases h), (fun h => by cases h), (fun h => by cases h)⟩
  | succ n ih =>
    intro dp d hdp I L i1 i4 i5 i6 j2 r I1 L1
    refine ⟨?_, ?_, ?_, ?_, ?_⟩
    · intro h
      rw [e_302_0] at h
      refine K_of b_302_0 h_302_0 ?_
      refine q_aload rfl ?_
      refine q_iconst (0) (by decide) ?_
      refine q_putI (c0 := 12) (j := 0) rfl rfl (zl hS 105 (by decide)) (sk hS 105 (by decide) rfl) rfl ?_
      obtain ⟨I_2, nI_2, h⟩ := stI_some h
      refine q_nI nI_2 ?_
      refine q_iload rfl ?_
      refine q_i2l ?_
      refine q_lconst (0) (by decide) ?_
      refine q_lconst (1000000) (by decide) ?_
      obtain ⟨d_11, h⟩ := ite_some h
      obtain ⟨⟨x0_11, I0_11, L0_11⟩, e_11, h⟩ := Option.bind_eq_some_iff.mp h
      dsimp only at h
      refine q_fs3I (a_193 X hS (d := d - 1) (by omega) e_11) (by omega) (Nat.le_refl _) (Nat.le_refl _) rfl (Nat.le_of_ble_eq_true rfl) ?_
      refine q_if_ne (fun c_14 => ?_) (fun c_14 => ?_)
      · rw [if_neg c_14] at h
        refine K_of b_302_23 h_302_23 ?_
        refine q_iload rfl ?_
        refine q_i2l ?_
        refine q_lstore (ls1 := [some (.ref 105), some (.int i1), some (.long (Int32.toInt64 i1)), none, none, none, none]) (Nat.le_of_ble_eq_true rfl) rfl ?_
        refine q_iconst (0) (by decide) ?_
        refine q_istore (ls1 := [some (.ref 105), some (.int i1), some (.long (Int32.toInt64 i1)), none, some (.int (0 : Int32)), none, none]) (Nat.le_of_ble_eq_true rfl) rfl ?_
        refine q_iconst (0) (by decide) ?_
        refine q_istore (ls1 := [some (.ref 105), some (.int i1), some (.long (Int32.toInt64 i1)), none, some (.int (0 : Int32)), some (.int (0 : Int32)), none]) (Nat.le_of_ble_eq_true rfl) rfl ?_
        refine q_end ?_
        exact (ih dp d hdp _ _ i1 (0 : Int32) (0 : Int32) 0 (Int32.toInt64 i1) _ _ _).2.1 h
      · rw [if_pos c_14] at h
        refine q_aload rfl ?_
        refine q_iconst (-1) (by decide) ?_
        obtain ⟨d_19, h⟩ := ite_some h
        obtain ⟨⟨x1_19, I1_19, L1_19⟩, e_19, h⟩ := Option.bind_eq_some_iff.mp h
        dsimp only at h
        refine q_fv2I (a_194 X hS (d := d - 1) (by omega) e_19) (by omega) (Nat.le_refl _) (Nat.le_refl _) rfl (Nat.le_of_ble_eq_true rfl) ⟨(zl hS 105 (by decide)), congrArg Prod.fst (sk hS 105 (by decide) rfl), by decide⟩ ?_
        cases h
        exact q_iret rfl (Nat.le_refl _) (Nat.le_refl _) ⟨rfl, rfl⟩
    · intro h
      rw [e_302_1] at h
      refine K_of b_302_32 h_302_32 ?_
      refine q_iload rfl ?_
      refine q_iconst (5) (by decide) ?_
      refine q_icmp_ge (fun c_35 => ?_) (fun c_35 => ?_)
      · rw [if_pos c_35] at h
        refine K_of b_302_100 h_302_100 ?_
        refine q_iconst (0) (by decide) ?_
        refine q_istore (ls1 := [some (.ref 105), some (.int i1), some (.long j2), none, some (.int i4), some (.int (0 : Int32)), none]) (Nat.le_of_ble_eq_true rfl) rfl ?_
        refine q_end ?_
        exact (ih dp d hdp _ _ i1 i4 (0 : Int32) 0 j2 _ _ _).2.2.2.1 h
      · rw [if_neg c_35] at h
        refine q_iconst (0) (by decide) ?_
        refine q_istore (ls1 := [some (.ref 105), some (.int i1), some (.long j2), none, some (.int i4), some (.int i5), some (.int (0 : Int32))]) (Nat.le_of_ble_eq_true rfl) rfl ?_
        refine q_end ?_
        exact (ih dp d hdp _ _ i1 i4 i5 (0 : Int32) j2 _ _ _).2.2.1 h
    · intro h
      rw [e_302_2] at h
      refine K_of b_302_41 h_302_41 ?_
      refine q_iload rfl ?_
      refine q_iconst (3) (by decide) ?_
      refine q_icmp_ge (fun c_44 => ?_) (fun c_44 => ?_)
      · rw [if_pos c_44] at h
        refine K_of b_302_94 h_302_94 ?_
        refine q_iinc (ls1 := [some (.ref 105), some (.int i1), some (.long j2), none, some (.int i4), some (.int (i5 + Int32.ofInt (1))), some (.int i6)]) rfl rfl ?_
        refine q_goto ?_
        refine K_mask [true, true, true, false, true, true, false] (Nat.le_of_ble_eq_true rfl) ?_
        exact (ih dp d hdp _ _ i1 i4 (i5 + Int32.ofInt (1)) 0 j2 _ _ _).2.1 h
      · rw [if_neg c_44] at h
        refine q_lload rfl ?_
        refine q_lconst (1103) (by decide) ?_
        refine q_lmul ?_
        refine q_lconst (12345) (by decide) ?_
        refine q_ladd ?_
        refine q_lconst (1000003) (by decide) ?_
        refine q_lrem (by decide) ?_
        obtain ⟨v_60, nv_60, h⟩ := stI_some h
        refine q_eql nv_60.symm ?_
        refine q_lstore (ls1 := [some (.ref 105), some (.int i1), some (.long v_60), none, some (.int i4), some (.int i5), some (.int i6)]) (Nat.le_of_ble_eq_true rfl) rfl ?_
        refine q_aload rfl ?_
        refine q_getRs (c0 := 12) (j := 66) rfl rfl (zl hS 105 (by decide)) (sk hS 105 (by decide) rfl) rfl (by decide) (r_105_66 hS) ?_
        refine q_iconst (3) (by decide) ?_
        refine q_iload rfl ?_
        refine q_imul ?_
        refine q_iload rfl ?_
        refine q_iadd ?_
        refine q_lload rfl ?_
        refine q_aload rfl ?_
        refine q_getRs (c0 := 12) (j := 3) rfl rfl (zl hS 105 (by decide)) (sk hS 105 (by decide) rfl) rfl (by decide) (r_105_3 hS) ?_
        refine q_iconst (0) (by decide) ?_
        refine q_iload rfl ?_
        refine q_iadd ?_
        obtain ⟨⟨u_81, v_81⟩, h⟩ := ite_some h
        refine q_ialN (Int32.toNatClampNeg ((0 : Int32) + i6)) (nx u_81) (zl hS 107 (by decide)) (sk hS 107 (by decide) rfl) v_81 (by decide) ?_
        refine q_i2l ?_
        refine q_lconst (1) (by decide) ?_
        refine q_ladd ?_
        obtain ⟨d_85, h⟩ := ite_some h
        refine q_lrem d_85 ?_
        refine q_l2i ?_
        obtain ⟨⟨u_87, v_87⟩, h⟩ := ite_some h
        refine q_iasN (Int32.toNatClampNeg (((3 : Int32) * i5) + i6)) (nx u_87) (zl hS 143 (by decide)) (sk hS 143 (by decide) rfl) v_87 (by decide) ?_
        obtain ⟨I_87, nI_87, h⟩ := stI_some h
        refine q_nI nI_87 ?_
        refine q_iinc (ls1 := [some (.ref 105), some (.int i1), some (.long v_60), none, some (.int i4), some (.int i5), some (.int (i6 + Int32.ofInt (1)))]) rfl rfl ?_
        refine q_goto ?_
        exact (ih dp d hdp _ _ i1 i4 i5 (i6 + Int32.ofInt (1)) v_60 _ _ _).2.2.1 h
    · intro h
      rw [e_302_3] at h
      refine K_of b_302_103 h_302_103 ?_
      refine q_iload rfl ?_
      refine q_iconst (5) (by decide) ?_
      refine q_icmp_ge (fun c_106 => ?_) (fun c_106 => ?_)
      · rw [if_pos c_106] at h
        refine K_of b_302_169 h_302_169 ?_
        refine q_aload rfl ?_
        refine q_iconst (1) (by decide) ?_
        refine q_putZ (c0 := 12) (j := 67) rfl rfl (zl hS 105 (by decide)) (sk hS 105 (by decide) rfl) rfl (Or.inr rfl) ?_
        obtain ⟨I_171, nI_171, h⟩ := stI_some h
        refine q_nI nI_171 ?_
        refine q_iconst (0) (by decide) ?_
        refine q_istore (ls1 := [some (.ref 105), some (.int i1), some (.long j2), none, some (.int i4), some (.int (0 : Int32)), none]) (Nat.le_of_ble_eq_true rfl) rfl ?_
        refine q_end ?_
        exact (ih dp d hdp _ _ i1 i4 (0 : Int32) 0 j2 _ _ _).2.2.2.2 h
      · rw [if_neg c_106] at h
        refine q_aload rfl ?_
        refine q_aload rfl ?_
        refine q_getRs (c0 := 12) (j := 66) rfl rfl (zl hS 105 (by decide)) (sk hS 105 (by decide) rfl) rfl (by decide) (r_105_66 hS) ?_
        refine q_iconst (3) (by decide) ?_
        refine q_iload rfl ?_
        refine q_imul ?_
        obtain ⟨⟨u_118, v_118⟩, h⟩ := ite_some h
        refine q_ialN (Int32.toNatClampNeg ((3 : Int32) * i5)) (nx u_118) (zl hS 143 (by decide)) (sk hS 143 (by decide) rfl) v_118 (by decide) ?_
        refine q_aload rfl ?_
        refine q_getRs (c0 := 12) (j := 66) rfl rfl (zl hS 105 (by decide)) (sk hS 105 (by decide) rfl) rfl (by decide) (r_105_66 hS) ?_
        refine q_iconst (3) (by decide) ?_
        refine q_iload rfl ?_
        refine q_imul ?_
        refine q_iconst (1) (by decide) ?_
        refine q_iadd ?_
        obtain ⟨⟨u_129, v_129⟩, h⟩ := ite_some h
        refine q_ialN (Int32.toNatClampNeg (((3 : Int32) * i5) + (1 : Int32))) (nx u_129) (zl hS 143 (by decide)) (sk hS 143 (by decide) rfl) v_129 (by decide) ?_
        refine q_aload rfl ?_
        refine q_getRs (c0 := 12) (j := 66) rfl rfl (zl hS 105 (by decide)) (sk hS 105 (by decide) rfl) rfl (by decide) (r_105_66 hS) ?_
        refine q_iconst (3) (by decide) ?_
        refine q_iload rfl ?_
        refine q_imul ?_
        refine q_iconst (2) (by decide) ?_
        refine q_iadd ?_
        obtain ⟨⟨u_140, v_140⟩, h⟩ := ite_some h
        refine q_ialN (Int32.toNatClampNeg (((3 : Int32) * i5) + (2 : Int32))) (nx u_140) (zl hS 143 (by decide)) (sk hS 143 (by decide) rfl) v_140 (by decide) ?_
        obtain ⟨d_141, h⟩ := ite_some h
        obtain ⟨⟨x0_141, I0_141, L0_141⟩, e_141, h⟩ := Option.bind_eq_some_iff.mp h
        dsimp only at h
        refine q_fv4I (a_262 X hS (d := d - 1) (by omega) e_141) (by omega) (Nat.le_refl _) (Nat.le_refl _) rfl (Nat.le_of_ble_eq_true rfl) ⟨(zl hS 105 (by decide)), congrArg Prod.fst (sk hS 105 (by decide) rfl), by decide⟩ ?_
        refine q_if_ne (fun c_144 => ?_) (fun c_144 => ?_)
        · rw [if_neg c_144] at h
          refine K_of b_302_154 h_302_154 ?_
          refine q_iload rfl ?_
          refine q_aload rfl ?_
          obtain ⟨d_157, h⟩ := ite_some h
          obtain ⟨⟨x1_157, I1_157, L1_157⟩, e_157, h⟩ := Option.bind_eq_some_iff.mp h
          dsimp only at h
          refine q_fv1I (a_263 X hS (d := d - 1) (by omega) e_157) (by omega) (Nat.le_refl _) (Nat.le_refl _) rfl (Nat.le_of_ble_eq_true rfl) ⟨(zl hS 105 (by decide)), congrArg Prod.fst (sk hS 105 (by decide) rfl), by decide⟩ ?_
          refine q_iadd ?_
          refine q_istore (ls1 := [some (.ref 105), some (.int i1), some (.long j2), none, some (.int (i4 + x1_157)), some (.int i5), none]) (Nat.le_of_ble_eq_true rfl) rfl ?_
          refine q_iinc (ls1 := [some (.ref 105), some (.int i1), some (.long j2), none, some (.int (i4 + x1_157)), some (.int (i5 + Int32.ofInt (1))), none]) rfl rfl ?_
          refine q_goto ?_
          exact (ih dp d hdp _ _ i1 (i4 + x1_157) (i5 + Int32.ofInt (1)) 0 j2 _ _ _).2.2.2.1 h
        · rw [if_pos c_144] at h
          refine q_aload rfl ?_
          refine q_iconst (-3) (by decide) ?_
          obtain ⟨d_150, h⟩ := ite_some h
          obtain ⟨⟨x1_150, I1_150, L1_150⟩, e_150, h⟩ := Option.bind_eq_some_iff.mp h
          dsimp only at h
          refine q_fv2I (a_194 X hS (d := d - 1) (by omega) e_150) (by omega) (Nat.le_refl _) (Nat.le_refl _) rfl (Nat.le_of_ble_eq_true rfl) ⟨(zl hS 105 (by decide)), congrArg Prod.fst (sk hS 105 (by decide) rfl), by decide⟩ ?_
          cases h
          exact q_iret rfl (Nat.le_refl _) (Nat.le_refl _) ⟨rfl, rfl⟩
    · intro h
      rw [e_302_4] at h
      refine K_of b_302_177 h_302_177 ?_
      refine q_iload rfl ?_
      refine q_iconst (15) (by decide) ?_
      refine q_icmp_ge (fun c_181 => ?_) (fun c_181 => ?_)
      · rw [if_pos c_181] at h
        refine K_of b_302_204 h_302_204 ?_
        refine q_aload rfl ?_
        refine q_iload rfl ?_
        obtain ⟨d_207, h⟩ := ite_some h
        obtain ⟨⟨x0_207, I0_207, L0_207⟩, e_207, h⟩ := Option.bind_eq_some_iff.mp h
        dsimp only at h
        refine q_fv2I (a_194 X hS (d := d - 1) (by omega) e_207) (by omega) (Nat.le_refl _) (Nat.le_refl _) rfl (Nat.le_of_ble_eq_true rfl) ⟨(zl hS 105 (by decide)), congrArg Prod.fst (sk hS 105 (by decide) rfl), by decide⟩ ?_
        cases h
        exact q_iret rfl (Nat.le_refl _) (Nat.le_refl _) ⟨rfl, rfl⟩
      · rw [if_neg c_181] at h
        refine q_aload rfl ?_
        refine q_getRs (c0 := 12) (j := 65) rfl rfl (zl hS 105 (by decide)) (sk hS 105 (by decide) rfl) rfl (by decide) (r_105_65 hS) ?_
        refine q_iload rfl ?_
        refine q_aload rfl ?_
        refine q_getRs (c0 := 12) (j := 66) rfl rfl (zl hS 105 (by decide)) (sk hS 105 (by decide) rfl) rfl (by decide) (r_105_66 hS) ?_
        refine q_iload rfl ?_
        obtain ⟨⟨u_196, v_196⟩, h⟩ := ite_some h
        refine q_ialN (Int32.toNatClampNeg i5) (nx u_196) (zl hS 143 (by decide)) (sk hS 143 (by decide) rfl) v_196 (by decide) ?_
        obtain ⟨⟨u_197, v_197⟩, h⟩ := ite_some h
        refine q_iasN (Int32.toNatClampNeg i5) (nx u_197) (zl hS 142 (by decide)) (sk hS 142 (by decide) rfl) v_197 (by decide) ?_
        obtain ⟨I_197, nI_197, h⟩ := stI_some h
        refine q_nI nI_197 ?_
        refine q_iinc (ls1 := [some (.ref 105), some (.int i1), some (.long j2), none, some (.int i4), some (.int (i5 + Int32.ofInt (1))), none]) rfl rfl ?_
        refine q_goto ?_
        exact (ih dp d hdp _ _ i1 i4 (i5 + Int32.ofInt (1)) 0 j2 _ _ _).2.2.2.2 h
theorem a_302 (X : GX) {z : Nat} {kd : Nat → Nat × Nat} {Rf : Nat → Nat → Option Nat} (hS : Sh z kd Rf) {n dp d : Nat} (hd : dp ≤ d) {I : (Nat → Nat → Int32)} {L : (Nat → Nat → Int64)} {i1 : Int32} {I1 : (Nat → Nat → Int32)} {L1 : (Nat → Nat → Int64)} {r : Int32} (h : g_302 n dp (z, kd, Rf) 0 I L i1 0 0 0 0 = some (r, I1, L1)) : Ct X d 302 0 0 [.ref 105, .int i1] (z, kd, I, L, Rf) (AI (fun x τ => x = r ∧ τ = (z, kd, I1, L1, Rf))) :=
  Ct_of mu_302 (Nat.le_of_ble_eq_true rfl) ((w_302 X hS n dp d hd I L i1 0 0 0 0 _ _ _).1 h)

/-! 303 CutFloorModel.came(II)I -/
set_option maxHeartbeats 4000000 in
set_option maxRecDepth 100000 in
def g_303 : Nat → Nat → EN → Nat → (Nat → Nat → Int32) → (Nat → Nat → Int64) → Int32 → Int32 →  Option (Int32 × (Nat → Nat → Int32) × (Nat → Nat → Int64))
  | 0, _, _, _, _, _, _, _ => none
  | n + 1, dp, e, lab, I, L, i1, i2 =>
    if lab = 0 then (stI (u2 I 105 0 (0 : Int32)) (fun I_2 => (if (I_2 105 67) = 0 then (some ((-1 : Int32), I_2, L)) else (if 1 ≤ dp then (g_193 n (dp - 1) e 0 I_2 L (Int32.toInt64 i1) (0 : Int64) (4 : Int64)).bind (fun ⟨x0_18, I0_18, L0_18⟩ => (if x0_18 = 0 then (some ((-1 : Int32), I0_18, L0_18)) else (if 1 ≤ dp then (g_197 n (dp - 1) e 0 I0_18 L0_18 i2).bind (fun ⟨x1_25, I1_25, L1_25⟩ => (if x1_25 = 0 then (some ((-1 : Int32), I1_25, L1_25)) else (if 0 ≤ (((3 : Int32) * i1) + i2) ∧ (Int32.toNatClampNeg (((3 : Int32) * i1) + i2)) < 15 then (some ((I1_25 142 (Int32.toNatClampNeg (((3 : Int32) * i1) + i2))), I1_25, L1_25)) else none))) else none))) else none))))
    else none
set_option maxRecDepth 100000 in
theorem e_303_0 (n dp : Nat) (e : EN) (I : (Nat → Nat → Int32)) (L : (Nat → Nat → Int64)) (i1 : Int32) (i2 : Int32) : g_303 (n + 1) dp e 0 I L i1 i2 = (stI (u2 I 105 0 (0 : Int32)) (fun I_2 => (if (I_2 105 67) = 0 then (some ((-1 : Int32), I_2, L)) else (if 1 ≤ dp then (g_193 n (dp - 1) e 0 I_2 L (Int32.toInt64 i1) (0 : Int64) (4 : Int64)).bind (fun ⟨x0_18, I0_18, L0_18⟩ => (if x0_18 = 0 then (some ((-1 : Int32), I0_18, L0_18)) else (if 1 ≤ dp then (g_197 n (dp - 1) e 0 I0_18 L0_18 i2).bind (fun ⟨x1_25, I1_25, L1_25⟩ => (if x1_25 = 0 then (some ((-1 : Int32), I1_25, L1_25)) else (if 0 ≤ (((3 : Int32) * i1) + i2) ∧ (Int32.toNatClampNeg (((3 : Int32) * i1) + i2)) < 15 then (some ((I1_25 142 (Int32.toNatClampNeg (((3 : Int32) * i1) + i2))), I1_25, L1_25)) else none))) else none))) else none)))) := by rw [g_303.eq_2, if_pos (show (0 : Nat) = 0 from rfl)]
set_option maxHeartbeats 8000000 in
set_option maxRecDepth 100000 in
theorem w_303 (X : GX) {z : Nat} {kd : Nat → Nat × Nat} {Rf : Nat → Nat → Option Nat} (hS : Sh z kd Rf) : ∀ (n dp d : Nat), dp ≤ d → ∀ (I : (Nat → Nat → Int32)) (L : (Nat → Nat → Int64)) (i1 : Int32) (i2 : Int32) (r : Int32) (I1 : (Nat → Nat → Int32)) (L1 : (Nat → Nat → Int64)), (g_303 n dp (z, kd, Rf) 0 I L i1 i2 = some (r, I1, L1) → K X d 303 0 0 (AI (fun x τ => x = r ∧ τ = (z, kd, I1, L1, Rf))) 0 [some (.ref 105), some (.int i1), some (.int i2)] [] (z, kd, I, L, Rf) 0 0) := by
  intro n
  induction n with
  | zero => intro dp d hdp I L i1 i2 r I1 L1; exact fun h => by cases h
  | succ n ih =>
    intro dp d hdp I L i1 i2 r I1 L1
    · intro h
      rw [e_303_0] at h
      refine K_of b_303_0 h_303_0 ?_
      refine q_aload rfl ?_
      refine q_iconst (0) (by decide) ?_
      refine q_putI (c0 := 12) (j := 0) rfl rfl (zl hS 105 (by decide)) (sk hS 105 (by decide) rfl) rfl ?_
      obtain ⟨I_2, nI_2, h⟩ := stI_some h
      refine q_nI nI_2 ?_
      refine q_aload rfl ?_
      refine q_getI (c0 := 12) (j := 67) rfl rfl (zl hS 105 (by decide)) (sk hS 105 (by decide) rfl) (Or.inr rfl) (by decide) ?_
      refine q_if_eq (fun c_9 => ?_) (fun c_9 => ?_)
      · rw [if_pos c_9] at h
        refine K_of b_303_44 h_303_44 ?_
        refine q_iconst (-1) (by decide) ?_
        refine q_end ?_
        refine K_of b_303_45 h_303_45 ?_
        cases h
        exact q_iret rfl (Nat.le_refl _) (Nat.le_refl _) ⟨rfl, rfl⟩
      · rw [if_neg c_9] at h
        refine q_iload rfl ?_
        refine q_i2l ?_
        refine q_lconst (0) (by decide) ?_
        refine q_lconst (4) (by decide) ?_
        obtain ⟨d_18, h⟩ := ite_some h
        obtain ⟨⟨x0_18, I0_18, L0_18⟩, e_18, h⟩ := Option.bind_eq_some_iff.mp h
        dsimp only at h
        refine q_fs3I (a_193 X hS (d := d - 1) (by omega) e_18) (by omega) (Nat.le_refl _) (Nat.le_refl _) rfl (Nat.le_of_ble_eq_true rfl) ?_
        refine q_if_eq (fun c_21 => ?_) (fun c_21 => ?_)
        · rw [if_pos c_21] at h
          refine K_of b_303_44 h_303_44 ?_
          refine q_iconst (-1) (by decide) ?_
          refine q_end ?_
          refine K_of b_303_45 h_303_45 ?_
          cases h
          exact q_iret rfl (Nat.le_refl _) (Nat.le_refl _) ⟨rfl, rfl⟩
        · rw [if_neg c_21] at h
          refine q_iload rfl ?_
          obtain ⟨d_25, h⟩ := ite_some h
          obtain ⟨⟨x1_25, I1_25, L1_25⟩, e_25, h⟩ := Option.bind_eq_some_iff.mp h
          dsimp only at h
          refine q_fs1I (a_197 X hS (d := d - 1) (by omega) e_25) (by omega) (Nat.le_refl _) (Nat.le_refl _) rfl (Nat.le_of_ble_eq_true rfl) ?_
          refine q_if_eq (fun c_28 => ?_) (fun c_28 => ?_)
          · rw [if_pos c_28] at h
            refine K_of b_303_44 h_303_44 ?_
            refine q_iconst (-1) (by decide) ?_
            refine q_end ?_
            refine K_of b_303_45 h_303_45 ?_
            cases h
            exact q_iret rfl (Nat.le_refl _) (Nat.le_refl _) ⟨rfl, rfl⟩
          · rw [if_neg c_28] at h
            refine q_aload rfl ?_
            refine q_getRs (c0 := 12) (j := 65) rfl rfl (zl hS 105 (by decide)) (sk hS 105 (by decide) rfl) rfl (by decide) (r_105_65 hS) ?_
            refine q_iconst (3) (by decide) ?_
            refine q_iload rfl ?_
            refine q_imul ?_
            refine q_iload rfl ?_
            refine q_iadd ?_
            obtain ⟨⟨u_40, v_40⟩, h⟩ := ite_some h
            refine q_ialN (Int32.toNatClampNeg (((3 : Int32) * i1) + i2)) (nx u_40) (zl hS 142 (by decide)) (sk hS 142 (by decide) rfl) v_40 (by decide) ?_
            refine q_goto ?_
            refine K_of b_303_45 h_303_45 ?_
            cases h
            exact q_iret rfl (Nat.le_refl _) (Nat.le_refl _) ⟨rfl, rfl⟩
theorem a_303 (X : GX) {z : Nat} {kd : Nat → Nat × Nat} {Rf : Nat → Nat → Option Nat} (hS : Sh z kd Rf) {n dp d : Nat} (hd : dp ≤ d) {I : (Nat → Nat → Int32)} {L : (Nat → Nat → Int64)} {i1 : Int32} {i2 : Int32} {I1 : (Nat → Nat → Int32)} {L1 : (Nat → Nat → Int64)} {r : Int32} (h : g_303 n dp (z, kd, Rf) 0 I L i1 i2 = some (r, I1, L1)) : Ct X d 303 0 0 [.ref 105, .int i1, .int i2] (z, kd, I, L, Rf) (AI (fun x τ => x = r ∧ τ = (z, kd, I1, L1, Rf))) :=
  Ct_of mu_303 (Nat.le_of_ble_eq_true rfl) ((w_303 X hS n dp d hd I L i1 i2 _ _ _) h)

/-! 304 CutFloorModel.count(I)I -/
set_option maxHeartbeats 4000000 in
set_option maxRecDepth 100000 in
def g_304 : Nat → Nat → EN → Nat → (Nat → Nat → Int32) → (Nat → Nat → Int64) → Int32 → Int32 → Int32 →  Option (Int32 × (Nat → Nat → Int32) × (Nat → Nat → Int64))
  | 0, _, _, _, _, _, _, _, _ => none
  | n + 1, dp, e, lab, I, L, i1, i2, i3 =>
    if lab = 0 then (stI (u2 I 105 0 (0 : Int32)) (fun I_2 => (g_304 n dp e 1 I_2 L i1 (0 : Int32) (0 : Int32))))
    else if lab = 1 then (if (I 107 6) ≤ i3 then (if i1 = (0 : Int32) then (if 1 ≤ dp then (g_198 n (dp - 1) e 0 I L).bind (fun ⟨x0_109, I0_109, L0_109⟩ => (some (x0_109, I0_109, L0_109))) else none) else (if i1 = (1 : Int32) then (some ((I 107 8), I, L)) else (if i1 = (2 : Int32) then (some ((I 107 9), I, L)) else (if i1 = (3 : Int32) then (some ((I 107 3), I, L)) else (if i1 = (4 : Int32) then (some (i2, I, L)) else (if i1 = (5 : Int32) then (some ((I 107 6), I, L)) else (if i1 = (6 : Int32) then (some ((I 107 7), I, L)) else (if i1 = (7 : Int32) then (if 1 ≤ dp then (g_204 n (dp - 1) e 0 I L 0 0).bind (fun ⟨x0_155, I0_155, L0_155⟩ => (some (x0_155, I0_155, L0_155))) else none) else (if i1 = (8 : Int32) then (some ((I 105 7), I, L)) else (if i1 = (9 : Int32) then (some ((I 106 1), I, L)) else (if i1 = (10 : Int32) then (some ((I 106 2), I, L)) else (if i1 = (11 : Int32) then (some ((I 106 3), I, L)) else (if i1 = (12 : Int32) then (some ((I 106 5), I, L)) else (if i1 = (13 : Int32) then (some ((I 106 6), I, L)) else (some ((-1 : Int32), I, L)))))))))))))))) else (if 1 ≤ dp then (g_292 n (dp - 1) e 0 I L i3 (6 : Int32)).bind (fun ⟨x0_25, I0_25, L0_25⟩ => (g_304 n dp e 1 I0_25 L0_25 i1 (i2 + x0_25) (i3 + Int32.ofInt (1)))) else none))
    else none
set_option maxRecDepth 100000 in
theorem e_304_0 (n dp : Nat) (e : EN) (I : (Nat → Nat → Int32)) (L : (Nat → Nat → Int64)) (i1 : Int32) (i2 : Int32) (i3 : Int32) : g_304 (n + 1) dp e 0 I L i1 i2 i3 = (stI (u2 I 105 0 (0 : Int32)) (fun I_2 => (g_304 n dp e 1 I_2 L i1 (0 : Int32) (0 : Int32)))) := by rw [g_304.eq_2, if_pos (show (0 : Nat) = 0 from rfl)]
set_option maxRecDepth 100000 in
theorem e_304_1 (n dp : Nat) (e : EN) (I : (Nat → Nat → Int32)) (L : (Nat → Nat → Int64)) (i1 : Int32) (i2 : Int32) (i3 : Int32) : g_304 (n + 1) dp e 1 I L i1 i2 i3 = (if (I 107 6) ≤ i3 then (if i1 = (0 : Int32) then (if 1 ≤ dp then (g_198 n (dp - 1) e 0 I L).bind (fun ⟨x0_109, I0_109, L0_109⟩ => (some (x0_109, I0_109, L0_109))) else none) else (if i1 = (1 : Int32) then (some ((I 107 8), I, L)) else (if i1 = (2 : Int32) then (some ((I 107 9), I, L)) else (if i1 = (3 : Int32) then (some ((I 107 3), I, L)) else (if i1 = (4 : Int32) then (some (i2, I, L)) else (if i1 = (5 : Int32) then (some ((I 107 6), I, L)) else (if i1 = (6 : Int32) then (some ((I 107 7), I, L)) else (if i1 = (7 : Int32) then (if 1 ≤ dp then (g_204 n (dp - 1) e 0 I L 0 0).bind (fun ⟨x0_155, I0_155, L0_155⟩ => (some (x0_155, I0_155, L0_155))) else none) else (if i1 = (8 : Int32) then (some ((I 105 7), I, L)) else (if i1 = (9 : Int32) then (some ((I 106 1), I, L)) else (if i1 = (10 : Int32) then (some ((I 106 2), I, L)) else (if i1 = (11 : Int32) then (some ((I 106 3), I, L)) else (if i1 = (12 : Int32) then (some ((I 106 5), I, L)) else (if i1 = (13 : Int32) then (some ((I 106 6), I, L)) else (some ((-1 : Int32), I, L)))))))))))))))) else (if 1 ≤ dp then (g_292 n (dp - 1) e 0 I L i3 (6 : Int32)).bind (fun ⟨x0_25, I0_25, L0_25⟩ => (g_304 n dp e 1 I0_25 L0_25 i1 (i2 + x0_25) (i3 + Int32.ofInt (1)))) else none)) := by rw [g_304.eq_2, if_neg (show ¬ ((1 : Nat) = 0) by decide), if_pos (show (1 : Nat) = 1 from rfl)]
set_option maxHeartbeats 8000000 in
set_option maxRecDepth 100000 in
theorem w_304 (X : GX) {z : Nat} {kd : Nat → Nat × Nat} {Rf : Nat → Nat → Option Nat} (hS : Sh z kd Rf) : ∀ (n dp d : Nat), dp ≤ d → ∀ (I : (Nat → Nat → Int32)) (L : (Nat → Nat → Int64)) (i1 : Int32) (i2 : Int32) (i3 : Int32) (r : Int32) (I1 : (Nat → Nat → Int32)) (L1 : (Nat → Nat → Int64)), (g_304 n dp (z, kd, Rf) 0 I L i1 i2 i3 = some (r, I1, L1) → K X d 304 0 0 (AI (fun x τ => x = r ∧ τ = (z, kd, I1, L1, Rf))) 0 [some (.ref 105), some (.int i1), none, none] [] (z, kd, I, L, Rf) 0 0) ∧
    (g_304 n dp (z, kd, Rf) 1 I L i1 i2 i3 = some (r, I1, L1) → K X d 304 0 0 (AI (fun x τ => x = r ∧ τ = (z, kd, I1, L1, Rf))) 9 [some (.ref 105), some (.int i1), some (.int i2), some (.int i3)] [] (z, kd, I, L, Rf) 0 0) := by
  intro n
  induction n with
  | zero => intro dp d hdp I L i1 i2 i3 r I1 L1; exact ⟨(fun h => by cases h), (fun h => by cases h)⟩
  | succ n ih =>
    intro dp d hdp I L i1 i2 i3 r I1 L1
    refine ⟨?_, ?_⟩
    · intro h
      rw [e_304_0] at h
      refine K_of b_304_0 h_304_0 ?_
      refine q_aload rfl ?_
      refine q_iconst (0) (by decide) ?_
      refine q_putI (c0 := 12) (j := 0) rfl rfl (zl hS 105 (by decide)) (sk hS 105 (by decide) rfl) rfl ?_
      obtain ⟨I_2, nI_2, h⟩ := stI_some h
      refine q_nI nI_2 ?_
      refine q_iconst (0) (by decide) ?_
      refine q_istore (ls1 := [some (.ref 105), some (.int i1), some (.int (0 : Int32)), none]) (Nat.le_of_ble_eq_true rfl) rfl ?_
      refine q_iconst (0) (by decide) ?_
      refine q_istore (ls1 := [some (.ref 105), some (.int i1), some (.int (0 : Int32)), some (.int (0 : Int32))]) (Nat.le_of_ble_eq_true rfl) rfl ?_
      refine q_end ?_
      exact (ih dp d hdp _ _ i1 (0 : Int32) (0 : Int32) _ _ _).2 h
    · intro h
      rw [e_304_1] at h
      refine K_of b_304_9 h_304_9 ?_
      refine q_iload rfl ?_
      refine q_aload rfl ?_
      refine q_getRs (c0 := 12) (j := 3) rfl rfl (zl hS 105 (by decide)) (sk hS 105 (by decide) rfl) rfl (by decide) (r_105_3 hS) ?_
      refine q_iconst (6) (by decide) ?_
      refine q_ialN (6) rfl (zl hS 107 (by decide)) (sk hS 107 (by decide) rfl) (by decide) (by decide) ?_
      refine q_icmp_ge (fun c_17 => ?_) (fun c_17 => ?_)
      · rw [if_pos c_17] at h
        refine K_of b_304_36 h_304_36 ?_
        refine q_iload rfl ?_
        refine q_tsw (fun c_37 => ?_) (fun j t c_37 ht => ?_)
        · rw [if_neg (sw_ne c_37 (by decide) (by decide)), if_neg (sw_ne c_37 (by decide) (by decide)), if_neg (sw_ne c_37 (by decide) (by decide)), if_neg (sw_ne c_37 (by decide) (by decide)), if_neg (sw_ne c_37 (by decide) (by decide)), if_neg (sw_ne c_37 (by decide) (by decide)), if_neg (sw_ne c_37 (by decide) (by decide)), if_neg (sw_ne c_37 (by decide) (by decide)), if_neg (sw_ne c_37 (by decide) (by decide)), if_neg (sw_ne c_37 (by decide) (by decide)), if_neg (sw_ne c_37 (by decide) (by decide)), if_neg (sw_ne c_37 (by decide) (by decide)), if_neg (sw_ne c_37 (by decide) (by decide)), if_neg (sw_ne c_37 (by decide) (by decide))] at h
          refine K_of b_304_200 h_304_200 ?_
          refine q_iconst (-1) (by decide) ?_
          cases h
          exact q_iret rfl (Nat.le_refl _) (Nat.le_refl _) ⟨rfl, rfl⟩
        · match j, ht with
          | 0, ht =>
            cases ht
            rw [if_pos (sw_eq c_37 (by decide))] at h
            refine K_of b_304_108 h_304_108 ?_
            refine q_aload rfl ?_
            obtain ⟨d_109, h⟩ := ite_some h
            obtain ⟨⟨x0_109, I0_109, L0_109⟩, e_109, h⟩ := Option.bind_eq_some_iff.mp h
            dsimp only at h
            refine q_fv1I (a_198 X hS (d := d - 1) (by omega) e_109) (by omega) (Nat.le_refl _) (Nat.le_refl _) rfl (Nat.le_of_ble_eq_true rfl) ⟨(zl hS 105 (by decide)), congrArg Prod.fst (sk hS 105 (by decide) rfl), by decide⟩ ?_
            cases h
            exact q_iret rfl (Nat.le_refl _) (Nat.le_refl _) ⟨rfl, rfl⟩
          | 1, ht =>
            cases ht
            rw [if_neg (sw_nq c_37 (by decide)), if_pos (sw_eq c_37 (by decide))] at h
            refine K_of b_304_113 h_304_113 ?_
            refine q_aload rfl ?_
            refine q_getRs (c0 := 12) (j := 3) rfl rfl (zl hS 105 (by decide)) (sk hS 105 (by decide) rfl) rfl (by decide) (r_105_3 hS) ?_
            refine q_iconst (8) (by decide) ?_
            refine q_ialN (8) rfl (zl hS 107 (by decide)) (sk hS 107 (by decide) rfl) (by decide) (by decide) ?_
            cases h
            exact q_iret rfl (Nat.le_refl _) (Nat.le_refl _) ⟨rfl, rfl⟩
          | 2, ht =>
            cases ht
            rw [if_neg (sw_nq c_37 (by decide)), if_neg (sw_nq c_37 (by decide)), if_pos (sw_eq c_37 (by decide))] at h
            refine K_of b_304_121 h_304_121 ?_
            refine q_aload rfl ?_
            refine q_getRs (c0 := 12) (j := 3) rfl rfl (zl hS 105 (by decide)) (sk hS 105 (by decide) rfl) rfl (by decide) (r_105_3 hS) ?_
            refine q_iconst (9) (by decide) ?_
            refine q_ialN (9) rfl (zl hS 107 (by decide)) (sk hS 107 (by decide) rfl) (by decide) (by decide) ?_
            cases h
            exact q_iret rfl (Nat.le_refl _) (Nat.le_refl _) ⟨rfl, rfl⟩
          | 3, ht =>
            cases ht
            rw [if_neg (sw_nq c_37 (by decide)), if_neg (sw_nq c_37 (by decide)), if_neg (sw_nq c_37 (by decide)), if_pos (sw_eq c_37 (by decide))] at h
            refine K_of b_304_129 h_304_129 ?_
            refine q_aload rfl ?_
            refine q_getRs (c0 := 12) (j := 3) rfl rfl (zl hS 105 (by decide)) (sk hS 105 (by decide) rfl) rfl (by decide) (r_105_3 hS) ?_
            refine q_iconst (3) (by decide) ?_
            refine q_ialN (3) rfl (zl hS 107 (by decide)) (sk hS 107 (by decide) rfl) (by decide) (by decide) ?_
            cases h
            exact q_iret rfl (Nat.le_refl _) (Nat.le_refl _) ⟨rfl, rfl⟩
          | 4, ht =>
            cases ht
            rw [if_neg (sw_nq c_37 (by decide)), if_neg (sw_nq c_37 (by decide)), if_neg (sw_nq c_37 (by decide)), if_neg (sw_nq c_37 (by decide)), if_pos (sw_eq c_37 (by decide))] at h
            refine K_of b_304_136 h_304_136 ?_
            refine q_iload rfl ?_
            cases h
            exact q_iret rfl (Nat.le_refl _) (Nat.le_refl _) ⟨rfl, rfl⟩
          | 5, ht =>
            cases ht
            rw [if_neg (sw_nq c_37 (by decide)), if_neg (sw_nq c_37 (by decide)), if_neg (sw_nq c_37 (by decide)), if_neg (sw_nq c_37 (by decide)), if_neg (sw_nq c_37 (by decide)), if_pos (sw_eq c_37 (by decide))] at h
            refine K_of b_304_138 h_304_138 ?_
            refine q_aload rfl ?_
            refine q_getRs (c0 := 12) (j := 3) rfl rfl (zl hS 105 (by decide)) (sk hS 105 (by decide) rfl) rfl (by decide) (r_105_3 hS) ?_
            refine q_iconst (6) (by decide) ?_
            refine q_ialN (6) rfl (zl hS 107 (by decide)) (sk hS 107 (by decide) rfl) (by decide) (by decide) ?_
            cases h
            exact q_iret rfl (Nat.le_refl _) (Nat.le_refl _) ⟨rfl, rfl⟩
          | 6, ht =>
            cases ht
            rw [if_neg (sw_nq c_37 (by decide)), if_neg (sw_nq c_37 (by decide)), if_neg (sw_nq c_37 (by decide)), if_neg (sw_nq c_37 (by decide)), if_neg (sw_nq c_37 (by decide)), if_neg (sw_nq c_37 (by decide)), if_pos (sw_eq c_37 (by decide))] at h
            refine K_of b_304_146 h_304_146 ?_
            refine q_aload rfl ?_
            refine q_getRs (c0 := 12) (j := 3) rfl rfl (zl hS 105 (by decide)) (sk hS 105 (by decide) rfl) rfl (by decide) (r_105_3 hS) ?_
            refine q_iconst (7) (by decide) ?_
            refine q_ialN (7) rfl (zl hS 107 (by decide)) (sk hS 107 (by decide) rfl) (by decide) (by decide) ?_
            cases h
            exact q_iret rfl (Nat.le_refl _) (Nat.le_refl _) ⟨rfl, rfl⟩
          | 7, ht =>
            cases ht
            rw [if_neg (sw_nq c_37 (by decide)), if_neg (sw_nq c_37 (by decide)), if_neg (sw_nq c_37 (by decide)), if_neg (sw_nq c_37 (by decide)), if_neg (sw_nq c_37 (by decide)), if_neg (sw_nq c_37 (by decide)), if_neg (sw_nq c_37 (by decide)), if_pos (sw_eq c_37 (by decide))] at h
            refine K_of b_304_154 h_304_154 ?_
            refine q_aload rfl ?_
            obtain ⟨d_155, h⟩ := ite_some h
            obtain ⟨⟨x0_155, I0_155, L0_155⟩, e_155, h⟩ := Option.bind_eq_some_iff.mp h
            dsimp only at h
            refine q_fv1I (a_204 X hS (d := d - 1) (by omega) e_155) (by omega) (Nat.le_refl _) (Nat.le_refl _) rfl (Nat.le_of_ble_eq_true rfl) ⟨(zl hS 105 (by decide)), congrArg Prod.fst (sk hS 105 (by decide) rfl), by decide⟩ ?_
            cases h
            exact q_iret rfl (Nat.le_refl _) (Nat.le_refl _) ⟨rfl, rfl⟩
          | 8, ht =>
            cases ht
            rw [if_neg (sw_nq c_37 (by decide)), if_neg (sw_nq c_37 (by decide)), if_neg (sw_nq c_37 (by decide)), if_neg (sw_nq c_37 (by decide)), if_neg (sw_nq c_37 (by decide)), if_neg (sw_nq c_37 (by decide)), if_neg (sw_nq c_37 (by decide)), if_neg (sw_nq c_37 (by decide)), if_pos (sw_eq c_37 (by decide))] at h
            refine K_of b_304_159 h_304_159 ?_
            refine q_aload rfl ?_
            refine q_getI (c0 := 12) (j := 7) rfl rfl (zl hS 105 (by decide)) (sk hS 105 (by decide) rfl) (Or.inl rfl) (by decide) ?_
            cases h
            exact q_iret rfl (Nat.le_refl _) (Nat.le_refl _) ⟨rfl, rfl⟩
          | 9, ht =>
            cases ht
            rw [if_neg (sw_nq c_37 (by decide)), if_neg (sw_nq c_37 (by decide)), if_neg (sw_nq c_37 (by decide)), if_neg (sw_nq c_37 (by decide)), if_neg (sw_nq c_37 (by decide)), if_neg (sw_nq c_37 (by decide)), if_neg (sw_nq c_37 (by decide)), if_neg (sw_nq c_37 (by decide)), if_neg (sw_nq c_37 (by decide)), if_pos (sw_eq c_37 (by decide))] at h
            refine K_of b_304_164 h_304_164 ?_
            refine q_aload rfl ?_
            refine q_getRs (c0 := 12) (j := 2) rfl rfl (zl hS 105 (by decide)) (sk hS 105 (by decide) rfl) rfl (by decide) (r_105_2 hS) ?_
            refine q_iconst (1) (by decide) ?_
            refine q_ialN (1) rfl (zl hS 106 (by decide)) (sk hS 106 (by decide) rfl) (by decide) (by decide) ?_
            cases h
            exact q_iret rfl (Nat.le_refl _) (Nat.le_refl _) ⟨rfl, rfl⟩
          | 10, ht =>
            cases ht
            rw [if_neg (sw_nq c_37 (by decide)), if_neg (sw_nq c_37 (by decide)), if_neg (sw_nq c_37 (by decide)), if_neg (sw_nq c_37 (by decide)), if_neg (sw_nq c_37 (by decide)), if_neg (sw_nq c_37 (by decide)), if_neg (sw_nq c_37 (by decide)), if_neg (sw_nq c_37 (by decide)), if_neg (sw_nq c_37 (by decide)), if_neg (sw_nq c_37 (by decide)), if_pos (sw_eq c_37 (by decide))] at h
            refine K_of b_304_171 h_304_171 ?_
            refine q_aload rfl ?_
            refine q_getRs (c0 := 12) (j := 2) rfl rfl (zl hS 105 (by decide)) (sk hS 105 (by decide) rfl) rfl (by decide) (r_105_2 hS) ?_
            refine q_iconst (2) (by decide) ?_
            refine q_ialN (2) rfl (zl hS 106 (by decide)) (sk hS 106 (by decide) rfl) (by decide) (by decide) ?_
            cases h
            exact q_iret rfl (Nat.le_refl _) (Nat.le_refl _) ⟨rfl, rfl⟩
          | 11, ht =>
            cases ht
            rw [if_neg (sw_nq c_37 (by decide)), if_neg (sw_nq c_37 (by decide)), if_neg (sw_nq c_37 (by decide)), if_neg (sw_nq c_37 (by decide)), if_neg (sw_nq c_37 (by decide)), if_neg (sw_nq c_37 (by decide)), if_neg (sw_nq c_37 (by decide)), if_neg (sw_nq c_37 (by decide)), if_neg (sw_nq c_37 (by decide)), if_neg (sw_nq c_37 (by decide)), if_neg (sw_nq c_37 (by decide)), if_pos (sw_eq c_37 (by decide))] at h
            refine K_of b_304_178 h_304_178 ?_
            refine q_aload rfl ?_
            refine q_getRs (c0 := 12) (j := 2) rfl rfl (zl hS 105 (by decide)) (sk hS 105 (by decide) rfl) rfl (by decide) (r_105_2 hS) ?_
            refine q_iconst (3) (by decide) ?_
            refine q_ialN (3) rfl (zl hS 106 (by decide)) (sk hS 106 (by decide) rfl) (by decide) (by decide) ?_
            cases h
            exact q_iret rfl (Nat.le_refl _) (Nat.le_refl _) ⟨rfl, rfl⟩
          | 12, ht =>
            cases ht
            rw [if_neg (sw_nq c_37 (by decide)), if_neg (sw_nq c_37 (by decide)), if_neg (sw_nq c_37 (by decide)), if_neg (sw_nq c_37 (by decide)), if_neg (sw_nq c_37 (by decide)), if_neg (sw_nq c_37 (by decide)), if_neg (sw_nq c_37 (by decide)), if_neg (sw_nq c_37 (by decide)), if_neg (sw_nq c_37 (by decide)), if_neg (sw_nq c_37 (by decide)), if_neg (sw_nq c_37 (by decide)), if_neg (sw_nq c_37 (by decide)), if_pos (sw_eq c_37 (by decide))] at h
            refine K_of b_304_185 h_304_185 ?_
            refine q_aload rfl ?_
            refine q_getRs (c0 := 12) (j := 2) rfl rfl (zl hS 105 (by decide)) (sk hS 105 (by decide) rfl) rfl (by decide) (r_105_2 hS) ?_
            refine q_iconst (5) (by decide) ?_
            refine q_ialN (5) rfl (zl hS 106 (by decide)) (sk hS 106 (by decide) rfl) (by decide) (by decide) ?_
            cases h
            exact q_iret rfl (Nat.le_refl _) (Nat.le_refl _) ⟨rfl, rfl⟩
          | 13, ht =>
            cases ht
            rw [if_neg (sw_nq c_37 (by decide)), if_neg (sw_nq c_37 (by decide)), if_neg (sw_nq c_37 (by decide)), if_neg (sw_nq c_37 (by decide)), if_neg (sw_nq c_37 (by decide)), if_neg (sw_nq c_37 (by decide)), if_neg (sw_nq c_37 (by decide)), if_neg (sw_nq c_37 (by decide)), if_neg (sw_nq c_37 (by decide)), if_neg (sw_nq c_37 (by decide)), if_neg (sw_nq c_37 (by decide)), if_neg (sw_nq c_37 (by decide)), if_neg (sw_nq c_37 (by decide)), if_pos (sw_eq c_37 (by decide))] at h
            refine K_of b_304_192 h_304_192 ?_
            refine q_aload rfl ?_
            refine q_getRs (c0 := 12) (j := 2) rfl rfl (zl hS 105 (by decide)) (sk hS 105 (by decide) rfl) rfl (by decide) (r_105_2 hS) ?_
            refine q_iconst (6) (by decide) ?_
            refine q_ialN (6) rfl (zl hS 106 (by decide)) (sk hS 106 (by decide) rfl) (by decide) (by decide) ?_
            cases h
            exact q_iret rfl (Nat.le_refl _) (Nat.le_refl _) ⟨rfl, rfl⟩
          | j + 14, ht => simp at ht
      · rw [if_neg c_17] at h
        refine q_iload rfl ?_
        refine q_aload rfl ?_
        refine q_iload rfl ?_
        refine q_iconst (6) (by decide) ?_
        obtain ⟨d_25, h⟩ := ite_some h
        obtain ⟨⟨x0_25, I0_25, L0_25⟩, e_25, h⟩ := Option.bind_eq_some_iff.mp h
        dsimp only at h
        refine q_fv3I (a_292 X hS (d := d - 1) (by omega) e_25) (by omega) (Nat.le_refl _) (Nat.le_refl _) rfl (Nat.le_of_ble_eq_true rfl) ⟨(zl hS 105 (by decide)), congrArg Prod.fst (sk hS 105 (by decide) rfl), by decide⟩ ?_
        refine q_iadd ?_
        refine q_istore (ls1 := [some (.ref 105), some (.int i1), some (.int (i2 + x0_25)), some (.int i3)]) (Nat.le_of_ble_eq_true rfl) rfl ?_
        refine q_iinc (ls1 := [some (.ref 105), some (.int i1), some (.int (i2 + x0_25)), some (.int (i3 + Int32.ofInt (1)))]) rfl rfl ?_
        refine q_goto ?_
        exact (ih dp d hdp _ _ i1 (i2 + x0_25) (i3 + Int32.ofInt (1)) _ _ _).2 h
theorem a_304 (X : GX) {z : Nat} {kd : Nat → Nat × Nat} {Rf : Nat → Nat → Option Nat} (hS : Sh z kd Rf) {n dp d : Nat} (hd : dp ≤ d) {I : (Nat → Nat → Int32)} {L : (Nat → Nat → Int64)} {i1 : Int32} {I1 : (Nat → Nat → Int32)} {L1 : (Nat → Nat → Int64)} {r : Int32} (h : g_304 n dp (z, kd, Rf) 0 I L i1 0 0 = some (r, I1, L1)) : Ct X d 304 0 0 [.ref 105, .int i1] (z, kd, I, L, Rf) (AI (fun x τ => x = r ∧ τ = (z, kd, I1, L1, Rf))) :=
  Ct_of mu_304 (Nat.le_of_ble_eq_true rfl) ((w_304 X hS n dp d hd I L i1 0 0 _ _ _).1 h)

/-! 305 CutFloorModel.status()I -/
set_option maxHeartbeats 4000000 in
set_option maxRecDepth 100000 in
def g_305 : Nat → Nat → EN → Nat → (Nat → Nat → Int32) → (Nat → Nat → Int64) →  Option (Int32 × (Nat → Nat → Int32) × (Nat → Nat → Int64))
  | 0, _, _, _, _, _ => none
  | n + 1, dp, e, lab, I, L =>
    if lab = 0 then (stI (u2 I 105 0 (0 : Int32)) (fun I_2 => (some ((I_2 105 1), I_2, L))))
    else none
set_option maxRecDepth 100000 in
theorem e_305_0 (n dp : Nat) (e : EN) (I : (Nat → Nat → Int32)) (L : (Nat → Nat → Int64)) : g_305 (n + 1) dp e 0 I L = (stI (u2 I 105 0 (0 : Int32)) (fun I_2 => (some ((I_2 105 1), I_2, L)))) := by rw [g_305.eq_2, if_pos (show (0 : Nat) = 0 from rfl)]
set_option maxHeartbeats 8000000 in
set_option maxRecDepth 100000 in
theorem w_305 (X : GX) {z : Nat} {kd : Nat → Nat × Nat} {Rf : Nat → Nat → Option Nat} (hS : Sh z kd Rf) : ∀ (n dp d : Nat), dp ≤ d → ∀ (I : (Nat → Nat → Int32)) (L : (Nat → Nat → Int64)) (r : Int32) (I1 : (Nat → Nat → Int32)) (L1 : (Nat → Nat → Int64)), (g_305 n dp (z, kd, Rf) 0 I L = some (r, I1, L1) → K X d 305 0 0 (AI (fun x τ => x = r ∧ τ = (z, kd, I1, L1, Rf))) 0 [some (.ref 105)] [] (z, kd, I, L, Rf) 0 0) := by
  intro n
  induction n with
  | zero => intro dp d hdp I L r I1 L1; exact fun h => by cases h
  | succ n ih =>
    intro dp d hdp I L r I1 L1
    · intro h
      rw [e_305_0] at h
      refine K_of b_305_0 h_305_0 ?_
      refine q_aload rfl ?_
      refine q_iconst (0) (by decide) ?_
      refine q_putI (c0 := 12) (j := 0) rfl rfl (zl hS 105 (by decide)) (sk hS 105 (by decide) rfl) rfl ?_
      obtain ⟨I_2, nI_2, h⟩ := stI_some h
      refine q_nI nI_2 ?_
      refine q_aload rfl ?_
      refine q_getI (c0 := 12) (j := 1) rfl rfl (zl hS 105 (by decide)) (sk hS 105 (by decide) rfl) (Or.inl rfl) (by decide) ?_
      cases h
      exact q_iret rfl (Nat.le_refl _) (Nat.le_refl _) ⟨rfl, rfl⟩
theorem a_305 (X : GX) {z : Nat} {kd : Nat → Nat × Nat} {Rf : Nat → Nat → Option Nat} (hS : Sh z kd Rf) {n dp d : Nat} (hd : dp ≤ d) {I : (Nat → Nat → Int32)} {L : (Nat → Nat → Int64)} {I1 : (Nat → Nat → Int32)} {L1 : (Nat → Nat → Int64)} {r : Int32} (h : g_305 n dp (z, kd, Rf) 0 I L = some (r, I1, L1)) : Ct X d 305 0 0 [.ref 105] (z, kd, I, L, Rf) (AI (fun x τ => x = r ∧ τ = (z, kd, I1, L1, Rf))) :=
  Ct_of mu_305 (Nat.le_of_ble_eq_true rfl) ((w_305 X hS n dp d hd I L _ _ _) h)

