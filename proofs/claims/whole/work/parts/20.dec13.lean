/-! 273 CutFloorModel.value(I)I -/
set_option maxHeartbeats 4000000 in
set_option maxRecDepth 100000 in
def g_273 : Nat → Nat → EN → Nat → (Nat → Nat → Int32) → (Nat → Nat → Int64) → Int32 →  Option (Int32 × (Nat → Nat → Int32) × (Nat → Nat → Int64))
  | 0, _, _, _, _, _, _ => none
  | n + 1, dp, e, lab, I, L, i1 =>
    if lab = 0 then (stI (u2 I 105 0 (0 : Int32)) (fun I_2 => (if 1 ≤ dp then (g_197 n (dp - 1) e 0 I_2 L i1).bind (fun ⟨x0_6, I0_6, L0_6⟩ => (if x0_6 = 0 then (some ((-1 : Int32), I0_6, L0_6)) else (if 1 ≤ dp then (g_261 n (dp - 1) e 0 I0_6 L0_6 0 0 0 0).bind (fun ⟨x1_13, I1_13, L1_13⟩ => (if x1_13 = 0 then (some ((-1 : Int32), I1_13, L1_13)) else (if 1 ≤ dp then (g_198 n (dp - 1) e 0 I1_13 L1_13).bind (fun ⟨x2_20, I2_20, L2_20⟩ => (if x2_20 = (8 : Int32) then (some ((-1 : Int32), I2_20, L2_20)) else (if 1 ≤ dp then (g_274 n (dp - 1) e 0 I2_20 L2_20 i1 (1 : Int32)).bind (fun ⟨x3_33, I3_33, L3_33⟩ => (if x3_33 = (-1 : Int32) then (some ((-1 : Int32), I3_33, L3_33)) else (some ((x3_33 - (I3_33 105 53)), I3_33, L3_33)))) else none))) else none))) else none))) else none)))
    else none
set_option maxRecDepth 100000 in
theorem e_273_0 (n dp : Nat) (e : EN) (I : (Nat → Nat → Int32)) (L : (Nat → Nat → Int64)) (i1 : Int32) : g_273 (n + 1) dp e 0 I L i1 = (stI (u2 I 105 0 (0 : Int32)) (fun I_2 => (if 1 ≤ dp then (g_197 n (dp - 1) e 0 I_2 L i1).bind (fun ⟨x0_6, I0_6, L0_6⟩ => (if x0_6 = 0 then (some ((-1 : Int32), I0_6, L0_6)) else (if 1 ≤ dp then (g_261 n (dp - 1) e 0 I0_6 L0_6 0 0 0 0).bind (fun ⟨x1_13, I1_13, L1_13⟩ => (if x1_13 = 0 then (some ((-1 : Int32), I1_13, L1_13)) else (if 1 ≤ dp then (g_198 n (dp - 1) e 0 I1_13 L1_13).bind (fun ⟨x2_20, I2_20, L2_20⟩ => (if x2_20 = (8 : Int32) then (some ((-1 : Int32), I2_20, L2_20)) else (if 1 ≤ dp then (g_274 n (dp - 1) e 0 I2_20 L2_20 i1 (1 : Int32)).bind (fun ⟨x3_33, I3_33, L3_33⟩ => (if x3_33 = (-1 : Int32) then (some ((-1 : Int32), I3_33, L3_33)) else (some ((x3_33 - (I3_33 105 53)), I3_33, L3_33)))) else none))) else none))) else none))) else none))) := by rw [g_273.eq_2, if_pos (show (0 : Nat) = 0 from rfl)]
set_option maxHeartbeats 8000000 in
set_option maxRecDepth 100000 in
theorem w_273 (X : GX) {z : Nat} {kd : Nat → Nat × Nat} {Rf : Nat → Nat → Option Nat} (hS : Sh z kd Rf) : ∀ (n dp d : Nat), dp ≤ d → ∀ (I : (Nat → Nat → Int32)) (L : (Nat → Nat → Int64)) (i1 : Int32) (r : Int32) (I1 : (Nat → Nat → Int32)) (L1 : (Nat → Nat → Int64)), (g_273 n dp (z, kd, Rf) 0 I L i1 = some (r, I1, L1) → K X d 273 0 0 (AI (fun x τ => x = r ∧ τ = (z, kd, I1, L1, Rf))) 0 [some (.ref 105), some (.int i1), none] [] (z, kd, I, L, Rf) 0 0) := by
  intro n
  induction n with
  | zero => intro dp d hdp I L i1 r I1 L1; exact fun h => by cases h
  | succ n ih =>
    intro dp d hdp I L i1 r I1 L1
    · intro h
      rw [e_273_0] at h
      refine K_of b_273_0 h_273_0 ?_
      refine q_aload rfl ?_
      refine q_iconst (0) (by decide) ?_
      refine q_putI (c0 := 12) (j := 0) rfl rfl (zl hS 105 (by decide)) (sk hS 105 (by decide) rfl) rfl ?_
      obtain ⟨I_2, nI_2, h⟩ := stI_some h
      refine q_nI nI_2 ?_
      refine q_iload rfl ?_
      obtain ⟨d_6, h⟩ := ite_some h
      obtain ⟨⟨x0_6, I0_6, L0_6⟩, e_6, h⟩ := Option.bind_eq_some_iff.mp h
      dsimp only at h
      refine q_fs1I (a_197 X hS (d := d - 1) (by omega) e_6) (by omega) (Nat.le_refl _) (Nat.le_refl _) rfl (Nat.le_of_ble_eq_true rfl) ?_
      refine q_if_eq (fun c_9 => ?_) (fun c_9 => ?_)
      · rw [if_pos c_9] at h
        refine K_of b_273_28 h_273_28 ?_
        refine q_iconst (-1) (by decide) ?_
        cases h
        exact q_iret rfl (Nat.le_refl _) (Nat.le_refl _) ⟨rfl, rfl⟩
      · rw [if_neg c_9] at h
        refine q_aload rfl ?_
        obtain ⟨d_13, h⟩ := ite_some h
        obtain ⟨⟨x1_13, I1_13, L1_13⟩, e_13, h⟩ := Option.bind_eq_some_iff.mp h
        dsimp only at h
        refine q_fv1I (a_261 X hS (d := d - 1) (by omega) e_13) (by omega) (Nat.le_refl _) (Nat.le_refl _) rfl (Nat.le_of_ble_eq_true rfl) ⟨(zl hS 105 (by decide)), congrArg Prod.fst (sk hS 105 (by decide) rfl), by decide⟩ ?_
        refine q_if_eq (fun c_16 => ?_) (fun c_16 => ?_)
        · rw [if_pos c_16] at h
          refine K_of b_273_28 h_273_28 ?_
          refine q_iconst (-1) (by decide) ?_
          cases h
          exact q_iret rfl (Nat.le_refl _) (Nat.le_refl _) ⟨rfl, rfl⟩
        · rw [if_neg c_16] at h
          refine q_aload rfl ?_
          obtain ⟨d_20, h⟩ := ite_some h
          obtain ⟨⟨x2_20, I2_20, L2_20⟩, e_20, h⟩ := Option.bind_eq_some_iff.mp h
          dsimp only at h
          refine q_fv1I (a_198 X hS (d := d - 1) (by omega) e_20) (by omega) (Nat.le_refl _) (Nat.le_refl _) rfl (Nat.le_of_ble_eq_true rfl) ⟨(zl hS 105 (by decide)), congrArg Prod.fst (sk hS 105 (by decide) rfl), by decide⟩ ?_
          refine q_iconst (8) (by decide) ?_
          refine q_icmp_ne (fun c_25 => ?_) (fun c_25 => ?_)
          · rw [if_neg c_25] at h
            refine K_of b_273_30 h_273_30 ?_
            refine q_aload rfl ?_
            refine q_iload rfl ?_
            refine q_iconst (1) (by decide) ?_
            obtain ⟨d_33, h⟩ := ite_some h
            obtain ⟨⟨x3_33, I3_33, L3_33⟩, e_33, h⟩ := Option.bind_eq_some_iff.mp h
            dsimp only at h
            refine q_fv3I (a_274 X hS (d := d - 1) (by omega) e_33) (by omega) (Nat.le_refl _) (Nat.le_refl _) rfl (Nat.le_of_ble_eq_true rfl) ⟨(zl hS 105 (by decide)), congrArg Prod.fst (sk hS 105 (by decide) rfl), by decide⟩ ?_
            refine q_istore (Nat.le_of_ble_eq_true rfl) rfl ?_
            refine q_iload rfl ?_
            refine q_iconst (-1) (by decide) ?_
            refine q_icmp_ne (fun c_39 => ?_) (fun c_39 => ?_)
            · rw [if_neg c_39] at h
              refine K_of b_273_46 h_273_46 ?_
              refine q_iload rfl ?_
              refine q_aload rfl ?_
              refine q_getI (c0 := 12) (j := 53) rfl rfl (zl hS 105 (by decide)) (sk hS 105 (by decide) rfl) (Or.inl rfl) (by decide) ?_
              refine q_isub ?_
              refine q_end ?_
              refine K_of b_273_52 h_273_52 ?_
              cases h
              exact q_iret rfl (Nat.le_refl _) (Nat.le_refl _) ⟨rfl, rfl⟩
            · rw [if_pos c_39] at h
              refine q_iconst (-1) (by decide) ?_
              refine q_goto ?_
              refine K_of b_273_52 h_273_52 ?_
              cases h
              exact q_iret rfl (Nat.le_refl _) (Nat.le_refl _) ⟨rfl, rfl⟩
          · rw [if_pos c_25] at h
            refine q_end ?_
            refine K_of b_273_28 h_273_28 ?_
            refine q_iconst (-1) (by decide) ?_
            cases h
            exact q_iret rfl (Nat.le_refl _) (Nat.le_refl _) ⟨rfl, rfl⟩
theorem a_273 (X : GX) {z : Nat} {kd : Nat → Nat × Nat} {Rf : Nat → Nat → Option Nat} (hS : Sh z kd Rf) {n dp d : Nat} (hd : dp ≤ d) {I : (Nat → Nat → Int32)} {L : (Nat → Nat → Int64)} {i1 : Int32} {I1 : (Nat → Nat → Int32)} {L1 : (Nat → Nat → Int64)} {r : Int32} (h : g_273 n dp (z, kd, Rf) 0 I L i1 = some (r, I1, L1)) : Ct X d 273 0 0 [.ref 105, .int i1] (z, kd, I, L, Rf) (AI (fun x τ => x = r ∧ τ = (z, kd, I1, L1, Rf))) :=
  Ct_of mu_273 (Nat.le_of_ble_eq_true rfl) ((w_273 X hS n dp d hd I L i1 _ _ _) h)

/-! 275 CutFloorModel.shorts(I)I -/
set_option maxHeartbeats 4000000 in
set_option maxRecDepth 100000 in
def g_275 : Nat → Nat → EN → Nat → (Nat → Nat → Int32) → (Nat → Nat → Int64) → Int32 →  Option (Int32 × (Nat → Nat → Int32) × (Nat → Nat → Int64))
  | 0, _, _, _, _, _, _ => none
  | n + 1, dp, e, lab, I, L, i1 =>
    if lab = 0 then (stI (u2 I 105 0 (0 : Int32)) (fun I_2 => (if 1 ≤ dp then (g_197 n (dp - 1) e 0 I_2 L i1).bind (fun ⟨x0_6, I0_6, L0_6⟩ => (if x0_6 = 0 then (some ((-100000 : Int32), I0_6, L0_6)) else (if 1 ≤ dp then (g_261 n (dp - 1) e 0 I0_6 L0_6 0 0 0 0).bind (fun ⟨x1_13, I1_13, L1_13⟩ => (if x1_13 = 0 then (some ((-100000 : Int32), I1_13, L1_13)) else (if 1 ≤ dp then (g_197 n (dp - 1) e 0 I1_13 L1_13 i1).bind (fun ⟨x2_25, I2_25, L2_25⟩ => (if x2_25 = 0 then (if 0 ≤ ((0 : Int32) + (0 : Int32)) ∧ (Int32.toNatClampNeg ((0 : Int32) + (0 : Int32))) < 1570 then (if (I2_25 107 (Int32.toNatClampNeg ((0 : Int32) + (0 : Int32)))) = 0 then (some ((-100000 : Int32), I2_25, L2_25)) else (if 1 ≤ dp then (g_274 n (dp - 1) e 0 I2_25 L2_25 i1 (-1 : Int32)).bind (fun ⟨x3_52, I3_52, L3_52⟩ => (some (((I2_25 105 53) - x3_52), I3_52, L3_52))) else none)) else none) else (if 0 ≤ ((0 : Int32) + i1) ∧ (Int32.toNatClampNeg ((0 : Int32) + i1)) < 1570 then (if (I2_25 107 (Int32.toNatClampNeg ((0 : Int32) + i1))) = 0 then (some ((-100000 : Int32), I2_25, L2_25)) else (if 1 ≤ dp then (g_274 n (dp - 1) e 0 I2_25 L2_25 i1 (-1 : Int32)).bind (fun ⟨x3_52, I3_52, L3_52⟩ => (some (((I2_25 105 53) - x3_52), I3_52, L3_52))) else none)) else none))) else none))) else none))) else none)))
    else none
set_option maxRecDepth 100000 in
theorem e_275_0 (n dp : Nat) (e : EN) (I : (Nat → Nat → Int32)) (L : (Nat → Nat → Int64)) (i1 : Int32) : g_275 (n + 1) dp e 0 I L i1 = (stI (u2 I 105 0 (0 : Int32)) (fun I_2 => (if 1 ≤ dp then (g_197 n (dp - 1) e 0 I_2 L i1).bind (fun ⟨x0_6, I0_6, L0_6⟩ => (if x0_6 = 0 then (some ((-100000 : Int32), I0_6, L0_6)) else (if 1 ≤ dp then (g_261 n (dp - 1) e 0 I0_6 L0_6 0 0 0 0).bind (fun ⟨x1_13, I1_13, L1_13⟩ => (if x1_13 = 0 then (some ((-100000 : Int32), I1_13, L1_13)) else (if 1 ≤ dp then (g_197 n (dp - 1) e 0 I1_13 L1_13 i1).bind (fun ⟨x2_25, I2_25, L2_25⟩ => (if x2_25 = 0 then (if 0 ≤ ((0 : Int32) + (0 : Int32)) ∧ (Int32.toNatClampNeg ((0 : Int32) + (0 : Int32))) < 1570 then (if (I2_25 107 (Int32.toNatClampNeg ((0 : Int32) + (0 : Int32)))) = 0 then (some ((-100000 : Int32), I2_25, L2_25)) else (if 1 ≤ dp then (g_274 n (dp - 1) e 0 I2_25 L2_25 i1 (-1 : Int32)).bind (fun ⟨x3_52, I3_52, L3_52⟩ => (some (((I2_25 105 53) - x3_52), I3_52, L3_52))) else none)) else none) else (if 0 ≤ ((0 : Int32) + i1) ∧ (Int32.toNatClampNeg ((0 : Int32) + i1)) < 1570 then (if (I2_25 107 (Int32.toNatClampNeg ((0 : Int32) + i1))) = 0 then (some ((-100000 : Int32), I2_25, L2_25)) else (if 1 ≤ dp then (g_274 n (dp - 1) e 0 I2_25 L2_25 i1 (-1 : Int32)).bind (fun ⟨x3_52, I3_52, L3_52⟩ => (some (((I2_25 105 53) - x3_52), I3_52, L3_52))) else none)) else none))) else none))) else none))) else none))) := by rw [g_275.eq_2, if_pos (show (0 : Nat) = 0 from rfl)]
set_option maxHeartbeats 8000000 in
set_option maxRecDepth 100000 in
theorem w_275 (X : GX) {z : Nat} {kd : Nat → Nat × Nat} {Rf : Nat → Nat → Option Nat} (hS : Sh z kd Rf) : ∀ (n dp d : Nat), dp ≤ d → ∀ (I : (Nat → Nat → Int32)) (L : (Nat → Nat → Int64)) (i1 : Int32) (r : Int32) (I1 : (Nat → Nat → Int32)) (L1 : (Nat → Nat → Int64)), (g_275 n dp (z, kd, Rf) 0 I L i1 = some (r, I1, L1) → K X d 275 0 0 (AI (fun x τ => x = r ∧ τ = (z, kd, I1, L1, Rf))) 0 [some (.ref 105), some (.int i1)] [] (z, kd, I, L, Rf) 0 0) := by
  intro n
  induction n with
  | zero => intro dp d hdp I L i1 r I1 L1; exact fun h => by cases h
  | succ n ih =>
    intro dp d hdp I L i1 r I1 L1
    · intro h
      rw [e_275_0] at h
      refine K_of b_275_0 h_275_0 ?_
      refine q_aload rfl ?_
      refine q_iconst (0) (by decide) ?_
      refine q_putI (c0 := 12) (j := 0) rfl rfl (zl hS 105 (by decide)) (sk hS 105 (by decide) rfl) rfl ?_
      obtain ⟨I_2, nI_2, h⟩ := stI_some h
      refine q_nI nI_2 ?_
      refine q_iload rfl ?_
      obtain ⟨d_6, h⟩ := ite_some h
      obtain ⟨⟨x0_6, I0_6, L0_6⟩, e_6, h⟩ := Option.bind_eq_some_iff.mp h
      dsimp only at h
      refine q_fs1I (a_197 X hS (d := d - 1) (by omega) e_6) (by omega) (Nat.le_refl _) (Nat.le_refl _) rfl (Nat.le_of_ble_eq_true rfl) ?_
      refine q_if_eq (fun c_9 => ?_) (fun c_9 => ?_)
      · rw [if_pos c_9] at h
        refine K_of b_275_41 h_275_41 ?_
        refine q_iconst (-100000) (by decide) ?_
        cases h
        exact q_iret rfl (Nat.le_refl _) (Nat.le_refl _) ⟨rfl, rfl⟩
      · rw [if_neg c_9] at h
        refine q_aload rfl ?_
        obtain ⟨d_13, h⟩ := ite_some h
        obtain ⟨⟨x1_13, I1_13, L1_13⟩, e_13, h⟩ := Option.bind_eq_some_iff.mp h
        dsimp only at h
        refine q_fv1I (a_261 X hS (d := d - 1) (by omega) e_13) (by omega) (Nat.le_refl _) (Nat.le_refl _) rfl (Nat.le_of_ble_eq_true rfl) ⟨(zl hS 105 (by decide)), congrArg Prod.fst (sk hS 105 (by decide) rfl), by decide⟩ ?_
        refine q_if_eq (fun c_16 => ?_) (fun c_16 => ?_)
        · rw [if_pos c_16] at h
          refine K_of b_275_41 h_275_41 ?_
          refine q_iconst (-100000) (by decide) ?_
          cases h
          exact q_iret rfl (Nat.le_refl _) (Nat.le_refl _) ⟨rfl, rfl⟩
        · rw [if_neg c_16] at h
          refine q_aload rfl ?_
          refine q_getRs (c0 := 12) (j := 3) rfl rfl (zl hS 105 (by decide)) (sk hS 105 (by decide) rfl) rfl (by decide) (r_105_3 hS) ?_
          refine q_iconst (0) (by decide) ?_
          refine q_iload rfl ?_
          obtain ⟨d_25, h⟩ := ite_some h
          obtain ⟨⟨x2_25, I2_25, L2_25⟩, e_25, h⟩ := Option.bind_eq_some_iff.mp h
          dsimp only at h
          refine q_fs1I (a_197 X hS (d := d - 1) (by omega) e_25) (by omega) (Nat.le_refl _) (Nat.le_refl _) rfl (Nat.le_of_ble_eq_true rfl) ?_
          refine q_if_eq (fun c_28 => ?_) (fun c_28 => ?_)
          · rw [if_pos c_28] at h
            refine K_of b_275_35 h_275_35 ?_
            refine q_iconst (0) (by decide) ?_
            refine q_end ?_
            refine K_of b_275_36 h_275_36 ?_
            refine q_iadd ?_
            obtain ⟨⟨u_37, v_37⟩, h⟩ := ite_some h
            refine q_ialN (Int32.toNatClampNeg ((0 : Int32) + (0 : Int32))) (nx u_37) (zl hS 107 (by decide)) (sk hS 107 (by decide) rfl) v_37 (by decide) ?_
            refine q_if_ne (fun c_38 => ?_) (fun c_38 => ?_)
            · rw [if_neg c_38] at h
              refine K_of b_275_45 h_275_45 ?_
              refine q_aload rfl ?_
              refine q_getI (c0 := 12) (j := 53) rfl rfl (zl hS 105 (by decide)) (sk hS 105 (by decide) rfl) (Or.inl rfl) (by decide) ?_
              refine q_aload rfl ?_
              refine q_iload rfl ?_
              refine q_iconst (-1) (by decide) ?_
              obtain ⟨d_52, h⟩ := ite_some h
              obtain ⟨⟨x3_52, I3_52, L3_52⟩, e_52, h⟩ := Option.bind_eq_some_iff.mp h
              dsimp only at h
              refine q_fv3I (a_274 X hS (d := d - 1) (by omega) e_52) (by omega) (Nat.le_refl _) (Nat.le_refl _) rfl (Nat.le_of_ble_eq_true rfl) ⟨(zl hS 105 (by decide)), congrArg Prod.fst (sk hS 105 (by decide) rfl), by decide⟩ ?_
              refine q_isub ?_
              cases h
              exact q_iret rfl (Nat.le_refl _) (Nat.le_refl _) ⟨rfl, rfl⟩
            · rw [if_pos c_38] at h
              refine q_end ?_
              refine K_of b_275_41 h_275_41 ?_
              refine q_iconst (-100000) (by decide) ?_
              cases h
              exact q_iret rfl (Nat.le_refl _) (Nat.le_refl _) ⟨rfl, rfl⟩
          · rw [if_neg c_28] at h
            refine q_iload rfl ?_
            refine q_goto ?_
            refine K_of b_275_36 h_275_36 ?_
            refine q_iadd ?_
            obtain ⟨⟨u_37, v_37⟩, h⟩ := ite_some h
            refine q_ialN (Int32.toNatClampNeg ((0 : Int32) + i1)) (nx u_37) (zl hS 107 (by decide)) (sk hS 107 (by decide) rfl) v_37 (by decide) ?_
            refine q_if_ne (fun c_38 => ?_) (fun c_38 => ?_)
            · rw [if_neg c_38] at h
              refine K_of b_275_45 h_275_45 ?_
              refine q_aload rfl ?_
              refine q_getI (c0 := 12) (j := 53) rfl rfl (zl hS 105 (by decide)) (sk hS 105 (by decide) rfl) (Or.inl rfl) (by decide) ?_
              refine q_aload rfl ?_
              refine q_iload rfl ?_
              refine q_iconst (-1) (by decide) ?_
              obtain ⟨d_52, h⟩ := ite_some h
              obtain ⟨⟨x3_52, I3_52, L3_52⟩, e_52, h⟩ := Option.bind_eq_some_iff.mp h
              dsimp only at h
              refine q_fv3I (a_274 X hS (d := d - 1) (by omega) e_52) (by omega) (Nat.le_refl _) (Nat.le_refl _) rfl (Nat.le_of_ble_eq_true rfl) ⟨(zl hS 105 (by decide)), congrArg Prod.fst (sk hS 105 (by decide) rfl), by decide⟩ ?_
              refine q_isub ?_
              cases h
              exact q_iret rfl (Nat.le_refl _) (Nat.le_refl _) ⟨rfl, rfl⟩
            · rw [if_pos c_38] at h
              refine q_end ?_
              refine K_of b_275_41 h_275_41 ?_
              refine q_iconst (-100000) (by decide) ?_
              cases h
              exact q_iret rfl (Nat.le_refl _) (Nat.le_refl _) ⟨rfl, rfl⟩
theorem a_275 (X : GX) {z : Nat} {kd : Nat → Nat × Nat} {Rf : Nat → Nat → Option Nat} (hS : Sh z kd Rf) {n dp d : Nat} (hd : dp ≤ d) {I : (Nat → Nat → Int32)} {L : (Nat → Nat → Int64)} {i1 : Int32} {I1 : (Nat → Nat → Int32)} {L1 : (Nat → Nat → Int64)} {r : Int32} (h : g_275 n dp (z, kd, Rf) 0 I L i1 = some (r, I1, L1)) : Ct X d 275 0 0 [.ref 105, .int i1] (z, kd, I, L, Rf) (AI (fun x τ => x = r ∧ τ = (z, kd, I1, L1, Rf))) :=
  Ct_of mu_275 (Nat.le_of_ble_eq_true rfl) ((w_275 X hS n dp d hd I L i1 _ _ _) h)

/-! 276 CutFloorModel.worth(I)I -/
set_option maxHeartbeats 4000000 in
set_option maxRecDepth 100000 in
def g_276 : Nat → Nat → EN → Nat → (Nat → Nat → Int32) → (Nat → Nat → Int64) → Int32 → Int32 →  Option (Int32 × (Nat → Nat → Int32) × (Nat → Nat → Int64))
  | 0, _, _, _, _, _, _, _ => none
  | n + 1, dp, e, lab, I, L, i1, i2 =>
    if lab = 0 then (stI (u2 I 105 0 (0 : Int32)) (fun I_2 => (if 1 ≤ dp then (g_202 n (dp - 1) e 0 I_2 L i1).bind (fun ⟨x0_6, I0_6, L0_6⟩ => (if x0_6 = 0 then (some ((-1 : Int32), I0_6, L0_6)) else (if 1 ≤ dp then (g_261 n (dp - 1) e 0 I0_6 L0_6 0 0 0 0).bind (fun ⟨x1_13, I1_13, L1_13⟩ => (if x1_13 = 0 then (some ((-1 : Int32), I1_13, L1_13)) else (if 0 ≤ ((60 : Int32) + i1) ∧ (Int32.toNatClampNeg ((60 : Int32) + i1)) < 1570 then (stI (I1_13 107 (Int32.toNatClampNeg ((60 : Int32) + i1))) (fun v_30 => (if v_30 = (8 : Int32) then (some ((-1 : Int32), I1_13, L1_13)) else (if v_30 = 0 then (if 1 ≤ dp then (g_204 n (dp - 1) e 0 I1_13 L1_13 0 0).bind (fun ⟨x2_42, I2_42, L2_42⟩ => (if x2_42 = (5 : Int32) then (some ((-1 : Int32), I2_42, L2_42)) else (g_276 n dp e 1 I2_42 L2_42 i1 v_30))) else none) else (g_276 n dp e 1 I1_13 L1_13 i1 v_30))))) else none))) else none))) else none)))
    else if lab = 1 then (if 1 ≤ dp then (g_262 n (dp - 1) e 0 I L (I 107 0) (I 107 1) (I 107 2) 0 0 0).bind (fun ⟨x0_70, I0_70, L0_70⟩ => (if 0 ≤ i1 ∧ (Int32.toNatClampNeg i1) < 10 then (stI (u2 I0_70 127 (Int32.toNatClampNeg i1) (i2 + (1 : Int32))) (fun I_82 => (if x0_70 = 0 then (some ((-1 : Int32), I_82, L0_70)) else (if 1 ≤ dp then (g_263 n (dp - 1) e 0 I_82 L0_70 0 0 0).bind (fun ⟨x1_88, I1_88, L1_88⟩ => (some ((x1_88 - (I1_88 105 53)), I1_88, L1_88))) else none)))) else none)) else none)
    else none
set_option maxRecDepth 100000 in
theorem e_276_0 (n dp : Nat) (e : EN) (I : (Nat → Nat → Int32)) (L : (Nat → Nat → Int64)) (i1 : Int32) (i2 : Int32) : g_276 (n + 1) dp e 0 I L i1 i2 = (stI (u2 I 105 0 (0 : Int32)) (fun I_2 => (if 1 ≤ dp then (g_202 n (dp - 1) e 0 I_2 L i1).bind (fun ⟨x0_6, I0_6, L0_6⟩ => (if x0_6 = 0 then (some ((-1 : Int32), I0_6, L0_6)) else (if 1 ≤ dp then (g_261 n (dp - 1) e 0 I0_6 L0_6 0 0 0 0).bind (fun ⟨x1_13, I1_13, L1_13⟩ => (if x1_13 = 0 then (some ((-1 : Int32), I1_13, L1_13)) else (if 0 ≤ ((60 : Int32) + i1) ∧ (Int32.toNatClampNeg ((60 : Int32) + i1)) < 1570 then (stI (I1_13 107 (Int32.toNatClampNeg ((60 : Int32) + i1))) (fun v_30 => (if v_30 = (8 : Int32) then (some ((-1 : Int32), I1_13, L1_13)) else (if v_30 = 0 then (if 1 ≤ dp then (g_204 n (dp - 1) e 0 I1_13 L1_13 0 0).bind (fun ⟨x2_42, I2_42, L2_42⟩ => (if x2_42 = (5 : Int32) then (some ((-1 : Int32), I2_42, L2_42)) else (g_276 n dp e 1 I2_42 L2_42 i1 v_30))) else none) else (g_276 n dp e 1 I1_13 L1_13 i1 v_30))))) else none))) else none))) else none))) := by rw [g_276.eq_2, if_pos (show (0 : Nat) = 0 from rfl)]
set_option maxRecDepth 100000 in
theorem e_276_1 (n dp : Nat) (e : EN) (I : (Nat → Nat → Int32)) (L : (Nat → Nat → Int64)) (i1 : Int32) (i2 : Int32) : g_276 (n + 1) dp e 1 I L i1 i2 = (if 1 ≤ dp then (g_262 n (dp - 1) e 0 I L (I 107 0) (I 107 1) (I 107 2) 0 0 0).bind (fun ⟨x0_70, I0_70, L0_70⟩ => (if 0 ≤ i1 ∧ (Int32.toNatClampNeg i1) < 10 then (stI (u2 I0_70 127 (Int32.toNatClampNeg i1) (i2 + (1 : Int32))) (fun I_82 => (if x0_70 = 0 then (some ((-1 : Int32), I_82, L0_70)) else (if 1 ≤ dp then (g_263 n (dp - 1) e 0 I_82 L0_70 0 0 0).bind (fun ⟨x1_88, I1_88, L1_88⟩ => (some ((x1_88 - (I1_88 105 53)), I1_88, L1_88))) else none)))) else none)) else none) := by rw [g_276.eq_2, if_neg (show ¬ ((1 : Nat) = 0) by decide), if_pos (show (1 : Nat) = 1 from rfl)]
set_option maxHeartbeats 8000000 in
set_option maxRecDepth 100000 in
theorem w_276 (X : GX) {z : Nat} {kd : Nat → Nat × Nat} {Rf : Nat → Nat → Option Nat} (hS : Sh z kd Rf) : ∀ (n dp d : Nat), dp ≤ d → ∀ (I : (Nat → Nat → Int32)) (L : (Nat → Nat → Int64)) (i1 : Int32) (i2 : Int32) (r : Int32) (I1 : (Nat → Nat → Int32)) (L1 : (Nat → Nat → Int64)), (g_276 n dp (z, kd, Rf) 0 I L i1 i2 = some (r, I1, L1) → K X d 276 0 0 (AI (fun x τ => x = r ∧ τ = (z, kd, I1, L1, Rf))) 0 [some (.ref 105), some (.int i1), none, none] [] (z, kd, I, L, Rf) 0 0) ∧
    (g_276 n dp (z, kd, Rf) 1 I L i1 i2 = some (r, I1, L1) → K X d 276 0 0 (AI (fun x τ => x = r ∧ τ = (z, kd, I1, L1, Rf))) 51 [some (.ref 105), some (.int i1), some (.int i2), none] [] (z, kd, I, L, Rf) 0 0) := by
  intro n
  induction n with
  | zero => intro dp d hdp I L i1 i2 r I1 L1; exact ⟨(fun h => by cases h), (fun h => by cases h)⟩
  | succ n ih =>
    intro dp d hdp I L i1 i2 r I1 L1
    refine ⟨?_, ?_⟩
    · intro h
      rw [e_276_0] at h
      refine K_of b_276_0 h_276_0 ?_
      refine q_aload rfl ?_
      refine q_iconst (0) (by decide) ?_
      refine q_putI (c0 := 12) (j := 0) rfl rfl (zl hS 105 (by decide)) (sk hS 105 (by decide) rfl) rfl ?_
      obtain ⟨I_2, nI_2, h⟩ := stI_some h
      refine q_nI nI_2 ?_
      refine q_iload rfl ?_
      obtain ⟨d_6, h⟩ := ite_some h
      obtain ⟨⟨x0_6, I0_6, L0_6⟩, e_6, h⟩ := Option.bind_eq_some_iff.mp h
      dsimp only at h
      refine q_fs1I (a_202 X hS (d := d - 1) (by omega) e_6) (by omega) (Nat.le_refl _) (Nat.le_refl _) rfl (Nat.le_of_ble_eq_true rfl) ?_
      refine q_if_eq (fun c_9 => ?_) (fun c_9 => ?_)
      · rw [if_pos c_9] at h
        refine K_of b_276_19 h_276_19 ?_
        refine q_iconst (-1) (by decide) ?_
        cases h
        exact q_iret rfl (Nat.le_refl _) (Nat.le_refl _) ⟨rfl, rfl⟩
      · rw [if_neg c_9] at h
        refine q_aload rfl ?_
        obtain ⟨d_13, h⟩ := ite_some h
        obtain ⟨⟨x1_13, I1_13, L1_13⟩, e_13, h⟩ := Option.bind_eq_some_iff.mp h
        dsimp only at h
        refine q_fv1I (a_261 X hS (d := d - 1) (by omega) e_13) (by omega) (Nat.le_refl _) (Nat.le_refl _) rfl (Nat.le_of_ble_eq_true rfl) ⟨(zl hS 105 (by decide)), congrArg Prod.fst (sk hS 105 (by decide) rfl), by decide⟩ ?_
        refine q_if_ne (fun c_16 => ?_) (fun c_16 => ?_)
        · rw [if_neg c_16] at h
          refine K_of b_276_21 h_276_21 ?_
          refine q_aload rfl ?_
          refine q_getRs (c0 := 12) (j := 3) rfl rfl (zl hS 105 (by decide)) (sk hS 105 (by decide) rfl) rfl (by decide) (r_105_3 hS) ?_
          refine q_iconst (60) (by decide) ?_
          refine q_iload rfl ?_
          refine q_iadd ?_
          obtain ⟨⟨u_29, v_29⟩, h⟩ := ite_some h
          refine q_ialN (Int32.toNatClampNeg ((60 : Int32) + i1)) (nx u_29) (zl hS 107 (by decide)) (sk hS 107 (by decide) rfl) v_29 (by decide) ?_
          obtain ⟨v_30, nv_30, h⟩ := stI_some h
          refine q_eqi nv_30.symm ?_
          refine q_istore (Nat.le_of_ble_eq_true rfl) rfl ?_
          refine q_iload rfl ?_
          refine q_iconst (8) (by decide) ?_
          refine q_icmp_eq (fun c_34 => ?_) (fun c_34 => ?_)
          · rw [if_pos c_34] at h
            refine K_of b_276_49 h_276_49 ?_
            refine q_iconst (-1) (by decide) ?_
            cases h
            exact q_iret rfl (Nat.le_refl _) (Nat.le_refl _) ⟨rfl, rfl⟩
          · rw [if_neg c_34] at h
            refine q_iload rfl ?_
            refine q_if_ne (fun c_38 => ?_) (fun c_38 => ?_)
            · rw [if_neg c_38] at h
              exact (ih dp d hdp _ _ i1 v_30 _ _ _).2 h
            · rw [if_pos c_38] at h
              refine q_aload rfl ?_
              obtain ⟨d_42, h⟩ := ite_some h
              obtain ⟨⟨x2_42, I2_42, L2_42⟩, e_42, h⟩ := Option.bind_eq_some_iff.mp h
              dsimp only at h
              refine q_fv1I (a_204 X hS (d := d - 1) (by omega) e_42) (by omega) (Nat.le_refl _) (Nat.le_refl _) rfl (Nat.le_of_ble_eq_true rfl) ⟨(zl hS 105 (by decide)), congrArg Prod.fst (sk hS 105 (by decide) rfl), by decide⟩ ?_
              refine q_iconst (5) (by decide) ?_
              refine q_icmp_ne (fun c_46 => ?_) (fun c_46 => ?_)
              · rw [if_neg c_46] at h
                exact (ih dp d hdp _ _ i1 v_30 _ _ _).2 h
              · rw [if_pos c_46] at h
                refine q_end ?_
                refine K_of b_276_49 h_276_49 ?_
                refine q_iconst (-1) (by decide) ?_
                cases h
                exact q_iret rfl (Nat.le_refl _) (Nat.le_refl _) ⟨rfl, rfl⟩
        · rw [if_pos c_16] at h
          refine q_end ?_
          refine K_of b_276_19 h_276_19 ?_
          refine q_iconst (-1) (by decide) ?_
          cases h
          exact q_iret rfl (Nat.le_refl _) (Nat.le_refl _) ⟨rfl, rfl⟩
    · intro h
      rw [e_276_1] at h
      refine K_of b_276_51 h_276_51 ?_
      refine q_aload rfl ?_
      refine q_aload rfl ?_
      refine q_getRs (c0 := 12) (j := 3) rfl rfl (zl hS 105 (by decide)) (sk hS 105 (by decide) rfl) rfl (by decide) (r_105_3 hS) ?_
      refine q_iconst (0) (by decide) ?_
      refine q_ialN (0) rfl (zl hS 107 (by decide)) (sk hS 107 (by decide) rfl) (by decide) (by decide) ?_
      refine q_aload rfl ?_
      refine q_getRs (c0 := 12) (j := 3) rfl rfl (zl hS 105 (by decide)) (sk hS 105 (by decide) rfl) rfl (by decide) (r_105_3 hS) ?_
      refine q_iconst (1) (by decide) ?_
      refine q_ialN (1) rfl (zl hS 107 (by decide)) (sk hS 107 (by decide) rfl) (by decide) (by decide) ?_
      refine q_aload rfl ?_
      refine q_getRs (c0 := 12) (j := 3) rfl rfl (zl hS 105 (by decide)) (sk hS 105 (by decide) rfl) rfl (by decide) (r_105_3 hS) ?_
      refine q_iconst (2) (by decide) ?_
      refine q_ialN (2) rfl (zl hS 107 (by decide)) (sk hS 107 (by decide) rfl) (by decide) (by decide) ?_
      obtain ⟨d_70, h⟩ := ite_some h
      obtain ⟨⟨x0_70, I0_70, L0_70⟩, e_70, h⟩ := Option.bind_eq_some_iff.mp h
      dsimp only at h
      refine q_fv4I (a_262 X hS (d := d - 1) (by omega) e_70) (by omega) (Nat.le_refl _) (Nat.le_refl _) rfl (Nat.le_of_ble_eq_true rfl) ⟨(zl hS 105 (by decide)), congrArg Prod.fst (sk hS 105 (by decide) rfl), by decide⟩ ?_
      refine q_istore (Nat.le_of_ble_eq_true rfl) rfl ?_
      refine q_aload rfl ?_
      refine q_getRs (c0 := 12) (j := 41) rfl rfl (zl hS 105 (by decide)) (sk hS 105 (by decide) rfl) rfl (by decide) (r_105_41 hS) ?_
      refine q_iload rfl ?_
      refine q_iload rfl ?_
      refine q_iconst (1) (by decide) ?_
      refine q_iadd ?_
      obtain ⟨⟨u_82, v_82⟩, h⟩ := ite_some h
      refine q_iasN (Int32.toNatClampNeg i1) (nx u_82) (zl hS 127 (by decide)) (sk hS 127 (by decide) rfl) v_82 (by decide) ?_
      obtain ⟨I_82, nI_82, h⟩ := stI_some h
      refine q_nI nI_82 ?_
      refine q_iload rfl ?_
      refine q_if_eq (fun c_84 => ?_) (fun c_84 => ?_)
      · rw [if_pos c_84] at h
        refine K_of b_276_99 h_276_99 ?_
        refine q_iconst (-1) (by decide) ?_
        refine q_end ?_
        refine K_of b_276_100 h_276_100 ?_
        cases h
        exact q_iret rfl (Nat.le_refl _) (Nat.le_refl _) ⟨rfl, rfl⟩
      · rw [if_neg c_84] at h
        refine q_aload rfl ?_
        obtain ⟨d_88, h⟩ := ite_some h
        obtain ⟨⟨x1_88, I1_88, L1_88⟩, e_88, h⟩ := Option.bind_eq_some_iff.mp h
        dsimp only at h
        refine q_fv1I (a_263 X hS (d := d - 1) (by omega) e_88) (by omega) (Nat.le_refl _) (Nat.le_refl _) rfl (Nat.le_of_ble_eq_true rfl) ⟨(zl hS 105 (by decide)), congrArg Prod.fst (sk hS 105 (by decide) rfl), by decide⟩ ?_
        refine q_aload rfl ?_
        refine q_getI (c0 := 12) (j := 53) rfl rfl (zl hS 105 (by decide)) (sk hS 105 (by decide) rfl) (Or.inl rfl) (by decide) ?_
        refine q_isub ?_
        refine q_goto ?_
        refine K_of b_276_100 h_276_100 ?_
        cases h
        exact q_iret rfl (Nat.le_refl _) (Nat.le_refl _) ⟨rfl, rfl⟩
theorem a_276 (X : GX) {z : Nat} {kd : Nat → Nat × Nat} {Rf : Nat → Nat → Option Nat} (hS : Sh z kd Rf) {n dp d : Nat} (hd : dp ≤ d) {I : (Nat → Nat → Int32)} {L : (Nat → Nat → Int64)} {i1 : Int32} {I1 : (Nat → Nat → Int32)} {L1 : (Nat → Nat → Int64)} {r : Int32} (h : g_276 n dp (z, kd, Rf) 0 I L i1 0 = some (r, I1, L1)) : Ct X d 276 0 0 [.ref 105, .int i1] (z, kd, I, L, Rf) (AI (fun x τ => x = r ∧ τ = (z, kd, I1, L1, Rf))) :=
  Ct_of mu_276 (Nat.le_of_ble_eq_true rfl) ((w_276 X hS n dp d hd I L i1 0 _ _ _).1 h)

/-! 277 CutFloorModel.change(II)I -/
set_option maxHeartbeats 4000000 in
set_option maxRecDepth 100000 in
def g_277 : Nat → Nat → EN → Nat → (Nat → Nat → Int32) → (Nat → Nat → Int64) → Int32 → Int32 → Int32 → Int32 → Int32 →  Option (Int32 × (Nat → Nat → Int32) × (Nat → Nat → Int64))
  | 0, _, _, _, _, _, _, _, _, _, _ => none
  | n + 1, dp, e, lab, I, L, i1, i2, i3, i4, i5 =>
    if lab = 0 then (stI (u2 I 105 0 (0 : Int32)) (fun I_2 => (if 1 ≤ dp then (g_197 n (dp - 1) e 0 I_2 L i1).bind (fun ⟨x0_6, I0_6, L0_6⟩ => (if x0_6 = 0 then (some ((-1 : Int32), I0_6, L0_6)) else (if 1 ≤ dp then (g_193 n (dp - 1) e 0 I0_6 L0_6 (Int32.toInt64 i2) (0 : Int64) (1 : Int64)).bind (fun ⟨x1_16, I1_16, L1_16⟩ => (if x1_16 = 0 then (some ((-1 : Int32), I1_16, L1_16)) else (if 1 ≤ dp then (g_261 n (dp - 1) e 0 I1_16 L1_16 0 0 0 0).bind (fun ⟨x2_23, I2_23, L2_23⟩ => (if x2_23 = 0 then (some ((-1 : Int32), I2_23, L2_23)) else (if 1 ≤ dp then (g_197 n (dp - 1) e 0 I2_23 L2_23 i1).bind (fun ⟨x3_35, I3_35, L3_35⟩ => (if x3_35 = 0 then (if 0 ≤ ((0 : Int32) + (0 : Int32)) ∧ (Int32.toNatClampNeg ((0 : Int32) + (0 : Int32))) < 1570 then (if (I3_35 107 (Int32.toNatClampNeg ((0 : Int32) + (0 : Int32)))) = 0 then (some ((-1 : Int32), I3_35, L3_35)) else (if i1 ≤ 0 then (if i1 ≤ (1 : Int32) then (stI ((((I3_35 107 0) + (0 : Int32)) + (0 : Int32)) - (1 : Int32)) (fun v_92 => (g_277 n dp e 1 I3_35 L3_35 i1 i2 v_92 (0 : Int32) (0 : Int32)))) else (stI ((((I3_35 107 0) + (0 : Int32)) + (I3_35 107 2)) - (1 : Int32)) (fun v_92 => (g_277 n dp e 1 I3_35 L3_35 i1 i2 v_92 (0 : Int32) (0 : Int32))))) else (if i1 ≤ (1 : Int32) then (stI ((((I3_35 107 0) + (I3_35 107 1)) + (0 : Int32)) - (1 : Int32)) (fun v_92 => (g_277 n dp e 1 I3_35 L3_35 i1 i2 v_92 (0 : Int32) (0 : Int32)))) else (stI ((((I3_35 107 0) + (I3_35 107 1)) + (I3_35 107 2)) - (1 : Int32)) (fun v_92 => (g_277 n dp e 1 I3_35 L3_35 i1 i2 v_92 (0 : Int32) (0 : Int32))))))) else none) else (if 0 ≤ ((0 : Int32) + i1) ∧ (Int32.toNatClampNeg ((0 : Int32) + i1)) < 1570 then (if (I3_35 107 (Int32.toNatClampNeg ((0 : Int32) + i1))) = 0 then (some ((-1 : Int32), I3_35, L3_35)) else (if i1 ≤ 0 then (if i1 ≤ (1 : Int32) then (stI ((((I3_35 107 0) + (0 : Int32)) + (0 : Int32)) - (1 : Int32)) (fun v_92 => (g_277 n dp e 1 I3_35 L3_35 i1 i2 v_92 (0 : Int32) (0 : Int32)))) else (stI ((((I3_35 107 0) + (0 : Int32)) + (I3_35 107 2)) - (1 : Int32)) (fun v_92 => (g_277 n dp e 1 I3_35 L3_35 i1 i2 v_92 (0 : Int32) (0 : Int32))))) else (if i1 ≤ (1 : Int32) then (stI ((((I3_35 107 0) + (I3_35 107 1)) + (0 : Int32)) - (1 : Int32)) (fun v_92 => (g_277 n dp e 1 I3_35 L3_35 i1 i2 v_92 (0 : Int32) (0 : Int32)))) else (stI ((((I3_35 107 0) + (I3_35 107 1)) + (I3_35 107 2)) - (1 : Int32)) (fun v_92 => (g_277 n dp e 1 I3_35 L3_35 i1 i2 v_92 (0 : Int32) (0 : Int32))))))) else none))) else none))) else none))) else none))) else none)))
    else if lab = 1 then (if 1 ≤ dp then (g_198 n (dp - 1) e 0 I L).bind (fun ⟨x0_102, I0_102, L0_102⟩ => (if x0_102 ≤ i5 then (if i1 = 0 then (if i1 = (1 : Int32) then (if i1 = (2 : Int32) then (if 1 ≤ dp then (g_262 n (dp - 1) e 0 I0_102 L0_102 ((I0_102 107 0) - (1 : Int32)) ((I0_102 107 1) - (1 : Int32)) ((I0_102 107 2) - (1 : Int32)) 0 0 0).bind (fun ⟨x1_188, I1_188, L1_188⟩ => (if x1_188 = 0 then (some ((-1 : Int32), I1_188, L1_188)) else (stI (u2 I1_188 105 48 (16 : Int32)) (fun I_199 => (if 1 ≤ dp then (g_263 n (dp - 1) e 0 I_199 L1_188 0 0 0).bind (fun ⟨x2_203, I2_203, L2_203⟩ => (stI ((x2_203 + (15 : Int32)) / (16 : Int32)) (fun v_216 => (if i2 = 0 then (some ((((16 : Int32) * v_216) - x2_203), I2_203, L2_203)) else (some (v_216, I2_203, L2_203)))))) else none))))) else none) else (if 1 ≤ dp then (g_262 n (dp - 1) e 0 I0_102 L0_102 ((I0_102 107 0) - (1 : Int32)) ((I0_102 107 1) - (1 : Int32)) ((I0_102 107 2) - (0 : Int32)) 0 0 0).bind (fun ⟨x1_188, I1_188, L1_188⟩ => (if x1_188 = 0 then (some ((-1 : Int32), I1_188, L1_188)) else (stI (u2 I1_188 105 48 (16 : Int32)) (fun I_199 => (if 1 ≤ dp then (g_263 n (dp - 1) e 0 I_199 L1_188 0 0 0).bind (fun ⟨x2_203, I2_203, L2_203⟩ => (stI ((x2_203 + (15 : Int32)) / (16 : Int32)) (fun v_216 => (if i2 = 0 then (some ((((16 : Int32) * v_216) - x2_203), I2_203, L2_203)) else (some (v_216, I2_203, L2_203)))))) else none))))) else none)) else (if i1 = (2 : Int32) then (if 1 ≤ dp then (g_262 n (dp - 1) e 0 I0_102 L0_102 ((I0_102 107 0) - (1 : Int32)) ((I0_102 107 1) - (0 : Int32)) ((I0_102 107 2) - (1 : Int32)) 0 0 0).bind (fun ⟨x1_188, I1_188, L1_188⟩ => (if x1_188 = 0 then (some ((-1 : Int32), I1_188, L1_188)) else (stI (u2 I1_188 105 48 (16 : Int32)) (fun I_199 => (if 1 ≤ dp then (g_263 n (dp - 1) e 0 I_199 L1_188 0 0 0).bind (fun ⟨x2_203, I2_203, L2_203⟩ => (stI ((x2_203 + (15 : Int32)) / (16 : Int32)) (fun v_216 => (if i2 = 0 then (some ((((16 : Int32) * v_216) - x2_203), I2_203, L2_203)) else (some (v_216, I2_203, L2_203)))))) else none))))) else none) else (if 1 ≤ dp then (g_262 n (dp - 1) e 0 I0_102 L0_102 ((I0_102 107 0) - (1 : Int32)) ((I0_102 107 1) - (0 : Int32)) ((I0_102 107 2) - (0 : Int32)) 0 0 0).bind (fun ⟨x1_188, I1_188, L1_188⟩ => (if x1_188 = 0 then (some ((-1 : Int32), I1_188, L1_188)) else (stI (u2 I1_188 105 48 (16 : Int32)) (fun I_199 => (if 1 ≤ dp then (g_263 n (dp - 1) e 0 I_199 L1_188 0 0 0).bind (fun ⟨x2_203, I2_203, L2_203⟩ => (stI ((x2_203 + (15 : Int32)) / (16 : Int32)) (fun v_216 => (if i2 = 0 then (some ((((16 : Int32) * v_216) - x2_203), I2_203, L2_203)) else (some (v_216, I2_203, L2_203)))))) else none))))) else none))) else (if i1 = (1 : Int32) then (if i1 = (2 : Int32) then (if 1 ≤ dp then (g_262 n (dp - 1) e 0 I0_102 L0_102 ((I0_102 107 0) - (0 : Int32)) ((I0_102 107 1) - (1 : Int32)) ((I0_102 107 2) - (1 : Int32)) 0 0 0).bind (fun ⟨x1_188, I1_188, L1_188⟩ => (if x1_188 = 0 then (some ((-1 : Int32), I1_188, L1_188)) else (stI (u2 I1_188 105 48 (16 : Int32)) (fun I_199 => (if 1 ≤ dp then (g_263 n (dp - 1) e 0 I_199 L1_188 0 0 0).bind (fun ⟨x2_203, I2_203, L2_203⟩ => (stI ((x2_203 + (15 : Int32)) / (16 : Int32)) (fun v_216 => (if i2 = 0 then (some ((((16 : Int32) * v_216) - x2_203), I2_203, L2_203)) else (some (v_216, I2_203, L2_203)))))) else none))))) else none) else (if 1 ≤ dp then (g_262 n (dp - 1) e 0 I0_102 L0_102 ((I0_102 107 0) - (0 : Int32)) ((I0_102 107 1) - (1 : Int32)) ((I0_102 107 2) - (0 : Int32)) 0 0 0).bind (fun ⟨x1_188, I1_188, L1_188⟩ => (if x1_188 = 0 then (some ((-1 : Int32), I1_188, L1_188)) else (stI (u2 I1_188 105 48 (16 : Int32)) (fun I_199 => (if 1 ≤ dp then (g_263 n (dp - 1) e 0 I_199 L1_188 0 0 0).bind (fun ⟨x2_203, I2_203, L2_203⟩ => (stI ((x2_203 + (15 : Int32)) / (16 : Int32)) (fun v_216 => (if i2 = 0 then (some ((((16 : Int32) * v_216) - x2_203), I2_203, L2_203)) else (some (v_216, I2_203, L2_203)))))) else none))))) else none)) else (if i1 = (2 : Int32) then (if 1 ≤ dp then (g_262 n (dp - 1) e 0 I0_102 L0_102 ((I0_102 107 0) - (0 : Int32)) ((I0_102 107 1) - (0 : Int32)) ((I0_102 107 2) - (1 : Int32)) 0 0 0).bind (fun ⟨x1_188, I1_188, L1_188⟩ => (if x1_188 = 0 then (some ((-1 : Int32), I1_188, L1_188)) else (stI (u2 I1_188 105 48 (16 : Int32)) (fun I_199 => (if 1 ≤ dp then (g_263 n (dp - 1) e 0 I_199 L1_188 0 0 0).bind (fun ⟨x2_203, I2_203, L2_203⟩ => (stI ((x2_203 + (15 : Int32)) / (16 : Int32)) (fun v_216 => (if i2 = 0 then (some ((((16 : Int32) * v_216) - x2_203), I2_203, L2_203)) else (some (v_216, I2_203, L2_203)))))) else none))))) else none) else (if 1 ≤ dp then (g_262 n (dp - 1) e 0 I0_102 L0_102 ((I0_102 107 0) - (0 : Int32)) ((I0_102 107 1) - (0 : Int32)) ((I0_102 107 2) - (0 : Int32)) 0 0 0).bind (fun ⟨x1_188, I1_188, L1_188⟩ => (if x1_188 = 0 then (some ((-1 : Int32), I1_188, L1_188)) else (stI (u2 I1_188 105 48 (16 : Int32)) (fun I_199 => (if 1 ≤ dp then (g_263 n (dp - 1) e 0 I_199 L1_188 0 0 0).bind (fun ⟨x2_203, I2_203, L2_203⟩ => (stI ((x2_203 + (15 : Int32)) / (16 : Int32)) (fun v_216 => (if i2 = 0 then (some ((((16 : Int32) * v_216) - x2_203), I2_203, L2_203)) else (some (v_216, I2_203, L2_203)))))) else none))))) else none)))) else (if i5 = i3 then (g_277 n dp e 2 I0_102 L0_102 i1 i2 i3 i4 i5) else (if 0 ≤ i5 ∧ (Int32.toNatClampNeg i5) < 8 then (if 0 ≤ i4 ∧ (Int32.toNatClampNeg i4) < 8 then (stI (u2 I0_102 132 (Int32.toNatClampNeg i4) (I0_102 134 (Int32.toNatClampNeg i5))) (fun I_127 => (g_277 n dp e 2 I_127 L0_102 i1 i2 i3 (i4 + Int32.ofInt (1)) i5))) else none) else none)))) else none)
    else if lab = 2 then (g_277 n dp e 1 I L i1 i2 i3 i4 (i5 + Int32.ofInt (1)))
    else none
set_option maxRecDepth 100000 in
theorem e_277_0 (n dp : Nat) (e : EN) (I : (Nat → Nat → Int32)) (L : (Nat → Nat → Int64)) (i1 : Int32) (i2 : Int32) (i3 : Int32) (i4 : Int32) (i5 : Int32) : g_277 (n + 1) dp e 0 I L i1 i2 i3 i4 i5 = (stI (u2 I 105 0 (0 : Int32)) (fun I_2 => (if 1 ≤ dp then (g_197 n (dp - 1) e 0 I_2 L i1).bind (fun ⟨x0_6, I0_6, L0_6⟩ => (if x0_6 = 0 then (some ((-1 : Int32), I0_6, L0_6)) else (if 1 ≤ dp then (g_193 n (dp - 1) e 0 I0_6 L0_6 (Int32.toInt64 i2) (0 : Int64) (1 : Int64)).bind (fun ⟨x1_16, I1_16, L1_16⟩ => (if x1_16 = 0 then (some ((-1 : Int32), I1_16, L1_16)) else (if 1 ≤ dp then (g_261 n (dp - 1) e 0 I1_16 L1_16 0 0 0 0).bind (fun ⟨x2_23, I2_23, L2_23⟩ => (if x2_23 = 0 then (some ((-1 : Int32), I2_23, L2_23)) else (if 1 ≤ dp then (g_197 n (dp - 1) e 0 I2_23 L2_23 i1).bind (fun ⟨x3_35, I3_35, L3_35⟩ => (if x3_35 = 0 then (if 0 ≤ ((0 : Int32) + (0 : Int32)) ∧ (Int32.toNatClampNeg ((0 : Int32) + (0 : Int32))) < 1570 then (if (I3_35 107 (Int32.toNatClampNeg ((0 : Int32) + (0 : Int32)))) = 0 then (some ((-1 : Int32), I3_35, L3_35)) else (if i1 ≤ 0 then (if i1 ≤ (1 : Int32) then (stI ((((I3_35 107 0) + (0 : Int32)) + (0 : Int32)) - (1 : Int32)) (fun v_92 => (g_277 n dp e 1 I3_35 L3_35 i1 i2 v_92 (0 : Int32) (0 : Int32)))) else (stI ((((I3_35 107 0) + (0 : Int32)) + (I3_35 107 2)) - (1 : Int32)) (fun v_92 => (g_277 n dp e 1 I3_35 L3_35 i1 i2 v_92 (0 : Int32) (0 : Int32))))) else (if i1 ≤ (1 : Int32) then (stI ((((I3_35 107 0) + (I3_35 107 1)) + (0 : Int32)) - (1 : Int32)) (fun v_92 => (g_277 n dp e 1 I3_35 L3_35 i1 i2 v_92 (0 : Int32) (0 : Int32)))) else (stI ((((I3_35 107 0) + (I3_35 107 1)) + (I3_35 107 2)) - (1 : Int32)) (fun v_92 => (g_277 n dp e 1 I3_35 L3_35 i1 i2 v_92 (0 : Int32) (0 : Int32))))))) else none) else (if 0 ≤ ((0 : Int32) + i1) ∧ (Int32.toNatClampNeg ((0 : Int32) + i1)) < 1570 then (if (I3_35 107 (Int32.toNatClampNeg ((0 : Int32) + i1))) = 0 then (some ((-1 : Int32), I3_35, L3_35)) else (if i1 ≤ 0 then (if i1 ≤ (1 : Int32) then (stI ((((I3_35 107 0) + (0 : Int32)) + (0 : Int32)) - (1 : Int32)) (fun v_92 => (g_277 n dp e 1 I3_35 L3_35 i1 i2 v_92 (0 : Int32) (0 : Int32)))) else (stI ((((I3_35 107 0) + (0 : Int32)) + (I3_35 107 2)) - (1 : Int32)) (fun v_92 => (g_277 n dp e 1 I3_35 L3_35 i1 i2 v_92 (0 : Int32) (0 : Int32))))) else (if i1 ≤ (1 : Int32) then (stI ((((I3_35 107 0) + (I3_35 107 1)) + (0 : Int32)) - (1 : Int32)) (fun v_92 => (g_277 n dp e 1 I3_35 L3_35 i1 i2 v_92 (0 : Int32) (0 : Int32)))) else (stI ((((I3_35 107 0) + (I3_35 107 1)) + (I3_35 107 2)) - (1 : Int32)) (fun v_92 => (g_277 n dp e 1 I3_35 L3_35 i1 i2 v_92 (0 : Int32) (0 : Int32))))))) else none))) else none))) else none))) else none))) else none))) := by rw [g_277.eq_2, if_pos (show (0 : Nat) = 0 from rfl)]
set_option maxRecDepth 100000 in
theorem e_277_1 (n dp : Nat) (e : EN) (I : (Nat → Nat → Int32)) (L : (Nat → Nat → Int64)) (i1 : Int32) (i2 : Int32) (i3 : Int32) (i4 : Int32) (i5 : Int32) : g_277 (n + 1) dp e 1 I L i1 i2 i3 i4 i5 = (if 1 ≤ dp then (g_198 n (dp - 1) e 0 I L).bind (fun ⟨x0_102, I0_102, L0_102⟩ => (if x0_102 ≤ i5 then (if i1 = 0 then (if i1 = (1 : Int32) then (if i1 = (2 : Int32) then (if 1 ≤ dp then (g_262 n (dp - 1) e 0 I0_102 L0_102 ((I0_102 107 0) - (1 : Int32)) ((I0_102 107 1) - (1 : Int32)) ((I0_102 107 2) - (1 : Int32)) 0 0 0).bind (fun ⟨x1_188, I1_188, L1_188⟩ => (if x1_188 = 0 then (some ((-1 : Int32), I1_188, L1_188)) else (stI (u2 I1_188 105 48 (16 : Int32)) (fun I_199 => (if 1 ≤ dp then (g_263 n (dp - 1) e 0 I_199 L1_188 0 0 0).bind (fun ⟨x2_203, I2_203, L2_203⟩ => (stI ((x2_203 + (15 : Int32)) / (16 : Int32)) (fun v_216 => (if i2 = 0 then (some ((((16 : Int32) * v_216) - x2_203), I2_203, L2_203)) else (some (v_216, I2_203, L2_203)))))) else none))))) else none) else (if 1 ≤ dp then (g_262 n (dp - 1) e 0 I0_102 L0_102 ((I0_102 107 0) - (1 : Int32)) ((I0_102 107 1) - (1 : Int32)) ((I0_102 107 2) - (0 : Int32)) 0 0 0).bind (fun ⟨x1_188, I1_188, L1_188⟩ => (if x1_188 = 0 then (some ((-1 : Int32), I1_188, L1_188)) else (stI (u2 I1_188 105 48 (16 : Int32)) (fun I_199 => (if 1 ≤ dp then (g_263 n (dp - 1) e 0 I_199 L1_188 0 0 0).bind (fun ⟨x2_203, I2_203, L2_203⟩ => (stI ((x2_203 + (15 : Int32)) / (16 : Int32)) (fun v_216 => (if i2 = 0 then (some ((((16 : Int32) * v_216) - x2_203), I2_203, L2_203)) else (some (v_216, I2_203, L2_203)))))) else none))))) else none)) else (if i1 = (2 : Int32) then (if 1 ≤ dp then (g_262 n (dp - 1) e 0 I0_102 L0_102 ((I0_102 107 0) - (1 : Int32)) ((I0_102 107 1) - (0 : Int32)) ((I0_102 107 2) - (1 : Int32)) 0 0 0).bind (fun ⟨x1_188, I1_188, L1_188⟩ => (if x1_188 = 0 then (some ((-1 : Int32), I1_188, L1_188)) else (stI (u2 I1_188 105 48 (16 : Int32)) (fun I_199 => (if 1 ≤ dp then (g_263 n (dp - 1) e 0 I_199 L1_188 0 0 0).bind (fun ⟨x2_203, I2_203, L2_203⟩ => (stI ((x2_203 + (15 : Int32)) / (16 : Int32)) (fun v_216 => (if i2 = 0 then (some ((((16 : Int32) * v_216) - x2_203), I2_203, L2_203)) else (some (v_216, I2_203, L2_203)))))) else none))))) else none) else (if 1 ≤ dp then (g_262 n (dp - 1) e 0 I0_102 L0_102 ((I0_102 107 0) - (1 : Int32)) ((I0_102 107 1) - (0 : Int32)) ((I0_102 107 2) - (0 : Int32)) 0 0 0).bind (fun ⟨x1_188, I1_188, L1_188⟩ => (if x1_188 = 0 then (some ((-1 : Int32), I1_188, L1_188)) else (stI (u2 I1_188 105 48 (16 : Int32)) (fun I_199 => (if 1 ≤ dp then (g_263 n (dp - 1) e 0 I_199 L1_188 0 0 0).bind (fun ⟨x2_203, I2_203, L2_203⟩ => (stI ((x2_203 + (15 : Int32)) / (16 : Int32)) (fun v_216 => (if i2 = 0 then (some ((((16 : Int32) * v_216) - x2_203), I2_203, L2_203)) else (some (v_216, I2_203, L2_203)))))) else none))))) else none))) else (if i1 = (1 : Int32) then (if i1 = (2 : Int32) then (if 1 ≤ dp then (g_262 n (dp - 1) e 0 I0_102 L0_102 ((I0_102 107 0) - (0 : Int32)) ((I0_102 107 1) - (1 : Int32)) ((I0_102 107 2) - (1 : Int32)) 0 0 0).bind (fun ⟨x1_188, I1_188, L1_188⟩ => (if x1_188 = 0 then (some ((-1 : Int32), I1_188, L1_188)) else (stI (u2 I1_188 105 48 (16 : Int32)) (fun I_199 => (if 1 ≤ dp then (g_263 n (dp - 1) e 0 I_199 L1_188 0 0 0).bind (fun ⟨x2_203, I2_203, L2_203⟩ => (stI ((x2_203 + (15 : Int32)) / (16 : Int32)) (fun v_216 => (if i2 = 0 then (some ((((16 : Int32) * v_216) - x2_203), I2_203, L2_203)) else (some (v_216, I2_203, L2_203)))))) else none))))) else none) else (if 1 ≤ dp then (g_262 n (dp - 1) e 0 I0_102 L0_102 ((I0_102 107 0) - (0 : Int32)) ((I0_102 107 1) - (1 : Int32)) ((I0_102 107 2) - (0 : Int32)) 0 0 0).bind (fun ⟨x1_188, I1_188, L1_188⟩ => (if x1_188 = 0 then (some ((-1 : Int32), I1_188, L1_188)) else (stI (u2 I1_188 105 48 (16 : Int32)) (fun I_199 => (if 1 ≤ dp then (g_263 n (dp - 1) e 0 I_199 L1_188 0 0 0).bind (fun ⟨x2_203, I2_203, L2_203⟩ => (stI ((x2_203 + (15 : Int32)) / (16 : Int32)) (fun v_216 => (if i2 = 0 then (some ((((16 : Int32) * v_216) - x2_203), I2_203, L2_203)) else (some (v_216, I2_203, L2_203)))))) else none))))) else none)) else (if i1 = (2 : Int32) then (if 1 ≤ dp then (g_262 n (dp - 1) e 0 I0_102 L0_102 ((I0_102 107 0) - (0 : Int32)) ((I0_102 107 1) - (0 : Int32)) ((I0_102 107 2) - (1 : Int32)) 0 0 0).bind (fun ⟨x1_188, I1_188, L1_188⟩ => (if x1_188 = 0 then (some ((-1 : Int32), I1_188, L1_188)) else (stI (u2 I1_188 105 48 (16 : Int32)) (fun I_199 => (if 1 ≤ dp then (g_263 n (dp - 1) e 0 I_199 L1_188 0 0 0).bind (fun ⟨x2_203, I2_203, L2_203⟩ => (stI ((x2_203 + (15 : Int32)) / (16 : Int32)) (fun v_216 => (if i2 = 0 then (some ((((16 : Int32) * v_216) - x2_203), I2_203, L2_203)) else (some (v_216, I2_203, L2_203)))))) else none))))) else none) else (if 1 ≤ dp then (g_262 n (dp - 1) e 0 I0_102 L0_102 ((I0_102 107 0) - (0 : Int32)) ((I0_102 107 1) - (0 : Int32)) ((I0_102 107 2) - (0 : Int32)) 0 0 0).bind (fun ⟨x1_188, I1_188, L1_188⟩ => (if x1_188 = 0 then (some ((-1 : Int32), I1_188, L1_188)) else (stI (u2 I1_188 105 48 (16 : Int32)) (fun I_199 => (if 1 ≤ dp then (g_263 n (dp - 1) e 0 I_199 L1_188 0 0 0).bind (fun ⟨x2_203, I2_203, L2_203⟩ => (stI ((x2_203 + (15 : Int32)) / (16 : Int32)) (fun v_216 => (if i2 = 0 then (some ((((16 : Int32) * v_216) - x2_203), I2_203, L2_203)) else (some (v_216, I2_203, L2_203)))))) else none))))) else none)))) else (if i5 = i3 then (g_277 n dp e 2 I0_102 L0_102 i1 i2 i3 i4 i5) else (if 0 ≤ i5 ∧ (Int32.toNatClampNeg i5) < 8 then (if 0 ≤ i4 ∧ (Int32.toNatClampNeg i4) < 8 then (stI (u2 I0_102 132 (Int32.toNatClampNeg i4) (I0_102 134 (Int32.toNatClampNeg i5))) (fun I_127 => (g_277 n dp e 2 I_127 L0_102 i1 i2 i3 (i4 + Int32.ofInt (1)) i5))) else none) else none)))) else none) := by rw [g_277.eq_2, if_neg (show ¬ ((1 : Nat) = 0) by decide), if_pos (show (1 : Nat) = 1 from rfl)]
set_option maxRecDepth 100000 in
theorem e_277_2 (n dp : Nat) (e : EN) (I : (Nat → Nat → Int32)) (L : (Nat → Nat → Int64)) (i1 : Int32) (i2 : Int32) (i3 : Int32) (i4 : Int32) (i5 : Int32) : g_277 (n + 1) dp e 2 I L i1 i2 i3 i4 i5 = (g_277 n dp e 1 I L i1 i2 i3 i4 (i5 + Int32.ofInt (1))) := by rw [g_277.eq_2, if_neg (show ¬ ((2 : Nat) = 0) by decide), if_neg (show ¬ ((2 : Nat) = 1) by decide), if_pos (show (2 : Nat) = 2 from rfl)]
set_option maxHeartbeats 8000000 in
set_option maxRecDepth 100000 in
theorem w_277 (X : GX) {z : Nat} {kd : Nat → Nat × Nat} {Rf : Nat → Nat → Option Nat} (hS : Sh z kd Rf) : ∀ (n dp d : Nat), dp ≤ d → ∀ (I : (Nat → Nat → Int32)) (L : (Nat → Nat → Int64)) (i1 : Int32) (i2 : Int32) (i3 : Int32) (i4 : Int32) (i5 : Int32) (r : Int32) (I1 : (Nat → Nat → Int32)) (L1 : (Nat → Nat → Int64)), (g_277 n dp (z, kd, Rf) 0 I L i1 i2 i3 i4 i5 = some (r, I1, L1) → K X d 277 0 0 (AI (fun x τ => x = r ∧ τ = (z, kd, I1, L1, Rf))) 0 [some (.ref 105), some (.int i1), some (.int i2), none, none, none, none] [] (z, kd, I, L, Rf) 0 0) ∧
    (g_277 n dp (z, kd, Rf) 1 I L i1 i2 i3 i4 i5 = some (r, I1, L1) → K X d 277 0 0 (AI (fun x τ => x = r ∧ τ = (z, kd, I1, L1, Rf))) 99 [some (.ref 105), some (.int i1), some (.int i2), some (.int i3), some (.int i4), some (.int i5), none] [] (z, kd, I, L, Rf) 0 0) ∧
    (g_277 n dp (z, kd, Rf) 2 I L i1 i2 i3 i4 i5 = some (r, I1, L1) → K X d 277 0 0 (AI (fun x τ => x = r ∧ τ = (z, kd, I1, L1, Rf))) 131 [some (.ref 105), some (.int i1), some (.int i2), some (.int i3), some (.int i4), some (.int i5), none] [] (z, kd, I, L, Rf) 0 0) := by
  intro n
  induction n with
  | zero => intro dp d hdp I L i1 i2 i3 i4 i5 r I1 L1; exact ⟨(fun h => by cases h), (fun h => by cases h), (fun h => by cases h)⟩
  | succ n ih =>
    intro dp d hdp I L i1 i2 i3 i4 i5 r I1 L1
    refine ⟨?_, ?_, ?_⟩
    · intro h
      rw [e_277_0] at h
      refine K_of b_277_0 h_277_0 ?_
      refine q_aload rfl ?_
      refine q_iconst (0) (by decide) ?_
      refine q_putI (c0 := 12) (j := 0) rfl rfl (zl hS 105 (by decide)) (sk hS 105 (by decide) rfl) rfl ?_
      obtain ⟨I_2, nI_2, h⟩ := stI_some h
      refine q_nI nI_2 ?_
      refine q_iload rfl ?_
      obtain ⟨d_6, h⟩ := ite_some h
      obtain ⟨⟨x0_6, I0_6, L0_6⟩, e_6, h⟩ := Option.bind_eq_some_iff.mp h
      dsimp only at h
      refine q_fs1I (a_197 X hS (d := d - 1) (by omega) e_6) (by omega) (Nat.le_refl _) (Nat.le_refl _) rfl (Nat.le_of_ble_eq_true rfl) ?_
      refine q_if_eq (fun c_9 => ?_) (fun c_9 => ?_)
      · rw [if_pos c_9] at h
        refine K_of b_277_51 h_277_51 ?_
        refine q_iconst (-1) (by decide) ?_
        cases h
        exact q_iret rfl (Nat.le_refl _) (Nat.le_refl _) ⟨rfl, rfl⟩
      · rw [if_neg c_9] at h
        refine q_iload rfl ?_
        refine q_i2l ?_
        refine q_lconst (0) (by decide) ?_
        refine q_lconst (1) (by decide) ?_
        obtain ⟨d_16, h⟩ := ite_some h
        obtain ⟨⟨x1_16, I1_16, L1_16⟩, e_16, h⟩ := Option.bind_eq_some_iff.mp h
        dsimp only at h
        refine q_fs3I (a_193 X hS (d := d - 1) (by omega) e_16) (by omega) (Nat.le_refl _) (Nat.le_refl _) rfl (Nat.le_of_ble_eq_true rfl) ?_
        refine q_if_eq (fun c_19 => ?_) (fun c_19 => ?_)
        · rw [if_pos c_19] at h
          refine K_of b_277_51 h_277_51 ?_
          refine q_iconst (-1) (by decide) ?_
          cases h
          exact q_iret rfl (Nat.le_refl _) (Nat.le_refl _) ⟨rfl, rfl⟩
        · rw [if_neg c_19] at h
          refine q_aload rfl ?_
          obtain ⟨d_23, h⟩ := ite_some h
          obtain ⟨⟨x2_23, I2_23, L2_23⟩, e_23, h⟩ := Option.bind_eq_some_iff.mp h
          dsimp only at h
          refine q_fv1I (a_261 X hS (d := d - 1) (by omega) e_23) (by omega) (Nat.le_refl _) (Nat.le_refl _) rfl (Nat.le_of_ble_eq_true rfl) ⟨(zl hS 105 (by decide)), congrArg Prod.fst (sk hS 105 (by decide) rfl), by decide⟩ ?_
          refine q_if_eq (fun c_26 => ?_) (fun c_26 => ?_)
          · rw [if_pos c_26] at h
            refine K_of b_277_51 h_277_51 ?_
            refine q_iconst (-1) (by decide) ?_
            cases h
            exact q_iret rfl (Nat.le_refl _) (Nat.le_refl _) ⟨rfl, rfl⟩
          · rw [if_neg c_26] at h
            refine q_aload rfl ?_
            refine q_getRs (c0 := 12) (j := 3) rfl rfl (zl hS 105 (by decide)) (sk hS 105 (by decide) rfl) rfl (by decide) (r_105_3 hS) ?_
            refine q_iconst (0) (by decide) ?_
            refine q_iload rfl ?_
            obtain ⟨d_35, h⟩ := ite_some h
            obtain ⟨⟨x3_35, I3_35, L3_35⟩, e_35, h⟩ := Option.bind_eq_some_iff.mp h
            dsimp only at h
            refine q_fs1I (a_197 X hS (d := d - 1) (by omega) e_35) (by omega) (Nat.le_refl _) (Nat.le_refl _) rfl (Nat.le_of_ble_eq_true rfl) ?_
            refine q_if_eq (fun c_38 => ?_) (fun c_38 => ?_)
            · rw [if_pos c_38] at h
              refine K_of b_277_45 h_277_45 ?_
              refine q_iconst (0) (by decide) ?_
              refine q_end ?_
              refine K_of b_277_46 h_277_46 ?_
              refine q_iadd ?_
              obtain ⟨⟨u_47, v_47⟩, h⟩ := ite_some h
              refine q_ialN (Int32.toNatClampNeg ((0 : Int32) + (0 : Int32))) (nx u_47) (zl hS 107 (by decide)) (sk hS 107 (by decide) rfl) v_47 (by decide) ?_
              refine q_if_ne (fun c_48 => ?_) (fun c_48 => ?_)
              · rw [if_neg c_48] at h
                refine K_of b_277_53 h_277_53 ?_
                refine q_aload rfl ?_
                refine q_getRs (c0 := 12) (j := 3) rfl rfl (zl hS 105 (by decide)) (sk hS 105 (by decide) rfl) rfl (by decide) (r_105_3 hS) ?_
                refine q_iconst (0) (by decide) ?_
                refine q_ialN (0) rfl (zl hS 107 (by decide)) (sk hS 107 (by decide) rfl) (by decide) (by decide) ?_
                refine q_iload rfl ?_
                refine q_if_le (fun c_60 => ?_) (fun c_60 => ?_)
                · rw [if_pos c_60] at h
                  refine K_of b_277_72 h_277_72 ?_
                  refine q_iconst (0) (by decide) ?_
                  refine q_end ?_
                  refine K_of b_277_73 h_277_73 ?_
                  refine q_iadd ?_
                  refine q_iload rfl ?_
                  refine q_iconst (1) (by decide) ?_
                  refine q_icmp_le (fun c_76 => ?_) (fun c_76 => ?_)
                  · rw [if_pos c_76] at h
                    refine K_of b_277_88 h_277_88 ?_
                    refine q_iconst (0) (by decide) ?_
                    refine q_end ?_
                    refine K_of b_277_89 h_277_89 ?_
                    refine q_iadd ?_
                    refine q_iconst (1) (by decide) ?_
                    refine q_isub ?_
                    obtain ⟨v_92, nv_92, h⟩ := stI_some h
                    refine q_eqi nv_92.symm ?_
                    refine q_istore (Nat.le_of_ble_eq_true rfl) rfl ?_
                    refine q_iconst (0) (by decide) ?_
                    refine q_istore (Nat.le_of_ble_eq_true rfl) rfl ?_
                    refine q_iconst (0) (by decide) ?_
                    refine q_istore (Nat.le_of_ble_eq_true rfl) rfl ?_
                    refine q_end ?_
                    exact (ih dp d hdp _ _ i1 i2 v_92 (0 : Int32) (0 : Int32) _ _ _).2.1 h
                  · rw [if_neg c_76] at h
                    refine q_aload rfl ?_
                    refine q_getRs (c0 := 12) (j := 3) rfl rfl (zl hS 105 (by decide)) (sk hS 105 (by decide) rfl) rfl (by decide) (r_105_3 hS) ?_
                    refine q_iconst (2) (by decide) ?_
                    refine q_ialN (2) rfl (zl hS 107 (by decide)) (sk hS 107 (by decide) rfl) (by decide) (by decide) ?_
                    refine q_goto ?_
                    refine K_of b_277_89 h_277_89 ?_
                    refine q_iadd ?_
                    refine q_iconst (1) (by decide) ?_
                    refine q_isub ?_
                    obtain ⟨v_92, nv_92, h⟩ := stI_some h
                    refine q_eqi nv_92.symm ?_
                    refine q_istore (Nat.le_of_ble_eq_true rfl) rfl ?_
                    refine q_iconst (0) (by decide) ?_
                    refine q_istore (Nat.le_of_ble_eq_true rfl) rfl ?_
                    refine q_iconst (0) (by decide) ?_
                    refine q_istore (Nat.le_of_ble_eq_true rfl) rfl ?_
                    refine q_end ?_
                    exact (ih dp d hdp _ _ i1 i2 v_92 (0 : Int32) (0 : Int32) _ _ _).2.1 h
                · rw [if_neg c_60] at h
                  refine q_aload rfl ?_
                  refine q_getRs (c0 := 12) (j := 3) rfl rfl (zl hS 105 (by decide)) (sk hS 105 (by decide) rfl) rfl (by decide) (r_105_3 hS) ?_
                  refine q_iconst (1) (by decide) ?_
                  refine q_ialN (1) rfl (zl hS 107 (by decide)) (sk hS 107 (by decide) rfl) (by decide) (by decide) ?_
                  refine q_goto ?_
                  refine K_of b_277_73 h_277_73 ?_
                  refine q_iadd ?_
                  refine q_iload rfl ?_
                  refine q_iconst (1) (by decide) ?_
                  refine q_icmp_le (fun c_76 => ?_) (fun c_76 => ?_)
                  · rw [if_pos c_76] at h
                    refine K_of b_277_88 h_277_88 ?_
                    refine q_iconst (0) (by decide) ?_
                    refine q_end ?_
                    refine K_of b_277_89 h_277_89 ?_
                    refine q_iadd ?_
                    refine q_iconst (1) (by decide) ?_
                    refine q_isub ?_
                    obtain ⟨v_92, nv_92, h⟩ := stI_some h
                    refine q_eqi nv_92.symm ?_
                    refine q_istore (Nat.le_of_ble_eq_true rfl) rfl ?_
                    refine q_iconst (0) (by decide) ?_
                    refine q_istore (Nat.le_of_ble_eq_true rfl) rfl ?_
                    refine q_iconst (0) (by decide) ?_
                    refine q_istore (Nat.le_of_ble_eq_true rfl) rfl ?_
                    refine q_end ?_
                    exact (ih dp d hdp _ _ i1 i2 v_92 (0 : Int32) (0 : Int32) _ _ _).2.1 h
                  · rw [if_neg c_76] at h
                    refine q_aload rfl ?_
                    refine q_getRs (c0 := 12) (j := 3) rfl rfl (zl hS 105 (by decide)) (sk hS 105 (by decide) rfl) rfl (by decide) (r_105_3 hS) ?_
                    refine q_iconst (2) (by decide) ?_
                    refine q_ialN (2) rfl (zl hS 107 (by decide)) (sk hS 107 (by decide) rfl) (by decide) (by decide) ?_
                    refine q_goto ?_
                    refine K_of b_277_89 h_277_89 ?_
                    refine q_iadd ?_
                    refine q_iconst (1) (by decide) ?_
                    refine q_isub ?_
                    obtain ⟨v_92, nv_92, h⟩ := stI_some h
                    refine q_eqi nv_92.symm ?_
                    refine q_istore (Nat.le_of_ble_eq_true rfl) rfl ?_
                    refine q_iconst (0) (by decide) ?_
                    refine q_istore (Nat.le_of_ble_eq_true rfl) rfl ?_
                    refine q_iconst (0) (by decide) ?_
                    refine q_istore (Nat.le_of_ble_eq_true rfl) rfl ?_
                    refine q_end ?_
                    exact (ih dp d hdp _ _ i1 i2 v_92 (0 : Int32) (0 : Int32) _ _ _).2.1 h
              · rw [if_pos c_48] at h
                refine q_end ?_
                refine K_of b_277_51 h_277_51 ?_
                refine q_iconst (-1) (by decide) ?_
                cases h
                exact q_iret rfl (Nat.le_refl _) (Nat.le_refl _) ⟨rfl, rfl⟩
            · rw [if_neg c_38] at h
              refine q_iload rfl ?_
              refine q_goto ?_
              refine K_of b_277_46 h_277_46 ?_
              refine q_iadd ?_
              obtain ⟨⟨u_47, v_47⟩, h⟩ := ite_some h
              refine q_ialN (Int32.toNatClampNeg ((0 : Int32) + i1)) (nx u_47) (zl hS 107 (by decide)) (sk hS 107 (by decide) rfl) v_47 (by decide) ?_
              refine q_if_ne (fun c_48 => ?_) (fun c_48 => ?_)
              · rw [if_neg c_48] at h
                refine K_of b_277_53 h_277_53 ?_
                refine q_aload rfl ?_
                refine q_getRs (c0 := 12) (j := 3) rfl rfl (zl hS 105 (by decide)) (sk hS 105 (by decide) rfl) rfl (by decide) (r_105_3 hS) ?_
                refine q_iconst (0) (by decide) ?_
                refine q_ialN (0) rfl (zl hS 107 (by decide)) (sk hS 107 (by decide) rfl) (by decide) (by decide) ?_
                refine q_iload rfl ?_
                refine q_if_le (fun c_60 => ?_) (fun c_60 => ?_)
                · rw [if_pos c_60] at h
                  refine K_of b_277_72 h_277_72 ?_
                  refine q_iconst (0) (by decide) ?_
                  refine q_end ?_
                  refine K_of b_277_73 h_277_73 ?_
                  refine q_iadd ?_
                  refine q_iload rfl ?_
                  refine q_iconst (1) (by decide) ?_
                  refine q_icmp_le (fun c_76 => ?_) (fun c_76 => ?_)
                  · rw [if_pos c_76] at h
                    refine K_of b_277_88 h_277_88 ?_
                    refine q_iconst (0) (by decide) ?_
                    refine q_end ?_
                    refine K_of b_277_89 h_277_89 ?_
                    refine q_iadd ?_
                    refine q_iconst (1) (by decide) ?_
                    refine q_isub ?_
                    obtain ⟨v_92, nv_92, h⟩ := stI_some h
                    refine q_eqi nv_92.symm ?_
                    refine q_istore (Nat.le_of_ble_eq_true rfl) rfl ?_
                    refine q_iconst (0) (by decide) ?_
                    refine q_istore (Nat.le_of_ble_eq_true rfl) rfl ?_
                    refine q_iconst (0) (by decide) ?_
                    refine q_istore (Nat.le_of_ble_eq_true rfl) rfl ?_
                    refine q_end ?_
                    exact (ih dp d hdp _ _ i1 i2 v_92 (0 : Int32) (0 : Int32) _ _ _).2.1 h
                  · rw [if_neg c_76] at h
                    refine q_aload rfl ?_
                    refine q_getRs (c0 := 12) (j := 3) rfl rfl (zl hS 105 (by decide)) (sk hS 105 (by decide) rfl) rfl (by decide) (r_105_3 hS) ?_
                    refine q_iconst (2) (by decide) ?_
                    refine q_ialN (2) rfl (zl hS 107 (by decide)) (sk hS 107 (by decide) rfl) (by decide) (by decide) ?_
                    refine q_goto ?_
                    refine K_of b_277_89 h_277_89 ?_
                    refine q_iadd ?_
                    refine q_iconst (1) (by decide) ?_
                    refine q_isub ?_
                    obtain ⟨v_92, nv_92, h⟩ := stI_some h
                    refine q_eqi nv_92.symm ?_
                    refine q_istore (Nat.le_of_ble_eq_true rfl) rfl ?_
                    refine q_iconst (0) (by decide) ?_
                    refine q_istore (Nat.le_of_ble_eq_true rfl) rfl ?_
                    refine q_iconst (0) (by decide) ?_
                    refine q_istore (Nat.le_of_ble_eq_true rfl) rfl ?_
                    refine q_end ?_
                    exact (ih dp d hdp _ _ i1 i2 v_92 (0 : Int32) (0 : Int32) _ _ _).2.1 h
                · rw [if_neg c_60] at h
                  refine q_aload rfl ?_
                  refine q_getRs (c0 := 12) (j := 3) rfl rfl (zl hS 105 (by decide)) (sk hS 105 (by decide) rfl) rfl (by decide) (r_105_3 hS) ?_
                  refine q_iconst (1) (by decide) ?_
                  refine q_ialN (1) rfl (zl hS 107 (by decide)) (sk hS 107 (by decide) rfl) (by decide) (by decide) ?_
                  refine q_goto ?_
                  refine K_of b_277_73 h_277_73 ?_
                  refine q_iadd ?_
                  refine q_iload rfl ?_
                  refine q_iconst (1) (by decide) ?_
                  refine q_icmp_le (fun c_76 => ?_) (fun c_76 => ?_)
                  · rw [if_pos c_76] at h
                    refine K_of b_277_88 h_277_88 ?_
                    refine q_iconst (0) (by decide) ?_
                    refine q_end ?_
                    refine K_of b_277_89 h_277_89 ?_
                    refine q_iadd ?_
                    refine q_iconst (1) (by decide) ?_
                    refine q_isub ?_
                    obtain ⟨v_92, nv_92, h⟩ := stI_some h
                    refine q_eqi nv_92.symm ?_
                    refine q_istore (Nat.le_of_ble_eq_true rfl) rfl ?_
                    refine q_iconst (0) (by decide) ?_
                    refine q_istore (Nat.le_of_ble_eq_true rfl) rfl ?_
                    refine q_iconst (0) (by decide) ?_
                    refine q_istore (Nat.le_of_ble_eq_true rfl) rfl ?_
                    refine q_end ?_
                    exact (ih dp d hdp _ _ i1 i2 v_92 (0 : Int32) (0 : Int32) _ _ _).2.1 h
                  · rw [if_neg c_76] at h
                    refine q_aload rfl ?_
                    refine q_getRs (c0 := 12) (j := 3) rfl rfl (zl hS 105 (by decide)) (sk hS 105 (by decide) rfl) rfl (by decide) (r_105_3 hS) ?_
                    refine q_iconst (2) (by decide) ?_
                    refine q_ialN (2) rfl (zl hS 107 (by decide)) (sk hS 107 (by decide) rfl) (by decide) (by decide) ?_
                    refine q_goto ?_
                    refine K_of b_277_89 h_277_89 ?_
                    refine q_iadd ?_
                    refine q_iconst (1) (by decide) ?_
                    refine q_isub ?_
                    obtain ⟨v_92, nv_92, h⟩ := stI_some h
                    refine q_eqi nv_92.symm ?_
                    refine q_istore (Nat.le_of_ble_eq_true rfl) rfl ?_
                    refine q_iconst (0) (by decide) ?_
                    refine q_istore (Nat.le_of_ble_eq_true rfl) rfl ?_
                    refine q_iconst (0) (by decide) ?_
                    refine q_istore (Nat.le_of_ble_eq_true rfl) rfl ?_
                    refine q_end ?_
                    exact (ih dp d hdp _ _ i1 i2 v_92 (0 : Int32) (0 : Int32) _ _ _).2.1 h
              · rw [if_pos c_48] at h
                refine q_end ?_
                refine K_of b_277_51 h_277_51 ?_
                refine q_iconst (-1) (by decide) ?_
                cases h
                exact q_iret rfl (Nat.le_refl _) (Nat.le_refl _) ⟨rfl, rfl⟩
    · intro h
      rw [e_277_1] at h
      refine K_of b_277_99 h_277_99 ?_
      refine q_iload rfl ?_
      refine q_aload rfl ?_
      obtain ⟨d_102, h⟩ := ite_some h
      obtain ⟨⟨x0_102, I0_102, L0_102⟩, e_102, h⟩ := Option.bind_eq_some_iff.mp h
      dsimp only at h
      refine q_fv1I (a_198 X hS (d := d - 1) (by omega) e_102) (by omega) (Nat.le_refl _) (Nat.le_refl _) rfl (Nat.le_of_ble_eq_true rfl) ⟨(zl hS 105 (by decide)), congrArg Prod.fst (sk hS 105 (by decide) rfl), by decide⟩ ?_
      refine q_icmp_ge (fun c_105 => ?_) (fun c_105 => ?_)
      · rw [if_pos c_105] at h
        refine K_of b_277_137 h_277_137 ?_
        refine q_aload rfl ?_
        refine q_aload rfl ?_
        refine q_getRs (c0 := 12) (j := 3) rfl rfl (zl hS 105 (by decide)) (sk hS 105 (by decide) rfl) rfl (by decide) (r_105_3 hS) ?_
        refine q_iconst (0) (by decide) ?_
        refine q_ialN (0) rfl (zl hS 107 (by decide)) (sk hS 107 (by decide) rfl) (by decide) (by decide) ?_
        refine q_iload rfl ?_
        refine q_if_ne (fun c_145 => ?_) (fun c_145 => ?_)
        · rw [if_neg c_145] at h
          refine K_of b_277_152 h_277_152 ?_
          refine q_iconst (0) (by decide) ?_
          refine q_end ?_
          refine K_of b_277_153 h_277_153 ?_
          refine q_isub ?_
          refine q_aload rfl ?_
          refine q_getRs (c0 := 12) (j := 3) rfl rfl (zl hS 105 (by decide)) (sk hS 105 (by decide) rfl) rfl (by decide) (r_105_3 hS) ?_
          refine q_iconst (1) (by decide) ?_
          refine q_ialN (1) rfl (zl hS 107 (by decide)) (sk hS 107 (by decide) rfl) (by decide) (by decide) ?_
          refine q_iload rfl ?_
          refine q_iconst (1) (by decide) ?_
          refine q_icmp_ne (fun c_162 => ?_) (fun c_162 => ?_)
          · rw [if_neg c_162] at h
            refine K_of b_277_169 h_277_169 ?_
            refine q_iconst (0) (by decide) ?_
            refine q_end ?_
            refine K_of b_277_170 h_277_170 ?_
            refine q_isub ?_
            refine q_aload rfl ?_
            refine q_getRs (c0 := 12) (j := 3) rfl rfl (zl hS 105 (by decide)) (sk hS 105 (by decide) rfl) rfl (by decide) (r_105_3 hS) ?_
            refine q_iconst (2) (by decide) ?_
            refine q_ialN (2) rfl (zl hS 107 (by decide)) (sk hS 107 (by decide) rfl) (by decide) (by decide) ?_
            refine q_iload rfl ?_
            refine q_iconst (2) (by decide) ?_
            refine q_icmp_ne (fun c_179 => ?_) (fun c_179 => ?_)
            · rw [if_neg c_179] at h
              refine K_of b_277_186 h_277_186 ?_
              refine q_iconst (0) (by decide) ?_
              refine q_end ?_
              refine K_of b_277_187 h_277_187 ?_
              refine q_isub ?_
              obtain ⟨d_188, h⟩ := ite_some h
              obtain ⟨⟨x1_188, I1_188, L1_188⟩, e_188, h⟩ := Option.bind_eq_some_iff.mp h
              dsimp only at h
              refine q_fv4I (a_262 X hS (d := d - 1) (by omega) e_188) (by omega) (Nat.le_refl _) (Nat.le_refl _) rfl (Nat.le_of_ble_eq_true rfl) ⟨(zl hS 105 (by decide)), congrArg Prod.fst (sk hS 105 (by decide) rfl), by decide⟩ ?_
              refine q_if_ne (fun c_191 => ?_) (fun c_191 => ?_)
              · rw [if_neg c_191] at h
                refine K_of b_277_196 h_277_196 ?_
                refine q_aload rfl ?_
                refine q_iconst (16) (by decide) ?_
                refine q_putI (c0 := 12) (j := 48) rfl rfl (zl hS 105 (by decide)) (sk hS 105 (by decide) rfl) rfl ?_
                obtain ⟨I_199, nI_199, h⟩ := stI_some h
                refine q_nI nI_199 ?_
                refine q_aload rfl ?_
                obtain ⟨d_203, h⟩ := ite_some h
                obtain ⟨⟨x2_203, I2_203, L2_203⟩, e_203, h⟩ := Option.bind_eq_some_iff.mp h
                dsimp only at h
                refine q_fv1I (a_263 X hS (d := d - 1) (by omega) e_203) (by omega) (Nat.le_refl _) (Nat.le_refl _) rfl (Nat.le_of_ble_eq_true rfl) ⟨(zl hS 105 (by decide)), congrArg Prod.fst (sk hS 105 (by decide) rfl), by decide⟩ ?_
                refine q_istore (Nat.le_of_ble_eq_true rfl) rfl ?_
                refine q_iload rfl ?_
                refine q_iconst (15) (by decide) ?_
                refine q_iadd ?_
                refine q_iconst (16) (by decide) ?_
                refine q_idiv (by decide) ?_
                obtain ⟨v_216, nv_216, h⟩ := stI_some h
                refine q_eqi nv_216.symm ?_
                refine q_istore (Nat.le_of_ble_eq_true rfl) rfl ?_
                refine q_iload rfl ?_
                refine q_if_ne (fun c_219 => ?_) (fun c_219 => ?_)
                · rw [if_neg c_219] at h
                  refine K_of b_277_233 h_277_233 ?_
                  refine q_iload rfl ?_
                  refine q_end ?_
                  refine K_of b_277_235 h_277_235 ?_
                  cases h
                  exact q_iret rfl (Nat.le_refl _) (Nat.le_refl _) ⟨rfl, rfl⟩
                · rw [if_pos c_219] at h
                  refine q_iconst (16) (by decide) ?_
                  refine q_iload rfl ?_
                  refine q_imul ?_
                  refine q_iload rfl ?_
                  refine q_isub ?_
                  refine q_goto ?_
                  refine K_of b_277_235 h_277_235 ?_
                  cases h
                  exact q_iret rfl (Nat.le_refl _) (Nat.le_refl _) ⟨rfl, rfl⟩
              · rw [if_pos c_191] at h
                refine q_iconst (-1) (by decide) ?_
                cases h
                exact q_iret rfl (Nat.le_refl _) (Nat.le_refl _) ⟨rfl, rfl⟩
            · rw [if_pos c_179] at h
              refine q_iconst (1) (by decide) ?_
              refine q_goto ?_
              refine K_of b_277_187 h_277_187 ?_
              refine q_isub ?_
              obtain ⟨d_188, h⟩ := ite_some h
              obtain ⟨⟨x1_188, I1_188, L1_188⟩, e_188, h⟩ := Option.bind_eq_some_iff.mp h
              dsimp only at h
              refine q_fv4I (a_262 X hS (d := d - 1) (by omega) e_188) (by omega) (Nat.le_refl _) (Nat.le_refl _) rfl (Nat.le_of_ble_eq_true rfl) ⟨(zl hS 105 (by decide)), congrArg Prod.fst (sk hS 105 (by decide) rfl), by decide⟩ ?_
              refine q_if_ne (fun c_191 => ?_) (fun c_191 => ?_)
              · rw [if_neg c_191] at h
                refine K_of b_277_196 h_277_196 ?_
                refine q_aload rfl ?_
                refine q_iconst (16) (by decide) ?_
                refine q_putI (c0 := 12) (j := 48) rfl rfl (zl hS 105 (by decide)) (sk hS 105 (by decide) rfl) rfl ?_
                obtain ⟨I_199, nI_199, h⟩ := stI_some h
                refine q_nI nI_199 ?_
                refine q_aload rfl ?_
                obtain ⟨d_203, h⟩ := ite_some h
                obtain ⟨⟨x2_203, I2_203, L2_203⟩, e_203, h⟩ := Option.bind_eq_some_iff.mp h
                dsimp only at h
                refine q_fv1I (a_263 X hS (d := d - 1) (by omega) e_203) (by omega) (Nat.le_refl _) (Nat.le_refl _) rfl (Nat.le_of_ble_eq_true rfl) ⟨(zl hS 105 (by decide)), congrArg Prod.fst (sk hS 105 (by decide) rfl), by decide⟩ ?_
                refine q_istore (Nat.le_of_ble_eq_true rfl) rfl ?_
                refine q_iload rfl ?_
                refine q_iconst (15) (by decide) ?_
                refine q_iadd ?_
                refine q_iconst (16) (by decide) ?_
                refine q_idiv (by decide) ?_
                obtain ⟨v_216, nv_216, h⟩ := stI_some h
                refine q_eqi nv_216.symm ?_
                refine q_istore (Nat.le_of_ble_eq_true rfl) rfl ?_
                refine q_iload rfl ?_
                refine q_if_ne (fun c_219 => ?_) (fun c_219 => ?_)
                · rw [if_neg c_219] at h
                  refine K_of b_277_233 h_277_233 ?_
                  refine q_iload rfl ?_
                  refine q_end ?_
                  refine K_of b_277_235 h_277_235 ?_
                  cases h
                  exact q_iret rfl (Nat.le_refl _) (Nat.le_refl _) ⟨rfl, rfl⟩
                · rw [if_pos c_219] at h
                  refine q_iconst (16) (by decide) ?_
                  refine q_iload rfl ?_
                  refine q_imul ?_
                  refine q_iload rfl ?_
                  refine q_isub ?_
                  refine q_goto ?_
                  refine K_of b_277_235 h_277_235 ?_
                  cases h
                  exact q_iret rfl (Nat.le_refl _) (Nat.le_refl _) ⟨rfl, rfl⟩
              · rw [if_pos c_191] at h
                refine q_iconst (-1) (by decide) ?_
                cases h
                exact q_iret rfl (Nat.le_refl _) (Nat.le_refl _) ⟨rfl, rfl⟩
          · rw [if_pos c_162] at h
            refine q_iconst (1) (by decide) ?_
            refine q_goto ?_
            refine K_of b_277_170 h_277_170 ?_
            refine q_isub ?_
            refine q_aload rfl ?_
            refine q_getRs (c0 := 12) (j := 3) rfl rfl (zl hS 105 (by decide)) (sk hS 105 (by decide) rfl) rfl (by decide) (r_105_3 hS) ?_
            refine q_iconst (2) (by decide) ?_
            refine q_ialN (2) rfl (zl hS 107 (by decide)) (sk hS 107 (by decide) rfl) (by decide) (by decide) ?_
            refine q_iload rfl ?_
            refine q_iconst (2) (by decide) ?_
            refine q_icmp_ne (fun c_179 => ?_) (fun c_179 => ?_)
            · rw [if_neg c_179] at h
              refine K_of b_277_186 h_277_186 ?_
              refine q_iconst (0) (by decide) ?_
              refine q_end ?_
              refine K_of b_277_187 h_277_187 ?_
              refine q_isub ?_
              obtain ⟨d_188, h⟩ := ite_some h
              obtain ⟨⟨x1_188, I1_188, L1_188⟩, e_188, h⟩ := Option.bind_eq_some_iff.mp h
              dsimp only at h
              refine q_fv4I (a_262 X hS (d := d - 1) (by omega) e_188) (by omega) (Nat.le_refl _) (Nat.le_refl _) rfl (Nat.le_of_ble_eq_true rfl) ⟨(zl hS 105 (by decide)), congrArg Prod.fst (sk hS 105 (by decide) rfl), by decide⟩ ?_
              refine q_if_ne (fun c_191 => ?_) (fun c_191 => ?_)
              · rw [if_neg c_191] at h
                refine K_of b_277_196 h_277_196 ?_
                refine q_aload rfl ?_
                refine q_iconst (16) (by decide) ?_
                refine q_putI (c0 := 12) (j := 48) rfl rfl (zl hS 105 (by decide)) (sk hS 105 (by decide) rfl) rfl ?_
                obtain ⟨I_199, nI_199, h⟩ := stI_some h
                refine q_nI nI_199 ?_
                refine q_aload rfl ?_
                obtain ⟨d_203, h⟩ := ite_some h
                obtain ⟨⟨x2_203, I2_203, L2_203⟩, e_203, h⟩ := Option.bind_eq_some_iff.mp h
                dsimp only at h
                refine q_fv1I (a_263 X hS (d := d - 1) (by omega) e_203) (by omega) (Nat.le_refl _) (Nat.le_refl _) rfl (Nat.le_of_ble_eq_true rfl) ⟨(zl hS 105 (by decide)), congrArg Prod.fst (sk hS 105 (by decide) rfl), by decide⟩ ?_
                refine q_istore (Nat.le_of_ble_eq_true rfl) rfl ?_
                refine q_iload rfl ?_
                refine q_iconst (15) (by decide) ?_
                refine q_iadd ?_
                refine q_iconst (16) (by decide) ?_
                refine q_idiv (by decide) ?_
                obtain ⟨v_216, nv_216, h⟩ := stI_some h
                refine q_eqi nv_216.symm ?_
                refine q_istore (Nat.le_of_ble_eq_true rfl) rfl ?_
                refine q_iload rfl ?_
                refine q_if_ne (fun c_219 => ?_) (fun c_219 => ?_)
                · rw [if_neg c_219] at h
                  refine K_of b_277_233 h_277_233 ?_
                  refine q_iload rfl ?_
                  refine q_end ?_
                  refine K_of b_277_235 h_277_235 ?_
                  cases h
                  exact q_iret rfl (Nat.le_refl _) (Nat.le_refl _) ⟨rfl, rfl⟩
                · rw [if_pos c_219] at h
                  refine q_iconst (16) (by decide) ?_
                  refine q_iload rfl ?_
                  refine q_imul ?_
                  refine q_iload rfl ?_
                  refine q_isub ?_
                  refine q_goto ?_
                  refine K_of b_277_235 h_277_235 ?_
                  cases h
                  exact q_iret rfl (Nat.le_refl _) (Nat.le_refl _) ⟨rfl, rfl⟩
              · rw [if_pos c_191] at h
                refine q_iconst (-1) (by decide) ?_
                cases h
                exact q_iret rfl (Nat.le_refl _) (Nat.le_refl _) ⟨rfl, rfl⟩
            · rw [if_pos c_179] at h
              refine q_iconst (1) (by decide) ?_
              refine q_goto ?_
              refine K_of b_277_187 h_277_187 ?_
              refine q_isub ?_
              obtain ⟨d_188, h⟩ := ite_some h
              obtain ⟨⟨x1_188, I1_188, L1_188⟩, e_188, h⟩ := Option.bind_eq_some_iff.mp h
              dsimp only at h
              refine q_fv4I (a_262 X hS (d := d - 1) (by omega) e_188) (by omega) (Nat.le_refl _) (Nat.le_refl _) rfl (Nat.le_of_ble_eq_true rfl) ⟨(zl hS 105 (by decide)), congrArg Prod.fst (sk hS 105 (by decide) rfl), by decide⟩ ?_
              refine q_if_ne (fun c_191 => ?_) (fun c_191 => ?_)
              · rw [if_neg c_191] at h
                refine K_of b_277_196 h_277_196 ?_
                refine q_aload rfl ?_
                refine q_iconst (16) (by decide) ?_
                refine q_putI (c0 := 12) (j := 48) rfl rfl (zl hS 105 (by decide)) (sk hS 105 (by decide) rfl) rfl ?_
                obtain ⟨I_199, nI_199, h⟩ := stI_some h
                refine q_nI nI_199 ?_
                refine q_aload rfl ?_
                obtain ⟨d_203, h⟩ := ite_some h
                obtain ⟨⟨x2_203, I2_203, L2_203⟩, e_203, h⟩ := Option.bind_eq_some_iff.mp h
                dsimp only at h
                refine q_fv1I (a_263 X hS (d := d - 1) (by omega) e_203) (by omega) (Nat.le_refl _) (Nat.le_refl _) rfl (Nat.le_of_ble_eq_true rfl) ⟨(zl hS 105 (by decide)), congrArg Prod.fst (sk hS 105 (by decide) rfl), by decide⟩ ?_
                refine q_istore (Nat.le_of_ble_eq_true rfl) rfl ?_
                refine q_iload rfl ?_
                refine q_iconst (15) (by decide) ?_
                refine q_iadd ?_
                refine q_iconst (16) (by decide) ?_
                refine q_idiv (by decide) ?_
                obtain ⟨v_216, nv_216, h⟩ := stI_some h
                refine q_eqi nv_216.symm ?_
                refine q_istore (Nat.le_of_ble_eq_true rfl) rfl ?_
                refine q_iload rfl ?_
                refine q_if_ne (fun c_219 => ?_) (fun c_219 => ?_)
                · rw [if_neg c_219] at h
                  refine K_of b_277_233 h_277_233 ?_
                  refine q_iload rfl ?_
                  refine q_end ?_
                  refine K_of b_277_235 h_277_235 ?_
                  cases h
                  exact q_iret rfl (Nat.le_refl _) (Nat.le_refl _) ⟨rfl, rfl⟩
                · rw [if_pos c_219] at h
                  refine q_iconst (16) (by decide) ?_
                  refine q_iload rfl ?_
                  refine q_imul ?_
                  refine q_iload rfl ?_
                  refine q_isub ?_
                  refine q_goto ?_
                  refine K_of b_277_235 h_277_235 ?_
                  cases h
                  exact q_iret rfl (Nat.le_refl _) (Nat.le_refl _) ⟨rfl, rfl⟩
              · rw [if_pos c_191] at h
                refine q_iconst (-1) (by decide) ?_
                cases h
                exact q_iret rfl (Nat.le_refl _) (Nat.le_refl _) ⟨rfl, rfl⟩
        · rw [if_pos c_145] at h
          refine q_iconst (1) (by decide) ?_
          refine q_goto ?_
          refine K_of b_277_153 h_277_153 ?_
          refine q_isub ?_
          refine q_aload rfl ?_
          refine q_getRs (c0 := 12) (j := 3) rfl rfl (zl hS 105 (by decide)) (sk hS 105 (by decide) rfl) rfl (by decide) (r_105_3 hS) ?_
          refine q_iconst (1) (by decide) ?_
          refine q_ialN (1) rfl (zl hS 107 (by decide)) (sk hS 107 (by decide) rfl) (by decide) (by decide) ?_
          refine q_iload rfl ?_
          refine q_iconst (1) (by decide) ?_
          refine q_icmp_ne (fun c_162 => ?_) (fun c_162 => ?_)
          · rw [if_neg c_162] at h
            refine K_of b_277_169 h_277_169 ?_
            refine q_iconst (0) (by decide) ?_
            refine q_end ?_
            refine K_of b_277_170 h_277_170 ?_
            refine q_isub ?_
            refine q_aload rfl ?_
            refine q_getRs (c0 := 12) (j := 3) rfl rfl (zl hS 105 (by decide)) (sk hS 105 (by decide) rfl) rfl (by decide) (r_105_3 hS) ?_
            refine q_iconst (2) (by decide) ?_
            refine q_ialN (2) rfl (zl hS 107 (by decide)) (sk hS 107 (by decide) rfl) (by decide) (by decide) ?_
            refine q_iload rfl ?_
            refine q_iconst (2) (by decide) ?_
            refine q_icmp_ne (fun c_179 => ?_) (fun c_179 => ?_)
            · rw [if_neg c_179] at h
              refine K_of b_277_186 h_277_186 ?_
              refine q_iconst (0) (by decide) ?_
              refine q_end ?_
              refine K_of b_277_187 h_277_187 ?_
              refine q_isub ?_
              obtain ⟨d_188, h⟩ := ite_some h
              obtain ⟨⟨x1_188, I1_188, L1_188⟩, e_188, h⟩ := Option.bind_eq_some_iff.mp h
              dsimp only at h
              refine q_fv4I (a_262 X hS (d := d - 1) (by omega) e_188) (by omega) (Nat.le_refl _) (Nat.le_refl _) rfl (Nat.le_of_ble_eq_true rfl) ⟨(zl hS 105 (by decide)), congrArg Prod.fst (sk hS 105 (by decide) rfl), by decide⟩ ?_
              refine q_if_ne (fun c_191 => ?_) (fun c_191 => ?_)
              · rw [if_neg c_191] at h
                refine K_of b_277_196 h_277_196 ?_
                refine q_aload rfl ?_
                refine q_iconst (16) (by decide) ?_
                refine q_putI (c0 := 12) (j := 48) rfl rfl (zl hS 105 (by decide)) (sk hS 105 (by decide) rfl) rfl ?_
                obtain ⟨I_199, nI_199, h⟩ := stI_some h
                refine q_nI nI_199 ?_
                refine q_aload rfl ?_
                obtain ⟨d_203, h⟩ := ite_some h
                obtain ⟨⟨x2_203, I2_203, L2_203⟩, e_203, h⟩ := Option.bind_eq_some_iff.mp h
                dsimp only at h
                refine q_fv1I (a_263 X hS (d := d - 1) (by omega) e_203) (by omega) (Nat.le_refl _) (Nat.le_refl _) rfl (Nat.le_of_ble_eq_true rfl) ⟨(zl hS 105 (by decide)), congrArg Prod.fst (sk hS 105 (by decide) rfl), by decide⟩ ?_
                refine q_istore (Nat.le_of_ble_eq_true rfl) rfl ?_
                refine q_iload rfl ?_
                refine q_iconst (15) (by decide) ?_
                refine q_iadd ?_
                refine q_iconst (16) (by decide) ?_
                refine q_idiv (by decide) ?_
                obtain ⟨v_216, nv_216, h⟩ := stI_some h
                refine q_eqi nv_216.symm ?_
                refine q_istore (Nat.le_of_ble_eq_true rfl) rfl ?_
                refine q_iload rfl ?_
                refine q_if_ne (fun c_219 => ?_) (fun c_219 => ?_)
                · rw [if_neg c_219] at h
                  refine K_of b_277_233 h_277_233 ?_
                  refine q_iload rfl ?_
                  refine q_end ?_
                  refine K_of b_277_235 h_277_235 ?_
                  cases h
                  exact q_iret rfl (Nat.le_refl _) (Nat.le_refl _) ⟨rfl, rfl⟩
                · rw [if_pos c_219] at h
                  refine q_iconst (16) (by decide) ?_
                  refine q_iload rfl ?_
                  refine q_imul ?_
                  refine q_iload rfl ?_
                  refine q_isub ?_
                  refine q_goto ?_
                  refine K_of b_277_235 h_277_235 ?_
                  cases h
                  exact q_iret rfl (Nat.le_refl _) (Nat.le_refl _) ⟨rfl, rfl⟩
              · rw [if_pos c_191] at h
                refine q_iconst (-1) (by decide) ?_
                cases h
                exact q_iret rfl (Nat.le_refl _) (Nat.le_refl _) ⟨rfl, rfl⟩
            · rw [if_pos c_179] at h
              refine q_iconst (1) (by decide) ?_
              refine q_goto ?_
              refine K_of b_277_187 h_277_187 ?_
              refine q_isub ?_
              obtain ⟨d_188, h⟩ := ite_some h
              obtain ⟨⟨x1_188, I1_188, L1_188⟩, e_188, h⟩ := Option.bind_eq_some_iff.mp h
              dsimp only at h
              refine q_fv4I (a_262 X hS (d := d - 1) (by omega) e_188) (by omega) (Nat.le_refl _) (Nat.le_refl _) rfl (Nat.le_of_ble_eq_true rfl) ⟨(zl hS 105 (by decide)), congrArg Prod.fst (sk hS 105 (by decide) rfl), by decide⟩ ?_
              refine q_if_ne (fun c_191 => ?_) (fun c_191 => ?_)
              · rw [if_neg c_191] at h
                refine K_of b_277_196 h_277_196 ?_
                refine q_aload rfl ?_
                refine q_iconst (16) (by decide) ?_
                refine q_putI (c0 := 12) (j := 48) rfl rfl (zl hS 105 (by decide)) (sk hS 105 (by decide) rfl) rfl ?_
                obtain ⟨I_199, nI_199, h⟩ := stI_some h
                refine q_nI nI_199 ?_
                refine q_aload rfl ?_
                obtain ⟨d_203, h⟩ := ite_some h
                obtain ⟨⟨x2_203, I2_203, L2_203⟩, e_203, h⟩ := Option.bind_eq_some_iff.mp h
                dsimp only at h
                refine q_fv1I (a_263 X hS (d := d - 1) (by omega) e_203) (by omega) (Nat.le_refl _) (Nat.le_refl _) rfl (Nat.le_of_ble_eq_true rfl) ⟨(zl hS 105 (by decide)), congrArg Prod.fst (sk hS 105 (by decide) rfl), by decide⟩ ?_
                refine q_istore (Nat.le_of_ble_eq_true rfl) rfl ?_
                refine q_iload rfl ?_
                refine q_iconst (15) (by decide) ?_
                refine q_iadd ?_
                refine q_iconst (16) (by decide) ?_
                refine q_idiv (by decide) ?_
                obtain ⟨v_216, nv_216, h⟩ := stI_some h
                refine q_eqi nv_216.symm ?_
                refine q_istore (Nat.le_of_ble_eq_true rfl) rfl ?_
                refine q_iload rfl ?_
                refine q_if_ne (fun c_219 => ?_) (fun c_219 => ?_)
                · rw [if_neg c_219] at h
                  refine K_of b_277_233 h_277_233 ?_
                  refine q_iload rfl ?_
                  refine q_end ?_
                  refine K_of b_277_235 h_277_235 ?_
                  cases h
                  exact q_iret rfl (Nat.le_refl _) (Nat.le_refl _) ⟨rfl, rfl⟩
                · rw [if_pos c_219] at h
                  refine q_iconst (16) (by decide) ?_
                  refine q_iload rfl ?_
                  refine q_imul ?_
                  refine q_iload rfl ?_
                  refine q_isub ?_
                  refine q_goto ?_
                  refine K_of b_277_235 h_277_235 ?_
                  cases h
                  exact q_iret rfl (Nat.le_refl _) (Nat.le_refl _) ⟨rfl, rfl⟩
              · rw [if_pos c_191] at h
                refine q_iconst (-1) (by decide) ?_
                cases h
                exact q_iret rfl (Nat.le_refl _) (Nat.le_refl _) ⟨rfl, rfl⟩
          · rw [if_pos c_162] at h
            refine q_iconst (1) (by decide) ?_
            refine q_goto ?_
            refine K_of b_277_170 h_277_170 ?_
            refine q_isub ?_
            refine q_aload rfl ?_
            refine q_getRs (c0 := 12) (j := 3) rfl rfl (zl hS 105 (by decide)) (sk hS 105 (by decide) rfl) rfl (by decide) (r_105_3 hS) ?_
            refine q_iconst (2) (by decide) ?_
            refine q_ialN (2) rfl (zl hS 107 (by decide)) (sk hS 107 (by decide) rfl) (by decide) (by decide) ?_
            refine q_iload rfl ?_
            refine q_iconst (2) (by decide) ?_
            refine q_icmp_ne (fun c_179 => ?_) (fun c_179 => ?_)
            · rw [if_neg c_179] at h
              refine K_of b_277_186 h_277_186 ?_
              refine q_iconst (0) (by decide) ?_
              refine q_end ?_
              refine K_of b_277_187 h_277_187 ?_
              refine q_isub ?_
              obtain ⟨d_188, h⟩ := ite_some h
              obtain ⟨⟨x1_188, I1_188, L1_188⟩, e_188, h⟩ := Option.bind_eq_some_iff.mp h
              dsimp only at h
              refine q_fv4I (a_262 X hS (d := d - 1) (by omega) e_188) (by omega) (Nat.le_refl _) (Nat.le_refl _) rfl (Nat.le_of_ble_eq_true rfl) ⟨(zl hS 105 (by decide)), congrArg Prod.fst (sk hS 105 (by decide) rfl), by decide⟩ ?_
              refine q_if_ne (fun c_191 => ?_) (fun c_191 => ?_)
              · rw [if_neg c_191] at h
                refine K_of b_277_196 h_277_196 ?_
                refine q_aload rfl ?_
                refine q_iconst (16) (by decide) ?_
                refine q_putI (c0 := 12) (j := 48) rfl rfl (zl hS 105 (by decide)) (sk hS 105 (by decide) rfl) rfl ?_
                obtain ⟨I_199, nI_199, h⟩ := stI_some h
                refine q_nI nI_199 ?_
                refine q_aload rfl ?_
                obtain ⟨d_203, h⟩ := ite_some h
                obtain ⟨⟨x2_203, I2_203, L2_203⟩, e_203, h⟩ := Option.bind_eq_some_iff.mp h
                dsimp only at h
                refine q_fv1I (a_263 X hS (d := d - 1) (by omega) e_203) (by omega) (Nat.le_refl _) (Nat.le_refl _) rfl (Nat.le_of_ble_eq_true rfl) ⟨(zl hS 105 (by decide)), congrArg Prod.fst (sk hS 105 (by decide) rfl), by decide⟩ ?_
                refine q_istore (Nat.le_of_ble_eq_true rfl) rfl ?_
                refine q_iload rfl ?_
                refine q_iconst (15) (by decide) ?_
                refine q_iadd ?_
                refine q_iconst (16) (by decide) ?_
                refine q_idiv (by decide) ?_
                obtain ⟨v_216, nv_216, h⟩ := stI_some h
                refine q_eqi nv_216.symm ?_
                refine q_istore (Nat.le_of_ble_eq_true rfl) rfl ?_
                refine q_iload rfl ?_
                refine q_if_ne (fun c_219 => ?_) (fun c_219 => ?_)
                · rw [if_neg c_219] at h
                  refine K_of b_277_233 h_277_233 ?_
                  refine q_iload rfl ?_
                  refine q_end ?_
                  refine K_of b_277_235 h_277_235 ?_
                  cases h
                  exact q_iret rfl (Nat.le_refl _) (Nat.le_refl _) ⟨rfl, rfl⟩
                · rw [if_pos c_219] at h
                  refine q_iconst (16) (by decide) ?_
                  refine q_iload rfl ?_
                  refine q_imul ?_
                  refine q_iload rfl ?_
                  refine q_isub ?_
                  refine q_goto ?_
                  refine K_of b_277_235 h_277_235 ?_
                  cases h
                  exact q_iret rfl (Nat.le_refl _) (Nat.le_refl _) ⟨rfl, rfl⟩
              · rw [if_pos c_191] at h
                refine q_iconst (-1) (by decide) ?_
                cases h
                exact q_iret rfl (Nat.le_refl _) (Nat.le_refl _) ⟨rfl, rfl⟩
            · rw [if_pos c_179] at h
              refine q_iconst (1) (by decide) ?_
              refine q_goto ?_
              refine K_of b_277_187 h_277_187 ?_
              refine q_isub ?_
              obtain ⟨d_188, h⟩ := ite_some h
              obtain ⟨⟨x1_188, I1_188, L1_188⟩, e_188, h⟩ := Option.bind_eq_some_iff.mp h
              dsimp only at h
              refine q_fv4I (a_262 X hS (d := d - 1) (by omega) e_188) (by omega) (Nat.le_refl _) (Nat.le_refl _) rfl (Nat.le_of_ble_eq_true rfl) ⟨(zl hS 105 (by decide)), congrArg Prod.fst (sk hS 105 (by decide) rfl), by decide⟩ ?_
              refine q_if_ne (fun c_191 => ?_) (fun c_191 => ?_)
              · rw [if_neg c_191] at h
                refine K_of b_277_196 h_277_196 ?_
                refine q_aload rfl ?_
                refine q_iconst (16) (by decide) ?_
                refine q_putI (c0 := 12) (j := 48) rfl rfl (zl hS 105 (by decide)) (sk hS 105 (by decide) rfl) rfl ?_
                obtain ⟨I_199, nI_199, h⟩ := stI_some h
                refine q_nI nI_199 ?_
                refine q_aload rfl ?_
                obtain ⟨d_203, h⟩ := ite_some h
                obtain ⟨⟨x2_203, I2_203, L2_203⟩, e_203, h⟩ := Option.bind_eq_some_iff.mp h
                dsimp only at h
                refine q_fv1I (a_263 X hS (d := d - 1) (by omega) e_203) (by omega) (Nat.le_refl _) (Nat.le_refl _) rfl (Nat.le_of_ble_eq_true rfl) ⟨(zl hS 105 (by decide)), congrArg Prod.fst (sk hS 105 (by decide) rfl), by decide⟩ ?_
                refine q_istore (Nat.le_of_ble_eq_true rfl) rfl ?_
                refine q_iload rfl ?_
                refine q_iconst (15) (by decide) ?_
                refine q_iadd ?_
                refine q_iconst (16) (by decide) ?_
                refine q_idiv (by decide) ?_
                obtain ⟨v_216, nv_216, h⟩ := stI_some h
                refine q_eqi nv_216.symm ?_
                refine q_istore (Nat.le_of_ble_eq_true rfl) rfl ?_
                refine q_iload rfl ?_
                refine q_if_ne (fun c_219 => ?_) (fun c_219 => ?_)
                · rw [if_neg c_219] at h
                  refine K_of b_277_233 h_277_233 ?_
                  refine q_iload rfl ?_
                  refine q_end ?_
                  refine K_of b_277_235 h_277_235 ?_
                  cases h
                  exact q_iret rfl (Nat.le_refl _) (Nat.le_refl _) ⟨rfl, rfl⟩
                · rw [if_pos c_219] at h
                  refine q_iconst (16) (by decide) ?_
                  refine q_iload rfl ?_
                  refine q_imul ?_
                  refine q_iload rfl ?_
                  refine q_isub ?_
                  refine q_goto ?_
                  refine K_of b_277_235 h_277_235 ?_
                  cases h
                  exact q_iret rfl (Nat.le_refl _) (Nat.le_refl _) ⟨rfl, rfl⟩
              · rw [if_pos c_191] at h
                refine q_iconst (-1) (by decide) ?_
                cases h
                exact q_iret rfl (Nat.le_refl _) (Nat.le_refl _) ⟨rfl, rfl⟩
      · rw [if_neg c_105] at h
        refine q_iload rfl ?_
        refine q_iload rfl ?_
        refine q_icmp_eq (fun c_111 => ?_) (fun c_111 => ?_)
        · rw [if_pos c_111] at h
          exact (ih dp d hdp _ _ i1 i2 i3 i4 i5 _ _ _).2.2 h
        · rw [if_neg c_111] at h
          refine q_aload rfl ?_
          refine q_getRs (c0 := 12) (j := 49) rfl rfl (zl hS 105 (by decide)) (sk hS 105 (by decide) rfl) rfl (by decide) (r_105_49 hS) ?_
          refine q_iload rfl ?_
          refine q_aload rfl ?_
          refine q_getRs (c0 := 12) (j := 55) rfl rfl (zl hS 105 (by decide)) (sk hS 105 (by decide) rfl) rfl (by decide) (r_105_55 hS) ?_
          refine q_iload rfl ?_
          obtain ⟨⟨u_126, v_126⟩, h⟩ := ite_some h
          refine q_ialN (Int32.toNatClampNeg i5) (nx u_126) (zl hS 134 (by decide)) (sk hS 134 (by decide) rfl) v_126 (by decide) ?_
          obtain ⟨⟨u_127, v_127⟩, h⟩ := ite_some h
          refine q_iasN (Int32.toNatClampNeg i4) (nx u_127) (zl hS 132 (by decide)) (sk hS 132 (by decide) rfl) v_127 (by decide) ?_
          obtain ⟨I_127, nI_127, h⟩ := stI_some h
          refine q_nI nI_127 ?_
          refine q_iinc rfl rfl ?_
          refine q_end ?_
          exact (ih dp d hdp _ _ i1 i2 i3 (i4 + Int32.ofInt (1)) i5 _ _ _).2.2 h
    · intro h
      rw [e_277_2] at h
      refine K_of b_277_131 h_277_131 ?_
      refine q_iinc rfl rfl ?_
      refine q_goto ?_
      exact (ih dp d hdp _ _ i1 i2 i3 i4 (i5 + Int32.ofInt (1)) _ _ _).2.1 h
theorem a_277 (X : GX) {z : Nat} {kd : Nat → Nat × Nat} {Rf : Nat → Nat → Option Nat} (hS : Sh z kd Rf) {n dp d : Nat} (hd : dp ≤ d) {I : (Nat → Nat → Int32)} {L : (Nat → Nat → Int64)} {i1 : Int32} {i2 : Int32} {I1 : (Nat → Nat → Int32)} {L1 : (Nat → Nat → Int64)} {r : Int32} (h : g_277 n dp (z, kd, Rf) 0 I L i1 i2 0 0 0 = some (r, I1, L1)) : Ct X d 277 0 0 [.ref 105, .int i1, .int i2] (z, kd, I, L, Rf) (AI (fun x τ => x = r ∧ τ = (z, kd, I1, L1, Rf))) :=
  Ct_of mu_277 (Nat.le_of_ble_eq_true rfl) ((w_277 X hS n dp d hd I L i1 i2 0 0 0 _ _ _).1 h)

/-! 278 CutFloorModel.give(II)I -/
set_option maxHeartbeats 4000000 in
set_option maxRecDepth 100000 in
def g_278 : Nat → Nat → EN → Nat → (Nat → Nat → Int32) → (Nat → Nat → Int64) → Int32 → Int32 →  Option (Int32 × (Nat → Nat → Int32) × (Nat → Nat → Int64))
  | 0, _, _, _, _, _, _, _ => none
  | n + 1, dp, e, lab, I, L, i1, i2 =>
    if lab = 0 then (stI (u2 I 105 0 (0 : Int32)) (fun I_2 => (if 1 ≤ dp then (g_193 n (dp - 1) e 0 I_2 L (Int32.toInt64 i1) (0 : Int64) (7 : Int64)).bind (fun ⟨x0_11, I0_11, L0_11⟩ => (if x0_11 = 0 then (if 1 ≤ dp then (g_194 n (dp - 1) e 0 I0_11 L0_11 (-1 : Int32)).bind (fun ⟨x1_43, I1_43, L1_43⟩ => (some (x1_43, I1_43, L1_43))) else none) else (if 1 ≤ dp then (g_193 n (dp - 1) e 0 I0_11 L0_11 (Int32.toInt64 i2) (0 : Int64) (63 : Int64)).bind (fun ⟨x1_23, I1_23, L1_23⟩ => (if x1_23 = 0 then (if 1 ≤ dp then (g_194 n (dp - 1) e 0 I1_23 L1_23 (-1 : Int32)).bind (fun ⟨x2_43, I2_43, L2_43⟩ => (some (x2_43, I2_43, L2_43))) else none) else (if 1 ≤ dp then (g_199 n (dp - 1) e 0 I1_23 L1_23 ((74 : Int32) + i1) i2).bind (fun ⟨x2_35, I2_35, L2_35⟩ => (some (x2_35, I2_35, L2_35))) else none))) else none))) else none)))
    else none
set_option maxRecDepth 100000 in
theorem e_278_0 (n dp : Nat) (e : EN) (I : (Nat → Nat → Int32)) (L : (Nat → Nat → Int64)) (i1 : Int32) (i2 : Int32) : g_278 (n + 1) dp e 0 I L i1 i2 = (stI (u2 I 105 0 (0 : Int32)) (fun I_2 => (if 1 ≤ dp then (g_193 n (dp - 1) e 0 I_2 L (Int32.toInt64 i1) (0 : Int64) (7 : Int64)).bind (fun ⟨x0_11, I0_11, L0_11⟩ => (if x0_11 = 0 then (if 1 ≤ dp then (g_194 n (dp - 1) e 0 I0_11 L0_11 (-1 : Int32)).bind (fun ⟨x1_43, I1_43, L1_43⟩ => (some (x1_43, I1_43, L1_43))) else none) else (if 1 ≤ dp then (g_193 n (dp - 1) e 0 I0_11 L0_11 (Int32.toInt64 i2) (0 : Int64) (63 : Int64)).bind (fun ⟨x1_23, I1_23, L1_23⟩ => (if x1_23 = 0 then (if 1 ≤ dp then (g_194 n (dp - 1) e 0 I1_23 L1_23 (-1 : Int32)).bind (fun ⟨x2_43, I2_43, L2_43⟩ => (some (x2_43, I2_43, L2_43))) else none) else (if 1 ≤ dp then (g_199 n (dp - 1) e 0 I1_23 L1_23 ((74 : Int32) + i1) i2).bind (fun ⟨x2_35, I2_35, L2_35⟩ => (some (x2_35, I2_35, L2_35))) else none))) else none))) else none))) := by rw [g_278.eq_2, if_pos (show (0 : Nat) = 0 from rfl)]
set_option maxHeartbeats 8000000 in
set_option maxRecDepth 100000 in
theorem w_278 (X : GX) {z : Nat} {kd : Nat → Nat × Nat} {Rf : Nat → Nat → Option Nat} (hS : Sh z kd Rf) : ∀ (n dp d : Nat), dp ≤ d → ∀ (I : (Nat → Nat → Int32)) (L : (Nat → Nat → Int64)) (i1 : Int32) (i2 : Int32) (r : Int32) (I1 : (Nat → Nat → Int32)) (L1 : (Nat → Nat → Int64)), (g_278 n dp (z, kd, Rf) 0 I L i1 i2 = some (r, I1, L1) → K X d 278 0 0 (AI (fun x τ => x = r ∧ τ = (z, kd, I1, L1, Rf))) 0 [some (.ref 105), some (.int i1), some (.int i2)] [] (z, kd, I, L, Rf) 0 0) := by
  intro n
  induction n with
  | zero => intro dp d hdp I L i1 i2 r I1 L1; exact fun h => by cases h
  | succ n ih =>
    intro dp d hdp I L i1 i2 r I1 L1
    · intro h
      rw [e_278_0] at h
      refine K_of b_278_0 h_278_0 ?_
      refine q_aload rfl ?_
      refine q_iconst (0) (by decide) ?_
      refine q_putI (c0 := 12) (j := 0) rfl rfl (zl hS 105 (by decide)) (sk hS 105 (by decide) rfl) rfl ?_
      obtain ⟨I_2, nI_2, h⟩ := stI_some h
      refine q_nI nI_2 ?_
      refine q_iload rfl ?_
      refine q_i2l ?_
      refine q_lconst (0) (by decide) ?_
      refine q_lconst (7) (by decide) ?_
      obtain ⟨d_11, h⟩ := ite_some h
      obtain ⟨⟨x0_11, I0_11, L0_11⟩, e_11, h⟩ := Option.bind_eq_some_iff.mp h
      dsimp only at h
      refine q_fs3I (a_193 X hS (d := d - 1) (by omega) e_11) (by omega) (Nat.le_refl _) (Nat.le_refl _) rfl (Nat.le_of_ble_eq_true rfl) ?_
      refine q_if_eq (fun c_14 => ?_) (fun c_14 => ?_)
      · rw [if_pos c_14] at h
        refine K_of b_278_41 h_278_41 ?_
        refine q_aload rfl ?_
        refine q_iconst (-1) (by decide) ?_
        obtain ⟨d_43, h⟩ := ite_some h
        obtain ⟨⟨x1_43, I1_43, L1_43⟩, e_43, h⟩ := Option.bind_eq_some_iff.mp h
        dsimp only at h
        refine q_fv2I (a_194 X hS (d := d - 1) (by omega) e_43) (by omega) (Nat.le_refl _) (Nat.le_refl _) rfl (Nat.le_of_ble_eq_true rfl) ⟨(zl hS 105 (by decide)), congrArg Prod.fst (sk hS 105 (by decide) rfl), by decide⟩ ?_
        refine q_end ?_
        refine K_of b_278_46 h_278_46 ?_
        cases h
        exact q_iret rfl (Nat.le_refl _) (Nat.le_refl _) ⟨rfl, rfl⟩
      · rw [if_neg c_14] at h
        refine q_iload rfl ?_
        refine q_i2l ?_
        refine q_lconst (0) (by decide) ?_
        refine q_lconst (63) (by decide) ?_
        obtain ⟨d_23, h⟩ := ite_some h
        obtain ⟨⟨x1_23, I1_23, L1_23⟩, e_23, h⟩ := Option.bind_eq_some_iff.mp h
        dsimp only at h
        refine q_fs3I (a_193 X hS (d := d - 1) (by omega) e_23) (by omega) (Nat.le_refl _) (Nat.le_refl _) rfl (Nat.le_of_ble_eq_true rfl) ?_
        refine q_if_eq (fun c_26 => ?_) (fun c_26 => ?_)
        · rw [if_pos c_26] at h
          refine K_of b_278_41 h_278_41 ?_
          refine q_aload rfl ?_
          refine q_iconst (-1) (by decide) ?_
          obtain ⟨d_43, h⟩ := ite_some h
          obtain ⟨⟨x2_43, I2_43, L2_43⟩, e_43, h⟩ := Option.bind_eq_some_iff.mp h
          dsimp only at h
          refine q_fv2I (a_194 X hS (d := d - 1) (by omega) e_43) (by omega) (Nat.le_refl _) (Nat.le_refl _) rfl (Nat.le_of_ble_eq_true rfl) ⟨(zl hS 105 (by decide)), congrArg Prod.fst (sk hS 105 (by decide) rfl), by decide⟩ ?_
          refine q_end ?_
          refine K_of b_278_46 h_278_46 ?_
          cases h
          exact q_iret rfl (Nat.le_refl _) (Nat.le_refl _) ⟨rfl, rfl⟩
        · rw [if_neg c_26] at h
          refine q_aload rfl ?_
          refine q_iconst (74) (by decide) ?_
          refine q_iload rfl ?_
          refine q_iadd ?_
          refine q_iload rfl ?_
          obtain ⟨d_35, h⟩ := ite_some h
          obtain ⟨⟨x2_35, I2_35, L2_35⟩, e_35, h⟩ := Option.bind_eq_some_iff.mp h
          dsimp only at h
          refine q_fv3I (a_199 X hS (d := d - 1) (by omega) e_35) (by omega) (Nat.le_refl _) (Nat.le_refl _) rfl (Nat.le_of_ble_eq_true rfl) ⟨(zl hS 105 (by decide)), congrArg Prod.fst (sk hS 105 (by decide) rfl), by decide⟩ ?_
          refine q_goto ?_
          refine K_of b_278_46 h_278_46 ?_
          cases h
          exact q_iret rfl (Nat.le_refl _) (Nat.le_refl _) ⟨rfl, rfl⟩
theorem a_278 (X : GX) {z : Nat} {kd : Nat → Nat × Nat} {Rf : Nat → Nat → Option Nat} (hS : Sh z kd Rf) {n dp d : Nat} (hd : dp ≤ d) {I : (Nat → Nat → Int32)} {L : (Nat → Nat → Int64)} {i1 : Int32} {i2 : Int32} {I1 : (Nat → Nat → Int32)} {L1 : (Nat → Nat → Int64)} {r : Int32} (h : g_278 n dp (z, kd, Rf) 0 I L i1 i2 = some (r, I1, L1)) : Ct X d 278 0 0 [.ref 105, .int i1, .int i2] (z, kd, I, L, Rf) (AI (fun x τ => x = r ∧ τ = (z, kd, I1, L1, Rf))) :=
  Ct_of mu_278 (Nat.le_of_ble_eq_true rfl) ((w_278 X hS n dp d hd I L i1 i2 _ _ _) h)

/-! 280 CutFloorModel.classAt(I)I -/
set_option maxHeartbeats 4000000 in
set_option maxRecDepth 100000 in
def g_280 : Nat → Nat → EN → Nat → (Nat → Nat → Int32) → (Nat → Nat → Int64) → Int32 →  Option (Int32 × (Nat → Nat → Int32) × (Nat → Nat → Int64))
  | 0, _, _, _, _, _, _ => none
  | n + 1, dp, e, lab, I, L, i1 =>
    if lab = 0 then (if (I 107 0) ≤ i1 then (if ((I 107 0) + (I 107 1)) ≤ i1 then (some ((2 : Int32), I, L)) else (some ((1 : Int32), I, L))) else (some ((0 : Int32), I, L)))
    else none
set_option maxRecDepth 100000 in
theorem e_280_0 (n dp : Nat) (e : EN) (I : (Nat → Nat → Int32)) (L : (Nat → Nat → Int64)) (i1 : Int32) : g_280 (n + 1) dp e 0 I L i1 = (if (I 107 0) ≤ i1 then (if ((I 107 0) + (I 107 1)) ≤ i1 then (some ((2 : Int32), I, L)) else (some ((1 : Int32), I, L))) else (some ((0 : Int32), I, L))) := by rw [g_280.eq_2, if_pos (show (0 : Nat) = 0 from rfl)]
set_option maxHeartbeats 8000000 in
set_option maxRecDepth 100000 in
theorem w_280 (X : GX) {z : Nat} {kd : Nat → Nat × Nat} {Rf : Nat → Nat → Option Nat} (hS : Sh z kd Rf) : ∀ (n dp d : Nat), dp ≤ d → ∀ (I : (Nat → Nat → Int32)) (L : (Nat → Nat → Int64)) (i1 : Int32) (r : Int32) (I1 : (Nat → Nat → Int32)) (L1 : (Nat → Nat → Int64)), (g_280 n dp (z, kd, Rf) 0 I L i1 = some (r, I1, L1) → K X d 280 0 0 (AI (fun x τ => x = r ∧ τ = (z, kd, I1, L1, Rf))) 0 [some (.ref 105), some (.int i1)] [] (z, kd, I, L, Rf) 0 0) := by
  intro n
  induction n with
  | zero => intro dp d hdp I L i1 r I1 L1; exact fun h => by cases h
  | succ n ih =>
    intro dp d hdp I L i1 r I1 L1
    · intro h
      rw [e_280_0] at h
      refine K_of b_280_0 h_280_0 ?_
      refine q_iload rfl ?_
      refine q_aload rfl ?_
      refine q_getRs (c0 := 12) (j := 3) rfl rfl (zl hS 105 (by decide)) (sk hS 105 (by decide) rfl) rfl (by decide) (r_105_3 hS) ?_
      refine q_iconst (0) (by decide) ?_
      refine q_ialN (0) rfl (zl hS 107 (by decide)) (sk hS 107 (by decide) rfl) (by decide) (by decide) ?_
      refine q_icmp_ge (fun c_7 => ?_) (fun c_7 => ?_)
      · rw [if_pos c_7] at h
        refine K_of b_280_14 h_280_14 ?_
        refine q_iload rfl ?_
        refine q_aload rfl ?_
        refine q_getRs (c0 := 12) (j := 3) rfl rfl (zl hS 105 (by decide)) (sk hS 105 (by decide) rfl) rfl (by decide) (r_105_3 hS) ?_
        refine q_iconst (0) (by decide) ?_
        refine q_ialN (0) rfl (zl hS 107 (by decide)) (sk hS 107 (by decide) rfl) (by decide) (by decide) ?_
        refine q_aload rfl ?_
        refine q_getRs (c0 := 12) (j := 3) rfl rfl (zl hS 105 (by decide)) (sk hS 105 (by decide) rfl) rfl (by decide) (r_105_3 hS) ?_
        refine q_iconst (1) (by decide) ?_
        refine q_ialN (1) rfl (zl hS 107 (by decide)) (sk hS 107 (by decide) rfl) (by decide) (by decide) ?_
        refine q_iadd ?_
        refine q_icmp_ge (fun c_28 => ?_) (fun c_28 => ?_)
        · rw [if_pos c_28] at h
          refine K_of b_280_35 h_280_35 ?_
          refine q_iconst (2) (by decide) ?_
          refine q_end ?_
          refine K_of b_280_36 h_280_36 ?_
          cases h
          exact q_iret rfl (Nat.le_refl _) (Nat.le_refl _) ⟨rfl, rfl⟩
        · rw [if_neg c_28] at h
          refine q_iconst (1) (by decide) ?_
          refine q_goto ?_
          refine K_of b_280_36 h_280_36 ?_
          cases h
          exact q_iret rfl (Nat.le_refl _) (Nat.le_refl _) ⟨rfl, rfl⟩
      · rw [if_neg c_7] at h
        refine q_iconst (0) (by decide) ?_
        refine q_goto ?_
        refine K_of b_280_36 h_280_36 ?_
        cases h
        exact q_iret rfl (Nat.le_refl _) (Nat.le_refl _) ⟨rfl, rfl⟩
theorem a_280 (X : GX) {z : Nat} {kd : Nat → Nat × Nat} {Rf : Nat → Nat → Option Nat} (hS : Sh z kd Rf) {n dp d : Nat} (hd : dp ≤ d) {I : (Nat → Nat → Int32)} {L : (Nat → Nat → Int64)} {i1 : Int32} {I1 : (Nat → Nat → Int32)} {L1 : (Nat → Nat → Int64)} {r : Int32} (h : g_280 n dp (z, kd, Rf) 0 I L i1 = some (r, I1, L1)) : Ct X d 280 0 0 [.ref 105, .int i1] (z, kd, I, L, Rf) (AI (fun x τ => x = r ∧ τ = (z, kd, I1, L1, Rf))) :=
  Ct_of mu_280 (Nat.le_of_ble_eq_true rfl) ((w_280 X hS n dp d hd I L i1 _ _ _) h)

/-! 281 CutFloorModel.toldOf(I)I -/
set_option maxHeartbeats 4000000 in
set_option maxRecDepth 100000 in
def g_281 : Nat → Nat → EN → Nat → (Nat → Nat → Int32) → (Nat → Nat → Int64) → Int32 →  Option (Int32 × (Nat → Nat → Int32) × (Nat → Nat → Int64))
  | 0, _, _, _, _, _, _ => none
  | n + 1, dp, e, lab, I, L, i1 =>
    if lab = 0 then (if 0 ≤ ((74 : Int32) + i1) ∧ (Int32.toNatClampNeg ((74 : Int32) + i1)) < 1570 then (if 1 ≤ dp then (g_280 n (dp - 1) e 0 I L i1).bind (fun ⟨x0_15, I0_15, L0_15⟩ => (if 0 ≤ x0_15 ∧ (Int32.toNatClampNeg x0_15) < 3 then (if (I0_15 120 (Int32.toNatClampNeg x0_15)) ≤ (I 107 (Int32.toNatClampNeg ((74 : Int32) + i1))) then (some ((0 : Int32), I0_15, L0_15)) else (if 0 ≤ ((74 : Int32) + i1) ∧ (Int32.toNatClampNeg ((74 : Int32) + i1)) < 1570 then (some ((I0_15 107 (Int32.toNatClampNeg ((74 : Int32) + i1))), I0_15, L0_15)) else none)) else none)) else none) else none)
    else none
set_option maxRecDepth 100000 in
theorem e_281_0 (n dp : Nat) (e : EN) (I : (Nat → Nat → Int32)) (L : (Nat → Nat → Int64)) (i1 : Int32) : g_281 (n + 1) dp e 0 I L i1 = (if 0 ≤ ((74 : Int32) + i1) ∧ (Int32.toNatClampNeg ((74 : Int32) + i1)) < 1570 then (if 1 ≤ dp then (g_280 n (dp - 1) e 0 I L i1).bind (fun ⟨x0_15, I0_15, L0_15⟩ => (if 0 ≤ x0_15 ∧ (Int32.toNatClampNeg x0_15) < 3 then (if (I0_15 120 (Int32.toNatClampNeg x0_15)) ≤ (I 107 (Int32.toNatClampNeg ((74 : Int32) + i1))) then (some ((0 : Int32), I0_15, L0_15)) else (if 0 ≤ ((74 : Int32) + i1) ∧ (Int32.toNatClampNeg ((74 : Int32) + i1)) < 1570 then (some ((I0_15 107 (Int32.toNatClampNeg ((74 : Int32) + i1))), I0_15, L0_15)) else none)) else none)) else none) else none) := by rw [g_281.eq_2, if_pos (show (0 : Nat) = 0 from rfl)]
set_option maxHeartbeats 8000000 in
set_option maxRecDepth 100000 in
theorem w_281 (X : GX) {z : Nat} {kd : Nat → Nat × Nat} {Rf : Nat → Nat → Option Nat} (hS : Sh z kd Rf) : ∀ (n dp d : Nat), dp ≤ d → ∀ (I : (Nat → Nat → Int32)) (L : (Nat → Nat → Int64)) (i1 : Int32) (r : Int32) (I1 : (Nat → Nat → Int32)) (L1 : (Nat → Nat → Int64)), (g_281 n dp (z, kd, Rf) 0 I L i1 = some (r, I1, L1) → K X d 281 0 0 (AI (fun x τ => x = r ∧ τ = (z, kd, I1, L1, Rf))) 0 [some (.ref 105), some (.int i1)] [] (z, kd, I, L, Rf) 0 0) := by
  intro n
  induction n with
  | zero => intro dp d hdp I L i1 r I1 L1; exact fun h => by cases h
  | succ n ih =>
    intro dp d hdp I L i1 r I1 L1
    · intro h
      rw [e_281_0] at h
      refine K_of b_281_0 h_281_0 ?_
      refine q_aload rfl ?_
      refine q_getRs (c0 := 12) (j := 3) rfl rfl (zl hS 105 (by decide)) (sk hS 105 (by decide) rfl) rfl (by decide) (r_105_3 hS) ?_
      refine q_iconst (74) (by decide) ?_
      refine q_iload rfl ?_
      refine q_iadd ?_
      obtain ⟨⟨u_8, v_8⟩, h⟩ := ite_some h
      refine q_ialN (Int32.toNatClampNeg ((74 : Int32) + i1)) (nx u_8) (zl hS 107 (by decide)) (sk hS 107 (by decide) rfl) v_8 (by decide) ?_
      refine q_aload rfl ?_
      refine q_getRs (c0 := 12) (j := 33) rfl rfl (zl hS 105 (by decide)) (sk hS 105 (by decide) rfl) rfl (by decide) (r_105_33 hS) ?_
      refine q_aload rfl ?_
      refine q_iload rfl ?_
      obtain ⟨d_15, h⟩ := ite_some h
      obtain ⟨⟨x0_15, I0_15, L0_15⟩, e_15, h⟩ := Option.bind_eq_some_iff.mp h
      dsimp only at h
      refine q_fv2I (a_280 X hS (d := d - 1) (by omega) e_15) (by omega) (Nat.le_refl _) (Nat.le_refl _) rfl (Nat.le_of_ble_eq_true rfl) ⟨(zl hS 105 (by decide)), congrArg Prod.fst (sk hS 105 (by decide) rfl), by decide⟩ ?_
      obtain ⟨⟨u_18, v_18⟩, h⟩ := ite_some h
      refine q_ialN (Int32.toNatClampNeg x0_15) (nx u_18) (zl hS 120 (by decide)) (sk hS 120 (by decide) rfl) v_18 (by decide) ?_
      refine q_icmp_ge (fun c_19 => ?_) (fun c_19 => ?_)
      · rw [if_pos c_19] at h
        refine K_of b_281_34 h_281_34 ?_
        refine q_iconst (0) (by decide) ?_
        refine q_end ?_
        refine K_of b_281_35 h_281_35 ?_
        cases h
        exact q_iret rfl (Nat.le_refl _) (Nat.le_refl _) ⟨rfl, rfl⟩
      · rw [if_neg c_19] at h
        refine q_aload rfl ?_
        refine q_getRs (c0 := 12) (j := 3) rfl rfl (zl hS 105 (by decide)) (sk hS 105 (by decide) rfl) rfl (by decide) (r_105_3 hS) ?_
        refine q_iconst (74) (by decide) ?_
        refine q_iload rfl ?_
        refine q_iadd ?_
        obtain ⟨⟨u_30, v_30⟩, h⟩ := ite_some h
        refine q_ialN (Int32.toNatClampNeg ((74 : Int32) + i1)) (nx u_30) (zl hS 107 (by decide)) (sk hS 107 (by decide) rfl) v_30 (by decide) ?_
        refine q_goto ?_
        refine K_of b_281_35 h_281_35 ?_
        cases h
        exact q_iret rfl (Nat.le_refl _) (Nat.le_refl _) ⟨rfl, rfl⟩
theorem a_281 (X : GX) {z : Nat} {kd : Nat → Nat × Nat} {Rf : Nat → Nat → Option Nat} (hS : Sh z kd Rf) {n dp d : Nat} (hd : dp ≤ d) {I : (Nat → Nat → Int32)} {L : (Nat → Nat → Int64)} {i1 : Int32} {I1 : (Nat → Nat → Int32)} {L1 : (Nat → Nat → Int64)} {r : Int32} (h : g_281 n dp (z, kd, Rf) 0 I L i1 = some (r, I1, L1)) : Ct X d 281 0 0 [.ref 105, .int i1] (z, kd, I, L, Rf) (AI (fun x τ => x = r ∧ τ = (z, kd, I1, L1, Rf))) :=
  Ct_of mu_281 (Nat.le_of_ble_eq_true rfl) ((w_281 X hS n dp d hd I L i1 _ _ _) h)

/-! 279 CutFloorModel.given(I)I -/
set_option maxHeartbeats 4000000 in
set_option maxRecDepth 100000 in
def g_279 : Nat → Nat → EN → Nat → (Nat → Nat → Int32) → (Nat → Nat → Int64) → Int32 → Int32 → Int32 → Int32 → Int32 → Int32 → Int32 →  Option (Int32 × (Nat → Nat → Int32) × (Nat → Nat → Int64))
  | 0, _, _, _, _, _, _, _, _, _, _, _, _ => none
  | n + 1, dp, e, lab, I, L, i1, i2, i3, i4, i5, i6, i7 =>
    if lab = 0 then (stI (u2 I 105 0 (0 : Int32)) (fun I_2 => (if 1 ≤ dp then (g_193 n (dp - 1) e 0 I_2 L (Int32.toInt64 i1) (0 : Int64) (3 : Int64)).bind (fun ⟨x0_11, I0_11, L0_11⟩ => (if x0_11 = 0 then (some ((-1 : Int32), I0_11, L0_11)) else (if 1 ≤ dp then (g_261 n (dp - 1) e 0 I0_11 L0_11 0 0 0 0).bind (fun ⟨x1_18, I1_18, L1_18⟩ => (if x1_18 = 0 then (some ((-1 : Int32), I1_18, L1_18)) else (g_279 n dp e 1 I1_18 L1_18 i1 (0 : Int32) (0 : Int32) (0 : Int32) (0 : Int32) 0 0))) else none))) else none)))
    else if lab = 1 then (if (10 : Int32) ≤ i5 then (g_279 n dp e 3 I L i1 i2 i3 i4 (0 : Int32) 0 0) else (g_279 n dp e 2 I L i1 i2 i3 i4 i5 (0 : Int32) (0 : Int32)))
    else if lab = 2 then (if 1 ≤ dp then (g_198 n (dp - 1) e 0 I L).bind (fun ⟨x0_52, I0_52, L0_52⟩ => (if x0_52 ≤ i7 then (if 0 ≤ ((60 : Int32) + i5) ∧ (Int32.toNatClampNeg ((60 : Int32) + i5)) < 1570 then (stI (I0_52 107 (Int32.toNatClampNeg ((60 : Int32) + i5))) (fun v_107 => (if v_107 ≤ i6 then (if 0 ≤ ((40 : Int32) + i5) ∧ (Int32.toNatClampNeg ((40 : Int32) + i5)) < 1570 then (if i6 ≤ v_107 then (if 0 ≤ ((50 : Int32) + i5) ∧ (Int32.toNatClampNeg ((50 : Int32) + i5)) < 1570 then (stI (i2 + ((v_107 * (I0_52 107 (Int32.toNatClampNeg ((40 : Int32) + i5)))) + ((0 : Int32) * (I0_52 107 (Int32.toNatClampNeg ((50 : Int32) + i5)))))) (fun v_164 => (if 1 ≤ dp then (g_272 n (dp - 1) e 0 I0_52 L0_52 v_107 i6).bind (fun ⟨x1_171, I1_171, L1_171⟩ => (g_279 n dp e 1 I1_171 L1_171 i1 v_164 i3 (i4 + x1_171) (i5 + Int32.ofInt (1)) 0 0)) else none))) else none) else (if 0 ≤ ((50 : Int32) + i5) ∧ (Int32.toNatClampNeg ((50 : Int32) + i5)) < 1570 then (stI (i2 + ((v_107 * (I0_52 107 (Int32.toNatClampNeg ((40 : Int32) + i5)))) + ((i6 - v_107) * (I0_52 107 (Int32.toNatClampNeg ((50 : Int32) + i5)))))) (fun v_164 => (if 1 ≤ dp then (g_272 n (dp - 1) e 0 I0_52 L0_52 v_107 i6).bind (fun ⟨x1_171, I1_171, L1_171⟩ => (g_279 n dp e 1 I1_171 L1_171 i1 v_164 i3 (i4 + x1_171) (i5 + Int32.ofInt (1)) 0 0)) else none))) else none)) else none) else (if 0 ≤ ((40 : Int32) + i5) ∧ (Int32.toNatClampNeg ((40 : Int32) + i5)) < 1570 then (if i6 ≤ v_107 then (if 0 ≤ ((50 : Int32) + i5) ∧ (Int32.toNatClampNeg ((50 : Int32) + i5)) < 1570 then (stI (i2 + ((i6 * (I0_52 107 (Int32.toNatClampNeg ((40 : Int32) + i5)))) + ((0 : Int32) * (I0_52 107 (Int32.toNatClampNeg ((50 : Int32) + i5)))))) (fun v_164 => (if 1 ≤ dp then (g_272 n (dp - 1) e 0 I0_52 L0_52 v_107 i6).bind (fun ⟨x1_171, I1_171, L1_171⟩ => (g_279 n dp e 1 I1_171 L1_171 i1 v_164 i3 (i4 + x1_171) (i5 + Int32.ofInt (1)) 0 0)) else none))) else none) else (if 0 ≤ ((50 : Int32) + i5) ∧ (Int32.toNatClampNeg ((50 : Int32) + i5)) < 1570 then (stI (i2 + ((i6 * (I0_52 107 (Int32.toNatClampNeg ((40 : Int32) + i5)))) + ((i6 - v_107) * (I0_52 107 (Int32.toNatClampNeg ((50 : Int32) + i5)))))) (fun v_164 => (if 1 ≤ dp then (g_272 n (dp - 1) e 0 I0_52 L0_52 v_107 i6).bind (fun ⟨x1_171, I1_171, L1_171⟩ => (g_279 n dp e 1 I1_171 L1_171 i1 v_164 i3 (i4 + x1_171) (i5 + Int32.ofInt (1)) 0 0)) else none))) else none)) else none)))) else none) else (if 1 ≤ dp then (g_280 n (dp - 1) e 0 I0_52 L0_52 i7).bind (fun ⟨x1_70, I1_70, L1_70⟩ => (if 1 ≤ dp then (g_281 n (dp - 1) e 0 I1_70 L1_70 i7).bind (fun ⟨x2_79, I2_79, L2_79⟩ => (if 0 ≤ ((((640 : Int32) * x1_70) + ((10 : Int32) * x2_79)) + i5) ∧ (Int32.toNatClampNeg ((((640 : Int32) * x1_70) + ((10 : Int32) * x2_79)) + i5)) < 1920 then (stI (i6 + (I2_79 122 (Int32.toNatClampNeg ((((640 : Int32) * x1_70) + ((10 : Int32) * x2_79)) + i5)))) (fun v_89 => (g_279 n dp e 2 I2_79 L2_79 i1 i2 i3 i4 i5 v_89 (i7 + Int32.ofInt (1))))) else none)) else none)) else none))) else none)
    else if lab = 3 then (if 1 ≤ dp then (g_198 n (dp - 1) e 0 I L).bind (fun ⟨x0_189, I0_189, L0_189⟩ => (if x0_189 ≤ i5 then (if i1 = 0 then (some (i2, I0_189, L0_189)) else (if i1 = (1 : Int32) then (some (((I0_189 105 53) - i2), I0_189, L0_189)) else (if i1 = (2 : Int32) then (some (i3, I0_189, L0_189)) else (some (i4, I0_189, L0_189))))) else (if 1 ≤ dp then (g_281 n (dp - 1) e 0 I0_189 L0_189 i5).bind (fun ⟨x1_199, I1_199, L1_199⟩ => (if 0 ≤ i5 ∧ (Int32.toNatClampNeg i5) < 8 then (if x1_199 = (I1_199 134 (Int32.toNatClampNeg i5)) then (g_279 n dp e 3 I1_199 L1_199 i1 i2 (i3 + (0 : Int32)) i4 (i5 + Int32.ofInt (1)) 0 0) else (g_279 n dp e 3 I1_199 L1_199 i1 i2 (i3 + (1 : Int32)) i4 (i5 + Int32.ofInt (1)) 0 0)) else none)) else none))) else none)
    else none
set_option maxRecDepth 100000 in
theorem e_279_0 (n dp : Nat) (e : EN) (I : (Nat → Nat → Int32)) (L : (Nat → Nat → Int64)) (i1 : Int32) (i2 : Int32) (i3 : Int32) (i4 : Int32) (i5 : Int32) (i6 : Int32) (i7 : Int32) : g_279 (n + 1) dp e 0 I L i1 i2 i3 i4 i5 i6 i7 = (stI (u2 I 105 0 (0 : Int32)) (fun I_2 => (if 1 ≤ dp then (g_193 n (dp - 1) e 0 I_2 L (Int32.toInt64 i1) (0 : Int64) (3 : Int64)).bind (fun ⟨x0_11, I0_11, L0_11⟩ => (if x0_11 = 0 then (some ((-1 : Int32), I0_11, L0_11)) else (if 1 ≤ dp then (g_261 n (dp - 1) e 0 I0_11 L0_11 0 0 0 0).bind (fun ⟨x1_18, I1_18, L1_18⟩ => (if x1_18 = 0 then (some ((-1 : Int32), I1_18, L1_18)) else (g_279 n dp e 1 I1_18 L1_18 i1 (0 : Int32) (0 : Int32) (0 : Int32) (0 : Int32) 0 0))) else none))) else none))) := by rw [g_279.eq_2, if_pos (show (0 : Nat) = 0 from rfl)]
set_option maxRecDepth 100000 in
theorem e_279_1 (n dp : Nat) (e : EN) (I : (Nat → Nat → Int32)) (L : (Nat → Nat → Int64)) (i1 : Int32) (i2 : Int32) (i3 : Int32) (i4 : Int32) (i5 : Int32) (i6 : Int32) (i7 : Int32) : g_279 (n + 1) dp e 1 I L i1 i2 i3 i4 i5 i6 i7 = (if (10 : Int32) ≤ i5 then (g_279 n dp e 3 I L i1 i2 i3 i4 (0 : Int32) 0 0) else (g_279 n dp e 2 I L i1 i2 i3 i4 i5 (0 : Int32) (0 : Int32))) := by rw [g_279.eq_2, if_neg (show ¬ ((1 : Nat) = 0) by decide), if_pos (show (1 : Nat) = 1 from rfl)]
set_option maxRecDepth 100000 in
theorem e_279_2 (n dp : Nat) (e : EN) (I : (Nat → Nat → Int32)) (L : (Nat → Nat → Int64)) (i1 : Int32) (i2 : Int32) (i3 : Int32) (i4 : Int32) (i5 : Int32) (i6 : Int32) (i7 : Int32) : g_279 (n + 1) dp e 2 I L i1 i2 i3 i4 i5 i6 i7 = (if 1 ≤ dp then (g_198 n (dp - 1) e 0 I L).bind (fun ⟨x0_52, I0_52, L0_52⟩ => (if x0_52 ≤ i7 then (if 0 ≤ ((60 : Int32) + i5) ∧ (Int32.toNatClampNeg ((60 : Int32) + i5)) < 1570 then (stI (I0_52 107 (Int32.toNatClampNeg ((60 : Int32) + i5))) (fun v_107 => (if v_107 ≤ i6 then (if 0 ≤ ((40 : Int32) + i5) ∧ (Int32.toNatClampNeg ((40 : Int32) + i5)) < 1570 then (if i6 ≤ v_107 then (if 0 ≤ ((50 : Int32) + i5) ∧ (Int32.toNatClampNeg ((50 : Int32) + i5)) < 1570 then (stI (i2 + ((v_107 * (I0_52 107 (Int32.toNatClampNeg ((40 : Int32) + i5)))) + ((0 : Int32) * (I0_52 107 (Int32.toNatClampNeg ((50 : Int32) + i5)))))) (fun v_164 => (if 1 ≤ dp then (g_272 n (dp - 1) e 0 I0_52 L0_52 v_107 i6).bind (fun ⟨x1_171, I1_171, L1_171⟩ => (g_279 n dp e 1 I1_171 L1_171 i1 v_164 i3 (i4 + x1_171) (i5 + Int32.ofInt (1)) 0 0)) else none))) else none) else (if 0 ≤ ((50 : Int32) + i5) ∧ (Int32.toNatClampNeg ((50 : Int32) + i5)) < 1570 then (stI (i2 + ((v_107 * (I0_52 107 (Int32.toNatClampNeg ((40 : Int32) + i5)))) + ((i6 - v_107) * (I0_52 107 (Int32.toNatClampNeg ((50 : Int32) + i5)))))) (fun v_164 => (if 1 ≤ dp then (g_272 n (dp - 1) e 0 I0_52 L0_52 v_107 i6).bind (fun ⟨x1_171, I1_171, L1_171⟩ => (g_279 n dp e 1 I1_171 L1_171 i1 v_164 i3 (i4 + x1_171) (i5 + Int32.ofInt (1)) 0 0)) else none))) else none)) else none) else (if 0 ≤ ((40 : Int32) + i5) ∧ (Int32.toNatClampNeg ((40 : Int32) + i5)) < 1570 then (if i6 ≤ v_107 then (if 0 ≤ ((50 : Int32) + i5) ∧ (Int32.toNatClampNeg ((50 : Int32) + i5)) < 1570 then (stI (i2 + ((i6 * (I0_52 107 (Int32.toNatClampNeg ((40 : Int32) + i5)))) + ((0 : Int32) * (I0_52 107 (Int32.toNatClampNeg ((50 : Int32) + i5)))))) (fun v_164 => (if 1 ≤ dp then (g_272 n (dp - 1) e 0 I0_52 L0_52 v_107 i6).bind (fun ⟨x1_171, I1_171, L1_171⟩ => (g_279 n dp e 1 I1_171 L1_171 i1 v_164 i3 (i4 + x1_171) (i5 + Int32.ofInt (1)) 0 0)) else none))) else none) else (if 0 ≤ ((50 : Int32) + i5) ∧ (Int32.toNatClampNeg ((50 : Int32) + i5)) < 1570 then (stI (i2 + ((i6 * (I0_52 107 (Int32.toNatClampNeg ((40 : Int32) + i5)))) + ((i6 - v_107) * (I0_52 107 (Int32.toNatClampNeg ((50 : Int32) + i5)))))) (fun v_164 => (if 1 ≤ dp then (g_272 n (dp - 1) e 0 I0_52 L0_52 v_107 i6).bind (fun ⟨x1_171, I1_171, L1_171⟩ => (g_279 n dp e 1 I1_171 L1_171 i1 v_164 i3 (i4 + x1_171) (i5 + Int32.ofInt (1)) 0 0)) else none))) else none)) else none)))) else none) else (if 1 ≤ dp then (g_280 n (dp - 1) e 0 I0_52 L0_52 i7).bind (fun ⟨x1_70, I1_70, L1_70⟩ => (if 1 ≤ dp then (g_281 n (dp - 1) e 0 I1_70 L1_70 i7).bind (fun ⟨x2_79, I2_79, L2_79⟩ => (if 0 ≤ ((((640 : Int32) * x1_70) + ((10 : Int32) * x2_79)) + i5) ∧ (Int32.toNatClampNeg ((((640 : Int32) * x1_70) + ((10 : Int32) * x2_79)) + i5)) < 1920 then (stI (i6 + (I2_79 122 (Int32.toNatClampNeg ((((640 : Int32) * x1_70) + ((10 : Int32) * x2_79)) + i5)))) (fun v_89 => (g_279 n dp e 2 I2_79 L2_79 i1 i2 i3 i4 i5 v_89 (i7 + Int32.ofInt (1))))) else none)) else none)) else none))) else none) := by rw [g_279.eq_2, if_neg (show ¬ ((2 : Nat) = 0) by decide), if_neg (show ¬ ((2 : Nat) = 1) by decide), if_pos (show (2 : Nat) = 2 from rfl)]
set_option maxRecDepth 100000 in
theorem e_279_3 (n dp : Nat) (e : EN) (I : (Nat → Nat → Int32)) (L : (Nat → Nat → Int64)) (i1 : Int32) (i2 : Int32) (i3 : Int32) (i4 : Int32) (i5 : Int32) (i6 : Int32) (i7 : Int32) : g_279 (n + 1) dp e 3 I L i1 i2 i3 i4 i5 i6 i7 = (if 1 ≤ dp then (g_198 n (dp - 1) e 0 I L).bind (fun ⟨x0_189, I0_189, L0_189⟩ => (if x0_189 ≤ i5 then (if i1 = 0 then (some (i2, I0_189, L0_189)) else (if i1 = (1 : Int32) then (some (((I0_189 105 53) - i2), I0_189, L0_189)) else (if i1 = (2 : Int32) then (some (i3, I0_189, L0_189)) else (some (i4, I0_189, L0_189))))) else (if 1 ≤ dp then (g_281 n (dp - 1) e 0 I0_189 L0_189 i5).bind (fun ⟨x1_199, I1_199, L1_199⟩ => (if 0 ≤ i5 ∧ (Int32.toNatClampNeg i5) < 8 then (if x1_199 = (I1_199 134 (Int32.toNatClampNeg i5)) then (g_279 n dp e 3 I1_199 L1_199 i1 i2 (i3 + (0 : Int32)) i4 (i5 + Int32.ofInt (1)) 0 0) else (g_279 n dp e 3 I1_199 L1_199 i1 i2 (i3 + (1 : Int32)) i4 (i5 + Int32.ofInt (1)) 0 0)) else none)) else none))) else none) := by rw [g_279.eq_2, if_neg (show ¬ ((3 : Nat) = 0) by decide), if_neg (show ¬ ((3 : Nat) = 1) by decide), if_neg (show ¬ ((3 : Nat) = 2) by decide), if_pos (show (3 : Nat) = 3 from rfl)]
set_option maxHeartbeats 8000000 in
set_option maxRecDepth 100000 in
theorem w_279 (X : GX) {z : Nat} {kd : Nat → Nat × Nat} {Rf : Nat → Nat → Option Nat} (hS : Sh z kd Rf) : ∀ (n dp d : Nat), dp ≤ d → ∀ (I : (Nat → Nat → Int32)) (L : (Nat → Nat → Int64)) (i1 : Int32) (i2 : Int32) (i3 : Int32) (i4 : Int32) (i5 : Int32) (i6 : Int32) (i7 : Int32) (r : Int32) (I1 : (Nat → Nat → Int32)) (L1 : (Nat → Nat → Int64)), (g_279 n dp (z, kd, Rf) 0 I L i1 i2 i3 i4 i5 i6 i7 = some (r, I1, L1) → K X d 279 0 0 (AI (fun x τ => x = r ∧ τ = (z, kd, I1, L1, Rf))) 0 [some (.ref 105), some (.int i1), none, none, none, none, none, none] [] (z, kd, I, L, Rf) 0 0) ∧
    (g_279 n dp (z, kd, Rf) 1 I L i1 i2 i3 i4 i5 i6 i7 = some (r, I1, L1) → K X d 279 0 0 (AI (fun x τ => x = r ∧ τ = (z, kd, I1, L1, Rf))) 36 [some (.ref 105), some (.int i1), some (.int i2), some (.int i3), some (.int i4), some (.int i5), none, none] [] (z, kd, I, L, Rf) 0 0) ∧
    (g_279 n dp (z, kd, Rf) 2 I L i1 i2 i3 i4 i5 i6 i7 = some (r, I1, L1) → K X d 279 0 0 (AI (fun x τ => x = r ∧ τ = (z, kd, I1, L1, Rf))) 49 [some (.ref 105), some (.int i1), some (.int i2), some (.int i3), some (.int i4), some (.int i5), some (.int i6), some (.int i7)] [] (z, kd, I, L, Rf) 0 0) ∧
    (g_279 n dp (z, kd, Rf) 3 I L i1 i2 i3 i4 i5 i6 i7 = some (r, I1, L1) → K X d 279 0 0 (AI (fun x τ => x = r ∧ τ = (z, kd, I1, L1, Rf))) 186 [some (.ref 105), some (.int i1), some (.int i2), some (.int i3), some (.int i4), some (.int i5), none, none] [] (z, kd, I, L, Rf) 0 0) := by
  intro n
  induction n with
  | zero => intro dp d hdp I L i1 i2 i3 i4 i5 i6 i7 r I1 L1; exact ⟨(fun h => by cases h), (fun h => by cases h), (fun h => by cases h), (fun h => by cases h)⟩
  | succ n ih =>
    intro dp d hdp I L i1 i2 i3 i4 i5 i6 i7 r I1 L1
    refine ⟨?_, ?_, ?_, ?_⟩
    · intro h
      rw [e_279_0] at h
      refine K_of b_279_0 h_279_0 ?_
      refine q_aload rfl ?_
      refine q_iconst (0) (by decide) ?_
      refine q_putI (c0 := 12) (j := 0) rfl rfl (zl hS 105 (by decide)) (sk hS 105 (by decide) rfl) rfl ?_
      obtain ⟨I_2, nI_2, h⟩ := stI_some h
      refine q_nI nI_2 ?_
      refine q_iload rfl ?_
      refine q_i2l ?_
      refine q_lconst (0) (by decide) ?_
      refine q_lconst (3) (by decide) ?_
      obtain ⟨d_11, h⟩ := ite_some h
      obtain ⟨⟨x0_11, I0_11, L0_11⟩, e_11, h⟩ := Option.bind_eq_some_iff.mp h
      dsimp only at h
      refine q_fs3I (a_193 X hS (d := d - 1) (by omega) e_11) (by omega) (Nat.le_refl _) (Nat.le_refl _) rfl (Nat.le_of_ble_eq_true rfl) ?_
      refine q_if_eq (fun c_14 => ?_) (fun c_14 => ?_)
      · rw [if_pos c_14] at h
        refine K_of b_279_24 h_279_24 ?_
        refine q_iconst (-1) (by decide) ?_
        cases h
        exact q_iret rfl (Nat.le_refl _) (Nat.le_refl _) ⟨rfl, rfl⟩
      · rw [if_neg c_14] at h
        refine q_aload rfl ?_
        obtain ⟨d_18, h⟩ := ite_some h
        obtain ⟨⟨x1_18, I1_18, L1_18⟩, e_18, h⟩ := Option.bind_eq_some_iff.mp h
        dsimp only at h
        refine q_fv1I (a_261 X hS (d := d - 1) (by omega) e_18) (by omega) (Nat.le_refl _) (Nat.le_refl _) rfl (Nat.le_of_ble_eq_true rfl) ⟨(zl hS 105 (by decide)), congrArg Prod.fst (sk hS 105 (by decide) rfl), by decide⟩ ?_
        refine q_if_ne (fun c_21 => ?_) (fun c_21 => ?_)
        · rw [if_neg c_21] at h
          refine K_of b_279_26 h_279_26 ?_
          refine q_iconst (0) (by decide) ?_
          refine q_istore (Nat.le_of_ble_eq_true rfl) rfl ?_
          refine q_iconst (0) (by decide) ?_
          refine q_istore (Nat.le_of_ble_eq_true rfl) rfl ?_
          refine q_iconst (0) (by decide) ?_
          refine q_istore (Nat.le_of_ble_eq_true rfl) rfl ?_
          refine q_iconst (0) (by decide) ?_
          refine q_istore (Nat.le_of_ble_eq_true rfl) rfl ?_
          refine q_end ?_
          exact (ih dp d hdp _ _ i1 (0 : Int32) (0 : Int32) (0 : Int32) (0 : Int32) 0 0 _ _ _).2.1 h
        · rw [if_pos c_21] at h
          refine q_end ?_
          refine K_of b_279_24 h_279_24 ?_
          refine q_iconst (-1) (by decide) ?_
          cases h
          exact q_iret rfl (Nat.le_refl _) (Nat.le_refl _) ⟨rfl, rfl⟩
    · intro h
      rw [e_279_1] at h
      refine K_of b_279_36 h_279_36 ?_
      refine q_iload rfl ?_
      refine q_iconst (10) (by decide) ?_
      refine q_icmp_ge (fun c_40 => ?_) (fun c_40 => ?_)
      · rw [if_pos c_40] at h
        refine K_of b_279_183 h_279_183 ?_
        refine q_iconst (0) (by decide) ?_
        refine q_istore (Nat.le_of_ble_eq_true rfl) rfl ?_
        refine q_end ?_
        exact (ih dp d hdp _ _ i1 i2 i3 i4 (0 : Int32) 0 0 _ _ _).2.2.2 h
      · rw [if_neg c_40] at h
        refine q_iconst (0) (by decide) ?_
        refine q_istore (Nat.le_of_ble_eq_true rfl) rfl ?_
        refine q_iconst (0) (by decide) ?_
        refine q_istore (Nat.le_of_ble_eq_true rfl) rfl ?_
        refine q_end ?_
        exact (ih dp d hdp _ _ i1 i2 i3 i4 i5 (0 : Int32) (0 : Int32) _ _ _).2.2.1 h
    · intro h
      rw [e_279_2] at h
      refine K_of b_279_49 h_279_49 ?_
      refine q_iload rfl ?_
      refine q_aload rfl ?_
      obtain ⟨d_52, h⟩ := ite_some h
      obtain ⟨⟨x0_52, I0_52, L0_52⟩, e_52, h⟩ := Option.bind_eq_some_iff.mp h
      dsimp only at h
      refine q_fv1I (a_198 X hS (d := d - 1) (by omega) e_52) (by omega) (Nat.le_refl _) (Nat.le_refl _) rfl (Nat.le_of_ble_eq_true rfl) ⟨(zl hS 105 (by decide)), congrArg Prod.fst (sk hS 105 (by decide) rfl), by decide⟩ ?_
      refine q_icmp_ge (fun c_55 => ?_) (fun c_55 => ?_)
      · rw [if_pos c_55] at h
        refine K_of b_279_97 h_279_97 ?_
        refine q_aload rfl ?_
        refine q_getRs (c0 := 12) (j := 3) rfl rfl (zl hS 105 (by decide)) (sk hS 105 (by decide) rfl) rfl (by decide) (r_105_3 hS) ?_
        refine q_iconst (60) (by decide) ?_
        refine q_iload rfl ?_
        refine q_iadd ?_
        obtain ⟨⟨u_106, v_106⟩, h⟩ := ite_some h
        refine q_ialN (Int32.toNatClampNeg ((60 : Int32) + i5)) (nx u_106) (zl hS 107 (by decide)) (sk hS 107 (by decide) rfl) v_106 (by decide) ?_
        obtain ⟨v_107, nv_107, h⟩ := stI_some h
        refine q_eqi nv_107.symm ?_
        refine q_istore (Nat.le_of_ble_eq_true rfl) rfl ?_
        refine q_iload rfl ?_
        refine q_iload rfl ?_
        refine q_iload rfl ?_
        refine q_icmp_ge (fun c_114 => ?_) (fun c_114 => ?_)
        · rw [if_pos c_114] at h
          refine K_of b_279_122 h_279_122 ?_
          refine q_iload rfl ?_
          refine q_end ?_
          refine K_of b_279_124 h_279_124 ?_
          refine q_aload rfl ?_
          refine q_getRs (c0 := 12) (j := 3) rfl rfl (zl hS 105 (by decide)) (sk hS 105 (by decide) rfl) rfl (by decide) (r_105_3 hS) ?_
          refine q_iconst (40) (by decide) ?_
          refine q_iload rfl ?_
          refine q_iadd ?_
          obtain ⟨⟨u_133, v_133⟩, h⟩ := ite_some h
          refine q_ialN (Int32.toNatClampNeg ((40 : Int32) + i5)) (nx u_133) (zl hS 107 (by decide)) (sk hS 107 (by decide) rfl) v_133 (by decide) ?_
          refine q_imul ?_
          refine q_iload rfl ?_
          refine q_iload rfl ?_
          refine q_icmp_le (fun c_139 => ?_) (fun c_139 => ?_)
          · rw [if_pos c_139] at h
            refine K_of b_279_150 h_279_150 ?_
            refine q_iconst (0) (by decide) ?_
            refine q_end ?_
            refine K_of b_279_151 h_279_151 ?_
            refine q_aload rfl ?_
            refine q_getRs (c0 := 12) (j := 3) rfl rfl (zl hS 105 (by decide)) (sk hS 105 (by decide) rfl) rfl (by decide) (r_105_3 hS) ?_
            refine q_iconst (50) (by decide) ?_
            refine q_iload rfl ?_
            refine q_iadd ?_
            obtain ⟨⟨u_160, v_160⟩, h⟩ := ite_some h
            refine q_ialN (Int32.toNatClampNeg ((50 : Int32) + i5)) (nx u_160) (zl hS 107 (by decide)) (sk hS 107 (by decide) rfl) v_160 (by decide) ?_
            refine q_imul ?_
            refine q_iadd ?_
            refine q_iadd ?_
            obtain ⟨v_164, nv_164, h⟩ := stI_some h
            refine q_eqi nv_164.symm ?_
            refine q_istore (Nat.le_of_ble_eq_true rfl) rfl ?_
            refine q_iload rfl ?_
            refine q_iload rfl ?_
            refine q_iload rfl ?_
            obtain ⟨d_171, h⟩ := ite_some h
            obtain ⟨⟨x1_171, I1_171, L1_171⟩, e_171, h⟩ := Option.bind_eq_some_iff.mp h
            dsimp only at h
            refine q_fs2I (a_272 X hS (d := d - 1) (by omega) e_171) (by omega) (Nat.le_refl _) (Nat.le_refl _) rfl (Nat.le_of_ble_eq_true rfl) ?_
            refine q_iadd ?_
            refine q_istore (Nat.le_of_ble_eq_true rfl) rfl ?_
            refine q_iinc rfl rfl ?_
            refine q_goto ?_
            refine K_mask [true, true, true, true, true, true, false, false] (Nat.le_of_ble_eq_true rfl) ?_
            exact (ih dp d hdp _ _ i1 v_164 i3 (i4 + x1_171) (i5 + Int32.ofInt (1)) 0 0 _ _ _).2.1 h
          · rw [if_neg c_139] at h
            refine q_iload rfl ?_
            refine q_iload rfl ?_
            refine q_isub ?_
            refine q_goto ?_
            refine K_of b_279_151 h_279_151 ?_
            refine q_aload rfl ?_
            refine q_getRs (c0 := 12) (j := 3) rfl rfl (zl hS 105 (by decide)) (sk hS 105 (by decide) rfl) rfl (by decide) (r_105_3 hS) ?_
            refine q_iconst (50) (by decide) ?_
            refine q_iload rfl ?_
            refine q_iadd ?_
            obtain ⟨⟨u_160, v_160⟩, h⟩ := ite_some h
            refine q_ialN (Int32.toNatClampNeg ((50 : Int32) + i5)) (nx u_160) (zl hS 107 (by decide)) (sk hS 107 (by decide) rfl) v_160 (by decide) ?_
            refine q_imul ?_
            refine q_iadd ?_
            refine q_iadd ?_
            obtain ⟨v_164, nv_164, h⟩ := stI_some h
            refine q_eqi nv_164.symm ?_
            refine q_istore (Nat.le_of_ble_eq_true rfl) rfl ?_
            refine q_iload rfl ?_
            refine q_iload rfl ?_
            refine q_iload rfl ?_
            obtain ⟨d_171, h⟩ := ite_some h
            obtain ⟨⟨x1_171, I1_171, L1_171⟩, e_171, h⟩ := Option.bind_eq_some_iff.mp h
            dsimp only at h
            refine q_fs2I (a_272 X hS (d := d - 1) (by omega) e_171) (by omega) (Nat.le_refl _) (Nat.le_refl _) rfl (Nat.le_of_ble_eq_true rfl) ?_
            refine q_iadd ?_
            refine q_istore (Nat.le_of_ble_eq_true rfl) rfl ?_
            refine q_iinc rfl rfl ?_
            refine q_goto ?_
            refine K_mask [true, true, true, true, true, true, false, false] (Nat.le_of_ble_eq_true rfl) ?_
            exact (ih dp d hdp _ _ i1 v_164 i3 (i4 + x1_171) (i5 + Int32.ofInt (1)) 0 0 _ _ _).2.1 h
        · rw [if_neg c_114] at h
          refine q_iload rfl ?_
          refine q_goto ?_
          refine K_of b_279_124 h_279_124 ?_
          refine q_aload rfl ?_
          refine q_getRs (c0 := 12) (j := 3) rfl rfl (zl hS 105 (by decide)) (sk hS 105 (by decide) rfl) rfl (by decide) (r_105_3 hS) ?_
          refine q_iconst (40) (by decide) ?_
          refine q_iload rfl ?_
          refine q_iadd ?_
          obtain ⟨⟨u_133, v_133⟩, h⟩ := ite_some h
          refine q_ialN (Int32.toNatClampNeg ((40 : Int32) + i5)) (nx u_133) (zl hS 107 (by decide)) (sk hS 107 (by decide) rfl) v_133 (by decide) ?_
          refine q_imul ?_
          refine q_iload rfl ?_
          refine q_iload rfl ?_
          refine q_icmp_le (fun c_139 => ?_) (fun c_139 => ?_)
          · rw [if_pos c_139] at h
            refine K_of b_279_150 h_279_150 ?_
            refine q_iconst (0) (by decide) ?_
            refine q_end ?_
            refine K_of b_279_151 h_279_151 ?_
            refine q_aload rfl ?_
            refine q_getRs (c0 := 12) (j := 3) rfl rfl (zl hS 105 (by decide)) (sk hS 105 (by decide) rfl) rfl (by decide) (r_105_3 hS) ?_
            refine q_iconst (50) (by decide) ?_
            refine q_iload rfl ?_
            refine q_iadd ?_
            obtain ⟨⟨u_160, v_160⟩, h⟩ := ite_some h
            refine q_ialN (Int32.toNatClampNeg ((50 : Int32) + i5)) (nx u_160) (zl hS 107 (by decide)) (sk hS 107 (by decide) rfl) v_160 (by decide) ?_
            refine q_imul ?_
            refine q_iadd ?_
            refine q_iadd ?_
            obtain ⟨v_164, nv_164, h⟩ := stI_some h
            refine q_eqi nv_164.symm ?_
            refine q_istore (Nat.le_of_ble_eq_true rfl) rfl ?_
            refine q_iload rfl ?_
            refine q_iload rfl ?_
            refine q_iload rfl ?_
            obtain ⟨d_171, h⟩ := ite_some h
            obtain ⟨⟨x1_171, I1_171, L1_171⟩, e_171, h⟩ := Option.bind_eq_some_iff.mp h
            dsimp only at h
            refine q_fs2I (a_272 X hS (d := d - 1) (by omega) e_171) (by omega) (Nat.le_refl _) (Nat.le_refl _) rfl (Nat.le_of_ble_eq_true rfl) ?_
            refine q_iadd ?_
            refine q_istore (Nat.le_of_ble_eq_true rfl) rfl ?_
            refine q_iinc rfl rfl ?_
            refine q_goto ?_
            refine K_mask [true, true, true, true, true, true, false, false] (Nat.le_of_ble_eq_true rfl) ?_
            exact (ih dp d hdp _ _ i1 v_164 i3 (i4 + x1_171) (i5 + Int32.ofInt (1)) 0 0 _ _ _).2.1 h
          · rw [if_neg c_139] at h
            refine q_iload rfl ?_
            refine q_iload rfl ?_
            refine q_isub ?_
            refine q_goto ?_
            refine K_of b_279_151 h_279_151 ?_
            refine q_aload rfl ?_
            refine q_getRs (c0 := 12) (j := 3) rfl rfl (zl hS 105 (by decide)) (sk hS 105 (by decide) rfl) rfl (by decide) (r_105_3 hS) ?_
            refine q_iconst (50) (by decide) ?_
            refine q_iload rfl ?_
            refine q_iadd ?_
            obtain ⟨⟨u_160, v_160⟩, h⟩ := ite_some h
            refine q_ialN (Int32.toNatClampNeg ((50 : Int32) + i5)) (nx u_160) (zl hS 107 (by decide)) (sk hS 107 (by decide) rfl) v_160 (by decide) ?_
            refine q_imul ?_
            refine q_iadd ?_
            refine q_iadd ?_
            obtain ⟨v_164, nv_164, h⟩ := stI_some h
            refine q_eqi nv_164.symm ?_
            refine q_istore (Nat.le_of_ble_eq_true rfl) rfl ?_
            refine q_iload rfl ?_
            refine q_iload rfl ?_
            refine q_iload rfl ?_
            obtain ⟨d_171, h⟩ := ite_some h
            obtain ⟨⟨x1_171, I1_171, L1_171⟩, e_171, h⟩ := Option.bind_eq_some_iff.mp h
            dsimp only at h
            refine q_fs2I (a_272 X hS (d := d - 1) (by omega) e_171) (by omega) (Nat.le_refl _) (Nat.le_refl _) rfl (Nat.le_of_ble_eq_true rfl) ?_
            refine q_iadd ?_
            refine q_istore (Nat.le_of_ble_eq_true rfl) rfl ?_
            refine q_iinc rfl rfl ?_
            refine q_goto ?_
            refine K_mask [true, true, true, true, true, true, false, false] (Nat.le_of_ble_eq_true rfl) ?_
            exact (ih dp d hdp _ _ i1 v_164 i3 (i4 + x1_171) (i5 + Int32.ofInt (1)) 0 0 _ _ _).2.1 h
      · rw [if_neg c_55] at h
        refine q_iload rfl ?_
        refine q_aload rfl ?_
        refine q_getRs (c0 := 12) (j := 35) rfl rfl (zl hS 105 (by decide)) (sk hS 105 (by decide) rfl) rfl (by decide) (r_105_35 hS) ?_
        refine q_iconst (640) (by decide) ?_
        refine q_aload rfl ?_
        refine q_iload rfl ?_
        obtain ⟨d_70, h⟩ := ite_some h
        obtain ⟨⟨x1_70, I1_70, L1_70⟩, e_70, h⟩ := Option.bind_eq_some_iff.mp h
        dsimp only at h
        refine q_fv2I (a_280 X hS (d := d - 1) (by omega) e_70) (by omega) (Nat.le_refl _) (Nat.le_refl _) rfl (Nat.le_of_ble_eq_true rfl) ⟨(zl hS 105 (by decide)), congrArg Prod.fst (sk hS 105 (by decide) rfl), by decide⟩ ?_
        refine q_imul ?_
        refine q_iconst (10) (by decide) ?_
        refine q_aload rfl ?_
        refine q_iload rfl ?_
        obtain ⟨d_79, h⟩ := ite_some h
        obtain ⟨⟨x2_79, I2_79, L2_79⟩, e_79, h⟩ := Option.bind_eq_some_iff.mp h
        dsimp only at h
        refine q_fv2I (a_281 X hS (d := d - 1) (by omega) e_79) (by omega) (Nat.le_refl _) (Nat.le_refl _) rfl (Nat.le_of_ble_eq_true rfl) ⟨(zl hS 105 (by decide)), congrArg Prod.fst (sk hS 105 (by decide) rfl), by decide⟩ ?_
        refine q_imul ?_
        refine q_iadd ?_
        refine q_iload rfl ?_
        refine q_iadd ?_
        obtain ⟨⟨u_87, v_87⟩, h⟩ := ite_some h
        refine q_ialN (Int32.toNatClampNeg ((((640 : Int32) * x1_70) + ((10 : Int32) * x2_79)) + i5)) (nx u_87) (zl hS 122 (by decide)) (sk hS 122 (by decide) rfl) v_87 (by decide) ?_
        refine q_iadd ?_
        obtain ⟨v_89, nv_89, h⟩ := stI_some h
        refine q_eqi nv_89.symm ?_
        refine q_istore (Nat.le_of_ble_eq_true rfl) rfl ?_
        refine q_iinc rfl rfl ?_
        refine q_goto ?_
        exact (ih dp d hdp _ _ i1 i2 i3 i4 i5 v_89 (i7 + Int32.ofInt (1)) _ _ _).2.2.1 h
    · intro h
      rw [e_279_3] at h
      refine K_of b_279_186 h_279_186 ?_
      refine q_iload rfl ?_
      refine q_aload rfl ?_
      obtain ⟨d_189, h⟩ := ite_some h
      obtain ⟨⟨x0_189, I0_189, L0_189⟩, e_189, h⟩ := Option.bind_eq_some_iff.mp h
      dsimp only at h
      refine q_fv1I (a_198 X hS (d := d - 1) (by omega) e_189) (by omega) (Nat.le_refl _) (Nat.le_refl _) rfl (Nat.le_of_ble_eq_true rfl) ⟨(zl hS 105 (by decide)), congrArg Prod.fst (sk hS 105 (by decide) rfl), by decide⟩ ?_
      refine q_icmp_ge (fun c_192 => ?_) (fun c_192 => ?_)
      · rw [if_pos c_192] at h
        refine K_of b_279_225 h_279_225 ?_
        refine q_iload rfl ?_
        refine q_if_ne (fun c_226 => ?_) (fun c_226 => ?_)
        · rw [if_neg c_226] at h
          refine K_of b_279_233 h_279_233 ?_
          refine q_iload rfl ?_
          refine q_iconst (1) (by decide) ?_
          refine q_icmp_ne (fun c_235 => ?_) (fun c_235 => ?_)
          · rw [if_neg c_235] at h
            refine K_of b_279_247 h_279_247 ?_
            refine q_iload rfl ?_
            refine q_iconst (2) (by decide) ?_
            refine q_icmp_ne (fun c_249 => ?_) (fun c_249 => ?_)
            · rw [if_neg c_249] at h
              refine K_of b_279_256 h_279_256 ?_
              refine q_iload rfl ?_
              refine q_end ?_
              refine K_of b_279_258 h_279_258 ?_
              cases h
              exact q_iret rfl (Nat.le_refl _) (Nat.le_refl _) ⟨rfl, rfl⟩
            · rw [if_pos c_249] at h
              refine q_iload rfl ?_
              refine q_goto ?_
              refine K_of b_279_258 h_279_258 ?_
              cases h
              exact q_iret rfl (Nat.le_refl _) (Nat.le_refl _) ⟨rfl, rfl⟩
          · rw [if_pos c_235] at h
            refine q_aload rfl ?_
            refine q_getI (c0 := 12) (j := 53) rfl rfl (zl hS 105 (by decide)) (sk hS 105 (by decide) rfl) (Or.inl rfl) (by decide) ?_
            refine q_iload rfl ?_
            refine q_isub ?_
            refine q_goto ?_
            refine K_of b_279_258 h_279_258 ?_
            cases h
            exact q_iret rfl (Nat.le_refl _) (Nat.le_refl _) ⟨rfl, rfl⟩
        · rw [if_pos c_226] at h
          refine q_iload rfl ?_
          refine q_goto ?_
          refine K_of b_279_258 h_279_258 ?_
          cases h
          exact q_iret rfl (Nat.le_refl _) (Nat.le_refl _) ⟨rfl, rfl⟩
      · rw [if_neg c_192] at h
        refine q_iload rfl ?_
        refine q_aload rfl ?_
        refine q_iload rfl ?_
        obtain ⟨d_199, h⟩ := ite_some h
        obtain ⟨⟨x1_199, I1_199, L1_199⟩, e_199, h⟩ := Option.bind_eq_some_iff.mp h
        dsimp only at h
        refine q_fv2I (a_281 X hS (d := d - 1) (by omega) e_199) (by omega) (Nat.le_refl _) (Nat.le_refl _) rfl (Nat.le_of_ble_eq_true rfl) ⟨(zl hS 105 (by decide)), congrArg Prod.fst (sk hS 105 (by decide) rfl), by decide⟩ ?_
        refine q_aload rfl ?_
        refine q_getRs (c0 := 12) (j := 55) rfl rfl (zl hS 105 (by decide)) (sk hS 105 (by decide) rfl) rfl (by decide) (r_105_55 hS) ?_
        refine q_iload rfl ?_
        obtain ⟨⟨u_208, v_208⟩, h⟩ := ite_some h
        refine q_ialN (Int32.toNatClampNeg i5) (nx u_208) (zl hS 134 (by decide)) (sk hS 134 (by decide) rfl) v_208 (by decide) ?_
        refine q_icmp_eq (fun c_209 => ?_) (fun c_209 => ?_)
        · rw [if_pos c_209] at h
          refine K_of b_279_216 h_279_216 ?_
          refine q_iconst (0) (by decide) ?_
          refine q_end ?_
          refine K_of b_279_217 h_279_217 ?_
          refine q_iadd ?_
          refine q_istore (Nat.le_of_ble_eq_true rfl) rfl ?_
          refine q_iinc rfl rfl ?_
          refine q_goto ?_
          exact (ih dp d hdp _ _ i1 i2 (i3 + (0 : Int32)) i4 (i5 + Int32.ofInt (1)) 0 0 _ _ _).2.2.2 h
        · rw [if_neg c_209] at h
          refine q_iconst (1) (by decide) ?_
          refine q_goto ?_
          refine K_of b_279_217 h_279_217 ?_
          refine q_iadd ?_
          refine q_istore (Nat.le_of_ble_eq_true rfl) rfl ?_
          refine q_iinc rfl rfl ?_
          refine q_goto ?_
          exact (ih dp d hdp _ _ i1 i2 (i3 + (1 : Int32)) i4 (i5 + Int32.ofInt (1)) 0 0 _ _ _).2.2.2 h
theorem a_279 (X : GX) {z : Nat} {kd : Nat → Nat × Nat} {Rf : Nat → Nat → Option Nat} (hS : Sh z kd Rf) {n dp d : Nat} (hd : dp ≤ d) {I : (Nat → Nat → Int32)} {L : (Nat → Nat → Int64)} {i1 : Int32} {I1 : (Nat → Nat → Int32)} {L1 : (Nat → Nat → Int64)} {r : Int32} (h : g_279 n dp (z, kd, Rf) 0 I L i1 0 0 0 0 0 0 = some (r, I1, L1)) : Ct X d 279 0 0 [.ref 105, .int i1] (z, kd, I, L, Rf) (AI (fun x τ => x = r ∧ τ = (z, kd, I1, L1, Rf))) :=
  Ct_of mu_279 (Nat.le_of_ble_eq_true rfl) ((w_279 X hS n dp d hd I L i1 0 0 0 0 0 0 _ _ _).1 h)

/-! 284 CutFloorModel.comes(III)I -/
set_option maxHeartbeats 4000000 in
set_option maxRecDepth 100000 in
def g_284 : Nat → Nat → EN → Nat → (Nat → Nat → Int32) → (Nat → Nat → Int64) → Int32 → Int32 → Int32 → Int32 → Int32 → Int32 →  Option (Int32 × (Nat → Nat → Int32) × (Nat → Nat → Int64))
  | 0, _, _, _, _, _, _, _, _, _, _, _ => none
  | n + 1, dp, e, lab, I, L, i1, i2, i3, i4, i5, i6 =>
    if lab = 0 then (g_284 n dp e 1 I L i1 i2 i3 (0 : Int32) 0 0)
    else if lab = 1 then (if (10 : Int32) ≤ i4 then (g_284 n dp e 2 I L i1 i2 i3 (0 : Int32) 0 0) else (if i4 = 0 then (if 0 ≤ i4 ∧ (Int32.toNatClampNeg i4) < 110 then (stI (u2 I 124 (Int32.toNatClampNeg i4) (1 : Int32)) (fun I_26 => (g_284 n dp e 1 I_26 L i1 i2 i3 (i4 + Int32.ofInt (1)) 0 0))) else none) else (if 0 ≤ i4 ∧ (Int32.toNatClampNeg i4) < 110 then (stI (u2 I 124 (Int32.toNatClampNeg i4) (0 : Int32)) (fun I_26 => (g_284 n dp e 1 I_26 L i1 i2 i3 (i4 + Int32.ofInt (1)) 0 0))) else none)))
    else if lab = 2 then (if i3 ≤ i4 then (if 0 ≤ i3 ∧ (Int32.toNatClampNeg i3) < 110 then (some ((I 124 (Int32.toNatClampNeg i3)), I, L)) else none) else (if 0 ≤ ((((640 : Int32) * i1) + ((10 : Int32) * i2)) + i4) ∧ (Int32.toNatClampNeg ((((640 : Int32) * i1) + ((10 : Int32) * i2)) + i4)) < 1920 then (stI (I 121 (Int32.toNatClampNeg ((((640 : Int32) * i1) + ((10 : Int32) * i2)) + i4))) (fun v_60 => (g_284 n dp e 3 I L i1 i2 i3 i4 v_60 (i4 + (1 : Int32))))) else none))
    else if lab = 3 then (if (10 : Int32) ≤ i6 then (g_284 n dp e 4 I L i1 i2 i3 i4 i5 i6) else (if i5 = (-1 : Int32) then (g_284 n dp e 4 I L i1 i2 i3 i4 i5 i6) else (if 0 ≤ i6 ∧ (Int32.toNatClampNeg i6) < 110 then (if 0 ≤ i4 ∧ (Int32.toNatClampNeg i4) < 110 then (if 1 ≤ dp then (g_241 n (dp - 1) e 0 I L i5 i6).bind (fun ⟨x0_101, I0_101, L0_101⟩ => (if 0 ≤ i6 ∧ (Int32.toNatClampNeg i6) < 110 then (stI (u2 I0_101 124 (Int32.toNatClampNeg i6) ((I 124 (Int32.toNatClampNeg i6)) + ((I 124 (Int32.toNatClampNeg i4)) * x0_101))) (fun I_106 => (g_284 n dp e 3 I_106 L0_101 i1 i2 i3 i4 i5 (i6 + Int32.ofInt (1))))) else none)) else none) else none) else none)))
    else if lab = 4 then (g_284 n dp e 2 I L i1 i2 i3 (i4 + Int32.ofInt (1)) 0 0)
    else none
set_option maxRecDepth 100000 in
theorem e_284_0 (n dp : Nat) (e : EN) (I : (Nat → Nat → Int32)) (L : (Nat → Nat → Int64)) (i1 : Int32) (i2 : Int32) (i3 : Int32) (i4 : Int32) (i5 : Int32) (i6 : Int32) : g_284 (n + 1) dp e 0 I L i1 i2 i3 i4 i5 i6 = (g_284 n dp e 1 I L i1 i2 i3 (0 : Int32) 0 0) := by rw [g_284.eq_2, if_pos (show (0 : Nat) = 0 from rfl)]
set_option maxRecDepth 100000 in
theorem e_284_1 (n dp : Nat) (e : EN) (I : (Nat → Nat → Int32)) (L : (Nat → Nat → Int64)) (i1 : Int32) (i2 : Int32) (i3 : Int32) (i4 : Int32) (i5 : Int32) (i6 : Int32) : g_284 (n + 1) dp e 1 I L i1 i2 i3 i4 i5 i6 = (if (10 : Int32) ≤ i4 then (g_284 n dp e 2 I L i1 i2 i3 (0 : Int32) 0 0) else (if i4 = 0 then (if 0 ≤ i4 ∧ (Int32.toNatClampNeg i4) < 110 then (stI (u2 I 124 (Int32.toNatClampNeg i4) (1 : Int32)) (fun I_26 => (g_284 n dp e 1 I_26 L i1 i2 i3 (i4 + Int32.ofInt (1)) 0 0))) else none) else (if 0 ≤ i4 ∧ (Int32.toNatClampNeg i4) < 110 then (stI (u2 I 124 (Int32.toNatClampNeg i4) (0 : Int32)) (fun I_26 => (g_284 n dp e 1 I_26 L i1 i2 i3 (i4 + Int32.ofInt (1)) 0 0))) else none))) := by rw [g_284.eq_2, if_neg (show ¬ ((1 : Nat) = 0) by decide), if_pos (show (1 : Nat) = 1 from rfl)]
set_option maxRecDepth 100000 in
theorem e_284_2 (n dp : Nat) (e : EN) (I : (Nat → Nat → Int32)) (L : (Nat → Nat → Int64)) (i1 : Int32) (i2 : Int32) (i3 : Int32) (i4 : Int32) (i5 : Int32) (i6 : Int32) : g_284 (n + 1) dp e 2 I L i1 i2 i3 i4 i5 i6 = (if i3 ≤ i4 then (if 0 ≤ i3 ∧ (Int32.toNatClampNeg i3) < 110 then (some ((I 124 (Int32.toNatClampNeg i3)), I, L)) else none) else (if 0 ≤ ((((640 : Int32) * i1) + ((10 : Int32) * i2)) + i4) ∧ (Int32.toNatClampNeg ((((640 : Int32) * i1) + ((10 : Int32) * i2)) + i4)) < 1920 then (stI (I 121 (Int32.toNatClampNeg ((((640 : Int32) * i1) + ((10 : Int32) * i2)) + i4))) (fun v_60 => (g_284 n dp e 3 I L i1 i2 i3 i4 v_60 (i4 + (1 : Int32))))) else none)) := by rw [g_284.eq_2, if_neg (show ¬ ((2 : Nat) = 0) by decide), if_neg (show ¬ ((2 : Nat) = 1) by decide), if_pos (show (2 : Nat) = 2 from rfl)]
set_option maxRecDepth 100000 in
theorem e_284_3 (n dp : Nat) (e : EN) (I : (Nat → Nat → Int32)) (L : (Nat → Nat → Int64)) (i1 : Int32) (i2 : Int32) (i3 : Int32) (i4 : Int32) (i5 : Int32) (i6 : Int32) : g_284 (n + 1) dp e 3 I L i1 i2 i3 i4 i5 i6 = (if (10 : Int32) ≤ i6 then (g_284 n dp e 4 I L i1 i2 i3 i4 i5 i6) else (if i5 = (-1 : Int32) then (g_284 n dp e 4 I L i1 i2 i3 i4 i5 i6) else (if 0 ≤ i6 ∧ (Int32.toNatClampNeg i6) < 110 then (if 0 ≤ i4 ∧ (Int32.toNatClampNeg i4) < 110 then (if 1 ≤ dp then (g_241 n (dp - 1) e 0 I L i5 i6).bind (fun ⟨x0_101, I0_101, L0_101⟩ => (if 0 ≤ i6 ∧ (Int32.toNatClampNeg i6) < 110 then (stI (u2 I0_101 124 (Int32.toNatClampNeg i6) ((I 124 (Int32.toNatClampNeg i6)) + ((I 124 (Int32.toNatClampNeg i4)) * x0_101))) (fun I_106 => (g_284 n dp e 3 I_106 L0_101 i1 i2 i3 i4 i5 (i6 + Int32.ofInt (1))))) else none)) else none) else none) else none))) := by rw [g_284.eq_2, if_neg (show ¬ ((3 : Nat) = 0) by decide), if_neg (show ¬ ((3 : Nat) = 1) by decide), if_neg (show ¬ ((3 : Nat) = 2) by decide), if_pos (show (3 : Nat) = 3 from rfl)]
set_option maxRecDepth 100000 in
theorem e_284_4 (n dp : Nat) (e : EN) (I : (Nat → Nat → Int32)) (L : (Nat → Nat → Int64)) (i1 : Int32) (i2 : Int32) (i3 : Int32) (i4 : Int32) (i5 : Int32) (i6 : Int32) : g_284 (n + 1) dp e 4 I L i1 i2 i3 i4 i5 i6 = (g_284 n dp e 2 I L i1 i2 i3 (i4 + Int32.ofInt (1)) 0 0) := by rw [g_284.eq_2, if_neg (show ¬ ((4 : Nat) = 0) by decide), if_neg (show ¬ ((4 : Nat) = 1) by decide), if_neg (show ¬ ((4 : Nat) = 2) by decide), if_neg (show ¬ ((4 : Nat) = 3) by decide), if_pos (show (4 : Nat) = 4 from rfl)]
set_option maxHeartbeats 8000000 in
set_option maxRecDepth 100000 in
theorem w_284 (X : GX) {z : Nat} {kd : Nat → Nat × Nat} {Rf : Nat → Nat → Option Nat} (hS : Sh z kd Rf) : ∀ (n dp d : Nat), dp ≤ d → ∀ (I : (Nat → Nat → Int32)) (L : (Nat → Nat → Int64)) (i1 : Int32) (i2 : Int32) (i3 : Int32) (i4 : Int32) (i5 : Int32) (i6 : Int32) (r : Int32) (I1 : (Nat → Nat → Int32)) (L1 : (Nat → Nat → Int64)), (g_284 n dp (z, kd, Rf) 0 I L i1 i2 i3 i4 i5 i6 = some (r, I1, L1) → K X d 284 0 0 (AI (fun x τ => x = r ∧ τ = (z, kd, I1, L1, Rf))) 0 [some (.ref 105), some (.int i1), some (.int i2), some (.int i3), none, none, none] [] (z, kd, I, L, Rf) 0 0) ∧
    (g_284 n dp (z, kd, Rf) 1 I L i1 i2 i3 i4 i5 i6 = some (r, I1, L1) → K X d 284 0 0 (AI (fun x τ => x = r ∧ τ = (z, kd, I1, L1, Rf))) 3 [some (.ref 105), some (.int i1), some (.int i2), some (.int i3), some (.int i4), none, none] [] (z, kd, I, L, Rf) 0 0) ∧
    (g_284 n dp (z, kd, Rf) 2 I L i1 i2 i3 i4 i5 i6 = some (r, I1, L1) → K X d 284 0 0 (AI (fun x τ => x = r ∧ τ = (z, kd, I1, L1, Rf))) 36 [some (.ref 105), some (.int i1), some (.int i2), some (.int i3), some (.int i4), none, none] [] (z, kd, I, L, Rf) 0 0) ∧
    (g_284 n dp (z, kd, Rf) 3 I L i1 i2 i3 i4 i5 i6 = some (r, I1, L1) → K X d 284 0 0 (AI (fun x τ => x = r ∧ τ = (z, kd, I1, L1, Rf))) 68 [some (.ref 105), some (.int i1), some (.int i2), some (.int i3), some (.int i4), some (.int i5), some (.int i6)] [] (z, kd, I, L, Rf) 0 0) ∧
    (g_284 n dp (z, kd, Rf) 4 I L i1 i2 i3 i4 i5 i6 = some (r, I1, L1) → K X d 284 0 0 (AI (fun x τ => x = r ∧ τ = (z, kd, I1, L1, Rf))) 113 [some (.ref 105), some (.int i1), some (.int i2), some (.int i3), some (.int i4), some (.int i5), some (.int i6)] [] (z, kd, I, L, Rf) 0 0) := by
  intro n
  induction n with
  | zero => intro dp d hdp I L i1 i2 i3 i4 i5 i6 r I1 L1; exact ⟨(fun h => by cases h), (fun h => by cases h), (fun h => by cases h), (fun h => by cases h), (fun h => by cases h)⟩
  | succ n ih =>
    intro dp d hdp I L i1 i2 i3 i4 i5 i6 r I1 L1
    refine ⟨?_, ?_, ?_, ?_, ?_⟩
    · intro h
      rw [e_284_0] at h
      refine K_of b_284_0 h_284_0 ?_
      refine q_iconst (0) (by decide) ?_
      refine q_istore (Nat.le_of_ble_eq_true rfl) rfl ?_
      refine q_end ?_
      exact (ih dp d hdp _ _ i1 i2 i3 (0 : Int32) 0 0 _ _ _).2.1 h
    · intro h
      rw [e_284_1] at h
      refine K_of b_284_3 h_284_3 ?_
      refine q_iload rfl ?_
      refine q_iconst (10) (by decide) ?_
      refine q_icmp_ge (fun c_7 => ?_) (fun c_7 => ?_)
      · rw [if_pos c_7] at h
        refine K_of b_284_33 h_284_33 ?_
        refine q_iconst (0) (by decide) ?_
        refine q_istore (Nat.le_of_ble_eq_true rfl) rfl ?_
        refine q_end ?_
        exact (ih dp d hdp _ _ i1 i2 i3 (0 : Int32) 0 0 _ _ _).2.2.1 h
      · rw [if_neg c_7] at h
        refine q_aload rfl ?_
        refine q_getRs (c0 := 12) (j := 37) rfl rfl (zl hS 105 (by decide)) (sk hS 105 (by decide) rfl) rfl (by decide) (r_105_37 hS) ?_
        refine q_iload rfl ?_
        refine q_iload rfl ?_
        refine q_if_ne (fun c_18 => ?_) (fun c_18 => ?_)
        · rw [if_neg c_18] at h
          refine K_of b_284_25 h_284_25 ?_
          refine q_iconst (0) (by decide) ?_
          refine q_end ?_
          refine K_of b_284_26 h_284_26 ?_
          obtain ⟨⟨u_26, v_26⟩, h⟩ := ite_some h
          refine q_iasN (Int32.toNatClampNeg i4) (nx u_26) (zl hS 124 (by decide)) (sk hS 124 (by decide) rfl) v_26 (by decide) ?_
          obtain ⟨I_26, nI_26, h⟩ := stI_some h
          refine q_nI nI_26 ?_
          refine q_iinc rfl rfl ?_
          refine q_goto ?_
          exact (ih dp d hdp _ _ i1 i2 i3 (i4 + Int32.ofInt (1)) 0 0 _ _ _).2.1 h
        · rw [if_pos c_18] at h
          refine q_iconst (1) (by decide) ?_
          refine q_goto ?_
          refine K_of b_284_26 h_284_26 ?_
          obtain ⟨⟨u_26, v_26⟩, h⟩ := ite_some h
          refine q_iasN (Int32.toNatClampNeg i4) (nx u_26) (zl hS 124 (by decide)) (sk hS 124 (by decide) rfl) v_26 (by decide) ?_
          obtain ⟨I_26, nI_26, h⟩ := stI_some h
          refine q_nI nI_26 ?_
          refine q_iinc rfl rfl ?_
          refine q_goto ?_
          exact (ih dp d hdp _ _ i1 i2 i3 (i4 + Int32.ofInt (1)) 0 0 _ _ _).2.1 h
    · intro h
      rw [e_284_2] at h
      refine K_of b_284_36 h_284_36 ?_
      refine q_iload rfl ?_
      refine q_iload rfl ?_
      refine q_icmp_ge (fun c_39 => ?_) (fun c_39 => ?_)
      · rw [if_pos c_39] at h
        refine K_of b_284_119 h_284_119 ?_
        refine q_aload rfl ?_
        refine q_getRs (c0 := 12) (j := 37) rfl rfl (zl hS 105 (by decide)) (sk hS 105 (by decide) rfl) rfl (by decide) (r_105_37 hS) ?_
        refine q_iload rfl ?_
        obtain ⟨⟨u_124, v_124⟩, h⟩ := ite_some h
        refine q_ialN (Int32.toNatClampNeg i3) (nx u_124) (zl hS 124 (by decide)) (sk hS 124 (by decide) rfl) v_124 (by decide) ?_
        cases h
        exact q_iret rfl (Nat.le_refl _) (Nat.le_refl _) ⟨rfl, rfl⟩
      · rw [if_neg c_39] at h
        refine q_aload rfl ?_
        refine q_getRs (c0 := 12) (j := 34) rfl rfl (zl hS 105 (by decide)) (sk hS 105 (by decide) rfl) rfl (by decide) (r_105_34 hS) ?_
        refine q_iconst (640) (by decide) ?_
        refine q_iload rfl ?_
        refine q_imul ?_
        refine q_iconst (10) (by decide) ?_
        refine q_iload rfl ?_
        refine q_imul ?_
        refine q_iadd ?_
        refine q_iload rfl ?_
        refine q_iadd ?_
        obtain ⟨⟨u_59, v_59⟩, h⟩ := ite_some h
        refine q_ialN (Int32.toNatClampNeg ((((640 : Int32) * i1) + ((10 : Int32) * i2)) + i4)) (nx u_59) (zl hS 121 (by decide)) (sk hS 121 (by decide) rfl) v_59 (by decide) ?_
        obtain ⟨v_60, nv_60, h⟩ := stI_some h
        refine q_eqi nv_60.symm ?_
        refine q_istore (Nat.le_of_ble_eq_true rfl) rfl ?_
        refine q_iload rfl ?_
        refine q_iconst (1) (by decide) ?_
        refine q_iadd ?_
        refine q_istore (Nat.le_of_ble_eq_true rfl) rfl ?_
        refine q_end ?_
        exact (ih dp d hdp _ _ i1 i2 i3 i4 v_60 (i4 + (1 : Int32)) _ _ _).2.2.2.1 h
    · intro h
      rw [e_284_3] at h
      refine K_of b_284_68 h_284_68 ?_
      refine q_iload rfl ?_
      refine q_iconst (10) (by decide) ?_
      refine q_icmp_ge (fun c_72 => ?_) (fun c_72 => ?_)
      · rw [if_pos c_72] at h
        exact (ih dp d hdp _ _ i1 i2 i3 i4 i5 i6 _ _ _).2.2.2.2 h
      · rw [if_neg c_72] at h
        refine q_iload rfl ?_
        refine q_iconst (-1) (by decide) ?_
        refine q_icmp_eq (fun c_78 => ?_) (fun c_78 => ?_)
        · rw [if_pos c_78] at h
          exact (ih dp d hdp _ _ i1 i2 i3 i4 i5 i6 _ _ _).2.2.2.2 h
        · rw [if_neg c_78] at h
          refine q_aload rfl ?_
          refine q_getRs (c0 := 12) (j := 37) rfl rfl (zl hS 105 (by decide)) (sk hS 105 (by decide) rfl) rfl (by decide) (r_105_37 hS) ?_
          refine q_iload rfl ?_
          refine q_dup2 rfl rfl ?_
          obtain ⟨⟨u_88, v_88⟩, h⟩ := ite_some h
          refine q_ialN (Int32.toNatClampNeg i6) (nx u_88) (zl hS 124 (by decide)) (sk hS 124 (by decide) rfl) v_88 (by decide) ?_
          refine q_aload rfl ?_
          refine q_getRs (c0 := 12) (j := 37) rfl rfl (zl hS 105 (by decide)) (sk hS 105 (by decide) rfl) rfl (by decide) (r_105_37 hS) ?_
          refine q_iload rfl ?_
          obtain ⟨⟨u_95, v_95⟩, h⟩ := ite_some h
          refine q_ialN (Int32.toNatClampNeg i4) (nx u_95) (zl hS 124 (by decide)) (sk hS 124 (by decide) rfl) v_95 (by decide) ?_
          refine q_aload rfl ?_
          refine q_iload rfl ?_
          refine q_iload rfl ?_
          obtain ⟨d_101, h⟩ := ite_some h
          obtain ⟨⟨x0_101, I0_101, L0_101⟩, e_101, h⟩ := Option.bind_eq_some_iff.mp h
          dsimp only at h
          refine q_fv3I (a_241 X hS (d := d - 1) (by omega) e_101) (by omega) (Nat.le_refl _) (Nat.le_refl _) rfl (Nat.le_of_ble_eq_true rfl) ⟨(zl hS 105 (by decide)), congrArg Prod.fst (sk hS 105 (by decide) rfl), by decide⟩ ?_
          refine q_imul ?_
          refine q_iadd ?_
          obtain ⟨⟨u_106, v_106⟩, h⟩ := ite_some h
          refine q_iasN (Int32.toNatClampNeg i6) (nx u_106) (zl hS 124 (by decide)) (sk hS 124 (by decide) rfl) v_106 (by decide) ?_
          obtain ⟨I_106, nI_106, h⟩ := stI_some h
          refine q_nI nI_106 ?_
          refine q_iinc rfl rfl ?_
          refine q_goto ?_
          exact (ih dp d hdp _ _ i1 i2 i3 i4 i5 (i6 + Int32.ofInt (1)) _ _ _).2.2.2.1 h
    · intro h
      rw [e_284_4] at h
      refine K_of b_284_113 h_284_113 ?_
      refine q_iinc rfl rfl ?_
      refine q_goto ?_
      refine K_mask [true, true, true, true, true, false, false] (Nat.le_of_ble_eq_true rfl) ?_
      exact (ih dp d hdp _ _ i1 i2 i3 (i4 + Int32.ofInt (1)) 0 0 _ _ _).2.2.1 h
theorem a_284 (X : GX) {z : Nat} {kd : Nat → Nat × Nat} {Rf : Nat → Nat → Option Nat} (hS : Sh z kd Rf) {n dp d : Nat} (hd : dp ≤ d) {I : (Nat → Nat → Int32)} {L : (Nat → Nat → Int64)} {i1 : Int32} {i2 : Int32} {i3 : Int32} {I1 : (Nat → Nat → Int32)} {L1 : (Nat → Nat → Int64)} {r : Int32} (h : g_284 n dp (z, kd, Rf) 0 I L i1 i2 i3 0 0 0 = some (r, I1, L1)) : Ct X d 284 0 0 [.ref 105, .int i1, .int i2, .int i3] (z, kd, I, L, Rf) (AI (fun x τ => x = r ∧ τ = (z, kd, I1, L1, Rf))) :=
  Ct_of mu_284 (Nat.le_of_ble_eq_true rfl) ((w_284 X hS n dp d hd I L i1 i2 i3 0 0 0 _ _ _).1 h)

