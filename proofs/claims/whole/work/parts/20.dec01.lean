/-! 54 CutFloor$Reader.isNumber(II)Z -/
set_option maxHeartbeats 4000000 in
set_option maxRecDepth 100000 in
def g_54 : Nat → Nat → EN → Nat → (Nat → Nat → Int32) → (Nat → Nat → Int64) → Int32 → Int32 →  Option (Int32 × (Nat → Nat → Int32) × (Nat → Nat → Int64))
  | 0, _, _, _, _, _, _, _ => none
  | n + 1, dp, e, lab, I, L, i1, i2 =>
    if lab = 0 then (if (I 104 3) = (2 : Int32) then (if (I 104 6) < i1 then (some ((0 : Int32), I, L)) else (if i2 < (I 104 6) then (some ((0 : Int32), I, L)) else (some ((1 : Int32), I, L)))) else (some ((0 : Int32), I, L)))
    else none
set_option maxRecDepth 100000 in
theorem e_54_0 (n dp : Nat) (e : EN) (I : (Nat → Nat → Int32)) (L : (Nat → Nat → Int64)) (i1 : Int32) (i2 : Int32) : g_54 (n + 1) dp e 0 I L i1 i2 = (if (I 104 3) = (2 : Int32) then (if (I 104 6) < i1 then (some ((0 : Int32), I, L)) else (if i2 < (I 104 6) then (some ((0 : Int32), I, L)) else (some ((1 : Int32), I, L)))) else (some ((0 : Int32), I, L))) := by rw [g_54.eq_2, if_pos (show (0 : Nat) = 0 from rfl)]
set_option maxHeartbeats 8000000 in
set_option maxRecDepth 100000 in
theorem w_54 (X : GX) {z : Nat} {kd : Nat → Nat × Nat} {Rf : Nat → Nat → Option Nat} (hS : Sh z kd Rf) : ∀ (n dp d : Nat), dp ≤ d → ∀ (I : (Nat → Nat → Int32)) (L : (Nat → Nat → Int64)) (i1 : Int32) (i2 : Int32) (r : Int32) (I1 : (Nat → Nat → Int32)) (L1 : (Nat → Nat → Int64)), (g_54 n dp (z, kd, Rf) 0 I L i1 i2 = some (r, I1, L1) → K X d 54 0 0 (AI (fun x τ => x = r ∧ τ = (z, kd, I1, L1, Rf))) 0 [some (.ref 104), some (.int i1), some (.int i2)] [] (z, kd, I, L, Rf) 0 0) := by
  intro n
  induction n with
  | zero => intro dp d hdp I L i1 i2 r I1 L1; exact fun h => by cases h
  | succ n ih =>
    intro dp d hdp I L i1 i2 r I1 L1
    · intro h
      rw [e_54_0] at h
      refine K_of b_54_0 h_54_0 ?_
      refine q_aload rfl ?_
      refine q_getI (c0 := 8) (j := 3) rfl rfl (zl hS 104 (by decide)) (sk hS 104 (by decide) rfl) (Or.inl rfl) (by decide) ?_
      refine q_iconst (2) (by decide) ?_
      refine q_icmp_ne (fun c_5 => ?_) (fun c_5 => ?_)
      · rw [if_neg c_5] at h
        refine K_of b_54_28 h_54_28 ?_
        refine q_iconst (0) (by decide) ?_
        refine q_end ?_
        refine K_of b_54_29 h_54_29 ?_
        cases h
        exact q_iret rfl (Nat.le_refl _) (Nat.le_refl _) ⟨rfl, rfl⟩
      · rw [if_pos c_5] at h
        refine q_aload rfl ?_
        refine q_getI (c0 := 8) (j := 6) rfl rfl (zl hS 104 (by decide)) (sk hS 104 (by decide) rfl) (Or.inl rfl) (by decide) ?_
        refine q_iload rfl ?_
        refine q_icmp_lt (fun c_13 => ?_) (fun c_13 => ?_)
        · rw [if_pos c_13] at h
          refine K_of b_54_28 h_54_28 ?_
          refine q_iconst (0) (by decide) ?_
          refine q_end ?_
          refine K_of b_54_29 h_54_29 ?_
          cases h
          exact q_iret rfl (Nat.le_refl _) (Nat.le_refl _) ⟨rfl, rfl⟩
        · rw [if_neg c_13] at h
          refine q_aload rfl ?_
          refine q_getI (c0 := 8) (j := 6) rfl rfl (zl hS 104 (by decide)) (sk hS 104 (by decide) rfl) (Or.inl rfl) (by decide) ?_
          refine q_iload rfl ?_
          refine q_icmp_gt (fun c_21 => ?_) (fun c_21 => ?_)
          · rw [if_pos c_21] at h
            refine K_of b_54_28 h_54_28 ?_
            refine q_iconst (0) (by decide) ?_
            refine q_end ?_
            refine K_of b_54_29 h_54_29 ?_
            cases h
            exact q_iret rfl (Nat.le_refl _) (Nat.le_refl _) ⟨rfl, rfl⟩
          · rw [if_neg c_21] at h
            refine q_iconst (1) (by decide) ?_
            refine q_goto ?_
            refine K_of b_54_29 h_54_29 ?_
            cases h
            exact q_iret rfl (Nat.le_refl _) (Nat.le_refl _) ⟨rfl, rfl⟩
theorem a_54 (X : GX) {z : Nat} {kd : Nat → Nat × Nat} {Rf : Nat → Nat → Option Nat} (hS : Sh z kd Rf) {n dp d : Nat} (hd : dp ≤ d) {I : (Nat → Nat → Int32)} {L : (Nat → Nat → Int64)} {i1 : Int32} {i2 : Int32} {I1 : (Nat → Nat → Int32)} {L1 : (Nat → Nat → Int64)} {r : Int32} (h : g_54 n dp (z, kd, Rf) 0 I L i1 i2 = some (r, I1, L1)) : Ct X d 54 0 0 [.ref 104, .int i1, .int i2] (z, kd, I, L, Rf) (AI (fun x τ => x = r ∧ τ = (z, kd, I1, L1, Rf))) :=
  Ct_of mu_54 (Nat.le_of_ble_eq_true rfl) ((w_54 X hS n dp d hd I L i1 i2 _ _ _) h)

/-! 55 CutFloor$Reader.readPieces(I)Z -/
set_option maxHeartbeats 4000000 in
set_option maxRecDepth 100000 in
def g_55 : Nat → Nat → EN → Nat → (Nat → Nat → Int32) → (Nat → Nat → Int64) → Int32 →  Option (Int32 × (Nat → Nat → Int32) × (Nat → Nat → Int64))
  | 0, _, _, _, _, _, _ => none
  | n + 1, dp, e, lab, I, L, i1 =>
    if lab = 0 then (if 1 ≤ dp then (g_37 n (dp - 1) e 0 I L 0).bind (fun ⟨I0_1, L0_1⟩ => (if 1 ≤ dp then (g_54 n (dp - 1) e 0 I0_1 L0_1 (1 : Int32) (9 : Int32)).bind (fun ⟨x1_8, I1_8, L1_8⟩ => (if x1_8 = 0 then (some ((0 : Int32), I1_8, L1_8)) else (if 1 ≤ dp then (g_37 n (dp - 1) e 0 I1_8 L1_8 0).bind (fun ⟨I2_22, L2_22⟩ => ((e.2.2 104 1).bind (fun b_27 => (if b_27 < e.1 ∧ (e.2.1 b_27).1 = 10 then ((e.2.2 b_27 5).bind (fun b_30 => (if (b_30 < e.1 ∧ (e.2.1 b_30).1 = 13 ∧ (e.2.1 b_30).2 < 2 ^ 31) ∧ 0 ≤ i1 ∧ (Int32.toNatClampNeg i1) < (e.2.1 b_30).2 then (if 1 ≤ dp then (g_54 n (dp - 1) e 0 I2_22 L2_22 ((I2_22 b_30 (Int32.toNatClampNeg i1)) + (1 : Int32)) (9 : Int32)).bind (fun ⟨x3_39, I3_39, L3_39⟩ => (if x3_39 = 0 then (some ((0 : Int32), I3_39, L3_39)) else ((e.2.2 104 1).bind (fun b_48 => (if b_48 < e.1 ∧ (e.2.1 b_48).1 = 10 then ((e.2.2 b_48 7).bind (fun b_51 => (if (b_51 < e.1 ∧ (e.2.1 b_51).1 = 13 ∧ (e.2.1 b_51).2 < 2 ^ 31) ∧ 0 ≤ ((i1 * (10 : Int32)) + (I3_39 104 6)) ∧ (Int32.toNatClampNeg ((i1 * (10 : Int32)) + (I3_39 104 6))) < (e.2.1 b_51).2 then (if (b_51 < e.1 ∧ (e.2.1 b_51).1 = 13 ∧ (e.2.1 b_51).2 < 2 ^ 31) ∧ 0 ≤ ((i1 * (10 : Int32)) + (I3_39 104 6)) ∧ (Int32.toNatClampNeg ((i1 * (10 : Int32)) + (I3_39 104 6))) < (e.2.1 b_51).2 then (stI (u2 I3_39 b_51 (Int32.toNatClampNeg ((i1 * (10 : Int32)) + (I3_39 104 6))) ((I3_39 b_51 (Int32.toNatClampNeg ((i1 * (10 : Int32)) + (I3_39 104 6)))) + (I1_8 104 6))) (fun I_67 => (if 1 ≤ dp then (g_37 n (dp - 1) e 0 I_67 L3_39 0).bind (fun ⟨I4_69, L4_69⟩ => (some ((1 : Int32), I4_69, L4_69))) else none))) else none) else none))) else none))))) else none) else none))) else none)))) else none))) else none)) else none)
    else none
set_option maxRecDepth 100000 in
theorem e_55_0 (n dp : Nat) (e : EN) (I : (Nat → Nat → Int32)) (L : (Nat → Nat → Int64)) (i1 : Int32) : g_55 (n + 1) dp e 0 I L i1 = (if 1 ≤ dp then (g_37 n (dp - 1) e 0 I L 0).bind (fun ⟨I0_1, L0_1⟩ => (if 1 ≤ dp then (g_54 n (dp - 1) e 0 I0_1 L0_1 (1 : Int32) (9 : Int32)).bind (fun ⟨x1_8, I1_8, L1_8⟩ => (if x1_8 = 0 then (some ((0 : Int32), I1_8, L1_8)) else (if 1 ≤ dp then (g_37 n (dp - 1) e 0 I1_8 L1_8 0).bind (fun ⟨I2_22, L2_22⟩ => ((e.2.2 104 1).bind (fun b_27 => (if b_27 < e.1 ∧ (e.2.1 b_27).1 = 10 then ((e.2.2 b_27 5).bind (fun b_30 => (if (b_30 < e.1 ∧ (e.2.1 b_30).1 = 13 ∧ (e.2.1 b_30).2 < 2 ^ 31) ∧ 0 ≤ i1 ∧ (Int32.toNatClampNeg i1) < (e.2.1 b_30).2 then (if 1 ≤ dp then (g_54 n (dp - 1) e 0 I2_22 L2_22 ((I2_22 b_30 (Int32.toNatClampNeg i1)) + (1 : Int32)) (9 : Int32)).bind (fun ⟨x3_39, I3_39, L3_39⟩ => (if x3_39 = 0 then (some ((0 : Int32), I3_39, L3_39)) else ((e.2.2 104 1).bind (fun b_48 => (if b_48 < e.1 ∧ (e.2.1 b_48).1 = 10 then ((e.2.2 b_48 7).bind (fun b_51 => (if (b_51 < e.1 ∧ (e.2.1 b_51).1 = 13 ∧ (e.2.1 b_51).2 < 2 ^ 31) ∧ 0 ≤ ((i1 * (10 : Int32)) + (I3_39 104 6)) ∧ (Int32.toNatClampNeg ((i1 * (10 : Int32)) + (I3_39 104 6))) < (e.2.1 b_51).2 then (if (b_51 < e.1 ∧ (e.2.1 b_51).1 = 13 ∧ (e.2.1 b_51).2 < 2 ^ 31) ∧ 0 ≤ ((i1 * (10 : Int32)) + (I3_39 104 6)) ∧ (Int32.toNatClampNeg ((i1 * (10 : Int32)) + (I3_39 104 6))) < (e.2.1 b_51).2 then (stI (u2 I3_39 b_51 (Int32.toNatClampNeg ((i1 * (10 : Int32)) + (I3_39 104 6))) ((I3_39 b_51 (Int32.toNatClampNeg ((i1 * (10 : Int32)) + (I3_39 104 6)))) + (I1_8 104 6))) (fun I_67 => (if 1 ≤ dp then (g_37 n (dp - 1) e 0 I_67 L3_39 0).bind (fun ⟨I4_69, L4_69⟩ => (some ((1 : Int32), I4_69, L4_69))) else none))) else none) else none))) else none))))) else none) else none))) else none)))) else none))) else none)) else none) := by rw [g_55.eq_2, if_pos (show (0 : Nat) = 0 from rfl)]
set_option maxHeartbeats 8000000 in
set_option maxRecDepth 100000 in
theorem w_55 (X : GX) {z : Nat} {kd : Nat → Nat × Nat} {Rf : Nat → Nat → Option Nat} (hS : Sh z kd Rf) : ∀ (n dp d : Nat), dp ≤ d → ∀ (I : (Nat → Nat → Int32)) (L : (Nat → Nat → Int64)) (i1 : Int32) (r : Int32) (I1 : (Nat → Nat → Int32)) (L1 : (Nat → Nat → Int64)), (g_55 n dp (z, kd, Rf) 0 I L i1 = some (r, I1, L1) → K X d 55 0 0 (AI (fun x τ => x = r ∧ τ = (z, kd, I1, L1, Rf))) 0 [some (.ref 104), some (.int i1), none] [] (z, kd, I, L, Rf) 0 0) := by
  intro n
  induction n with
  | zero => intro dp d hdp I L i1 r I1 L1; exact fun h => by cases h
  | succ n ih =>
    intro dp d hdp I L i1 r I1 L1
    · intro h
      rw [e_55_0] at h
      refine K_of b_55_0 h_55_0 ?_
      refine q_aload rfl ?_
      obtain ⟨d_1, h⟩ := ite_some h
      obtain ⟨⟨I0_1, L0_1⟩, e_1, h⟩ := Option.bind_eq_some_iff.mp h
      dsimp only at h
      refine q_fv1V (a_37 X hS (d := d - 1) (by omega) e_1) (by omega) (Nat.le_refl _) (Nat.le_refl _) rfl (Nat.le_of_ble_eq_true rfl) ⟨(zl hS 104 (by decide)), congrArg Prod.fst (sk hS 104 (by decide) rfl), by decide⟩ ?_
      refine q_aload rfl ?_
      refine q_iconst (1) (by decide) ?_
      refine q_iconst (9) (by decide) ?_
      obtain ⟨d_8, h⟩ := ite_some h
      obtain ⟨⟨x1_8, I1_8, L1_8⟩, e_8, h⟩ := Option.bind_eq_some_iff.mp h
      dsimp only at h
      refine q_fv3I (a_54 X hS (d := d - 1) (by omega) e_8) (by omega) (Nat.le_refl _) (Nat.le_refl _) rfl (Nat.le_of_ble_eq_true rfl) ⟨(zl hS 104 (by decide)), congrArg Prod.fst (sk hS 104 (by decide) rfl), by decide⟩ ?_
      refine q_if_ne (fun c_11 => ?_) (fun c_11 => ?_)
      · rw [if_neg c_11] at h
        refine K_of b_55_16 h_55_16 ?_
        refine q_aload rfl ?_
        refine q_getI (c0 := 8) (j := 6) rfl rfl (zl hS 104 (by decide)) (sk hS 104 (by decide) rfl) (Or.inl rfl) (by decide) ?_
        refine q_istore (ls1 := [some (.ref 104), some (.int i1), some (.int (I1_8 104 6))]) (Nat.le_of_ble_eq_true rfl) rfl ?_
        refine q_aload rfl ?_
        obtain ⟨d_22, h⟩ := ite_some h
        obtain ⟨⟨I2_22, L2_22⟩, e_22, h⟩ := Option.bind_eq_some_iff.mp h
        dsimp only at h
        refine q_fv1V (a_37 X hS (d := d - 1) (by omega) e_22) (by omega) (Nat.le_refl _) (Nat.le_refl _) rfl (Nat.le_of_ble_eq_true rfl) ⟨(zl hS 104 (by decide)), congrArg Prod.fst (sk hS 104 (by decide) rfl), by decide⟩ ?_
        refine q_aload rfl ?_
        refine q_aload rfl ?_
        obtain ⟨b_27, r_27, h⟩ := Option.bind_eq_some_iff.mp h
        refine q_getRs (c0 := 8) (j := 1) rfl rfl (zl hS 104 (by decide)) (sk hS 104 (by decide) rfl) rfl (by decide) r_27 ?_
        obtain ⟨⟨z_30, k_30⟩, h⟩ := ite_some h
        obtain ⟨b_30, r_30, h⟩ := Option.bind_eq_some_iff.mp h
        refine q_getRs (c0 := 10) (j := 5) rfl rfl z_30 (fst_eq k_30) rfl (by decide) r_30 ?_
        refine q_iload rfl ?_
        obtain ⟨⟨⟨z_34, k_34, m_34⟩, u_34, v_34⟩, h⟩ := ite_some h
        refine q_ialN (Int32.toNatClampNeg i1) (nx u_34) z_34 (fst_eq k_34) v_34 m_34 ?_
        refine q_iconst (1) (by decide) ?_
        refine q_iadd ?_
        refine q_iconst (9) (by decide) ?_
        obtain ⟨d_39, h⟩ := ite_some h
        obtain ⟨⟨x3_39, I3_39, L3_39⟩, e_39, h⟩ := Option.bind_eq_some_iff.mp h
        dsimp only at h
        refine q_fv3I (a_54 X hS (d := d - 1) (by omega) e_39) (by omega) (Nat.le_refl _) (Nat.le_refl _) rfl (Nat.le_of_ble_eq_true rfl) ⟨(zl hS 104 (by decide)), congrArg Prod.fst (sk hS 104 (by decide) rfl), by decide⟩ ?_
        refine q_if_ne (fun c_42 => ?_) (fun c_42 => ?_)
        · rw [if_neg c_42] at h
          refine K_of b_55_47 h_55_47 ?_
          refine q_aload rfl ?_
          obtain ⟨b_48, r_48, h⟩ := Option.bind_eq_some_iff.mp h
          refine q_getRs (c0 := 8) (j := 1) rfl rfl (zl hS 104 (by decide)) (sk hS 104 (by decide) rfl) rfl (by decide) r_48 ?_
          obtain ⟨⟨z_51, k_51⟩, h⟩ := ite_some h
          obtain ⟨b_51, r_51, h⟩ := Option.bind_eq_some_iff.mp h
          refine q_getRs (c0 := 10) (j := 7) rfl rfl z_51 (fst_eq k_51) rfl (by decide) r_51 ?_
          refine q_iload rfl ?_
          refine q_iconst (10) (by decide) ?_
          refine q_imul ?_
          refine q_aload rfl ?_
          refine q_getI (c0 := 8) (j := 6) rfl rfl (zl hS 104 (by decide)) (sk hS 104 (by decide) rfl) (Or.inl rfl) (by decide) ?_
          refine q_iadd ?_
          refine q_dup2 rfl rfl ?_
          obtain ⟨⟨⟨z_64, k_64, m_64⟩, u_64, v_64⟩, h⟩ := ite_some h
          refine q_ialN (Int32.toNatClampNeg ((i1 * (10 : Int32)) + (I3_39 104 6))) (nx u_64) z_64 (fst_eq k_64) v_64 m_64 ?_
          refine q_iload rfl ?_
          refine q_iadd ?_
          obtain ⟨⟨⟨z_67, k_67, m_67⟩, u_67, v_67⟩, h⟩ := ite_some h
          refine q_iasN (Int32.toNatClampNeg ((i1 * (10 : Int32)) + (I3_39 104 6))) (nx u_67) z_67 (fst_eq k_67) v_67 m_67 ?_
          obtain ⟨I_67, nI_67, h⟩ := stI_some h
          refine q_nI nI_67 ?_
          refine q_aload rfl ?_
          obtain ⟨d_69, h⟩ := ite_some h
          obtain ⟨⟨I4_69, L4_69⟩, e_69, h⟩ := Option.bind_eq_some_iff.mp h
          dsimp only at h
          refine q_fv1V (a_37 X hS (d := d - 1) (by omega) e_69) (by omega) (Nat.le_refl _) (Nat.le_refl _) rfl (Nat.le_of_ble_eq_true rfl) ⟨(zl hS 104 (by decide)), congrArg Prod.fst (sk hS 104 (by decide) rfl), by decide⟩ ?_
          refine q_iconst (1) (by decide) ?_
          cases h
          exact q_iret rfl (Nat.le_refl _) (Nat.le_refl _) ⟨rfl, rfl⟩
        · rw [if_pos c_42] at h
          refine q_iconst (0) (by decide) ?_
          cases h
          exact q_iret rfl (Nat.le_refl _) (Nat.le_refl _) ⟨rfl, rfl⟩
      · rw [if_pos c_11] at h
        refine q_iconst (0) (by decide) ?_
        cases h
        exact q_iret rfl (Nat.le_refl _) (Nat.le_refl _) ⟨rfl, rfl⟩
theorem a_55 (X : GX) {z : Nat} {kd : Nat → Nat × Nat} {Rf : Nat → Nat → Option Nat} (hS : Sh z kd Rf) {n dp d : Nat} (hd : dp ≤ d) {I : (Nat → Nat → Int32)} {L : (Nat → Nat → Int64)} {i1 : Int32} {I1 : (Nat → Nat → Int32)} {L1 : (Nat → Nat → Int64)} {r : Int32} (h : g_55 n dp (z, kd, Rf) 0 I L i1 = some (r, I1, L1)) : Ct X d 55 0 0 [.ref 104, .int i1] (z, kd, I, L, Rf) (AI (fun x τ => x = r ∧ τ = (z, kd, I1, L1, Rf))) :=
  Ct_of mu_55 (Nat.le_of_ble_eq_true rfl) ((w_55 X hS n dp d hd I L i1 _ _ _) h)

/-! 59 CutFloor$Reader.isSign(C)Z -/
set_option maxHeartbeats 4000000 in
set_option maxRecDepth 100000 in
def g_59 : Nat → Nat → EN → Nat → (Nat → Nat → Int32) → (Nat → Nat → Int64) → Int32 →  Option (Int32 × (Nat → Nat → Int32) × (Nat → Nat → Int64))
  | 0, _, _, _, _, _, _ => none
  | n + 1, dp, e, lab, I, L, i1 =>
    if lab = 0 then (if (I 104 3) = (3 : Int32) then (if 0 ≤ (I 104 4) ∧ (Int32.toNatClampNeg (I 104 4)) < 400 then (if (I 89 (Int32.toNatClampNeg (I 104 4))) = i1 then (some ((1 : Int32), I, L)) else (some ((0 : Int32), I, L))) else none) else (some ((0 : Int32), I, L)))
    else none
set_option maxRecDepth 100000 in
theorem e_59_0 (n dp : Nat) (e : EN) (I : (Nat → Nat → Int32)) (L : (Nat → Nat → Int64)) (i1 : Int32) : g_59 (n + 1) dp e 0 I L i1 = (if (I 104 3) = (3 : Int32) then (if 0 ≤ (I 104 4) ∧ (Int32.toNatClampNeg (I 104 4)) < 400 then (if (I 89 (Int32.toNatClampNeg (I 104 4))) = i1 then (some ((1 : Int32), I, L)) else (some ((0 : Int32), I, L))) else none) else (some ((0 : Int32), I, L))) := by rw [g_59.eq_2, if_pos (show (0 : Nat) = 0 from rfl)]
set_option maxHeartbeats 8000000 in
set_option maxRecDepth 100000 in
theorem w_59 (X : GX) {z : Nat} {kd : Nat → Nat × Nat} {Rf : Nat → Nat → Option Nat} (hS : Sh z kd Rf) : ∀ (n dp d : Nat), dp ≤ d → ∀ (I : (Nat → Nat → Int32)) (L : (Nat → Nat → Int64)) (i1 : Int32) (r : Int32) (I1 : (Nat → Nat → Int32)) (L1 : (Nat → Nat → Int64)), (g_59 n dp (z, kd, Rf) 0 I L i1 = some (r, I1, L1) → K X d 59 0 0 (AI (fun x τ => x = r ∧ τ = (z, kd, I1, L1, Rf))) 0 [some (.ref 104), some (.int i1)] [] (z, kd, I, L, Rf) 0 0) := by
  intro n
  induction n with
  | zero => intro dp d hdp I L i1 r I1 L1; exact fun h => by cases h
  | succ n ih =>
    intro dp d hdp I L i1 r I1 L1
    · intro h
      rw [e_59_0] at h
      refine K_of b_59_0 h_59_0 ?_
      refine q_aload rfl ?_
      refine q_getI (c0 := 8) (j := 3) rfl rfl (zl hS 104 (by decide)) (sk hS 104 (by decide) rfl) (Or.inl rfl) (by decide) ?_
      refine q_iconst (3) (by decide) ?_
      refine q_icmp_ne (fun c_5 => ?_) (fun c_5 => ?_)
      · rw [if_neg c_5] at h
        refine K_of b_59_25 h_59_25 ?_
        refine q_iconst (0) (by decide) ?_
        refine q_end ?_
        refine K_of b_59_26 h_59_26 ?_
        cases h
        exact q_iret rfl (Nat.le_refl _) (Nat.le_refl _) ⟨rfl, rfl⟩
      · rw [if_pos c_5] at h
        refine q_aload rfl ?_
        refine q_getRs (c0 := 8) (j := 0) rfl rfl (zl hS 104 (by decide)) (sk hS 104 (by decide) rfl) rfl (by decide) (r_104_0 hS) ?_
        refine q_aload rfl ?_
        refine q_getI (c0 := 8) (j := 4) rfl rfl (zl hS 104 (by decide)) (sk hS 104 (by decide) rfl) (Or.inl rfl) (by decide) ?_
        obtain ⟨⟨u_16, v_16⟩, h⟩ := ite_some h
        refine q_ialN (Int32.toNatClampNeg (I 104 4)) (nx u_16) (zl hS 89 (by decide)) (sk hS 89 (by decide) rfl) v_16 (by decide) ?_
        refine q_iload rfl ?_
        refine q_icmp_ne (fun c_18 => ?_) (fun c_18 => ?_)
        · rw [if_neg c_18] at h
          refine K_of b_59_25 h_59_25 ?_
          refine q_iconst (0) (by decide) ?_
          refine q_end ?_
          refine K_of b_59_26 h_59_26 ?_
          cases h
          exact q_iret rfl (Nat.le_refl _) (Nat.le_refl _) ⟨rfl, rfl⟩
        · rw [if_pos c_18] at h
          refine q_iconst (1) (by decide) ?_
          refine q_goto ?_
          refine K_of b_59_26 h_59_26 ?_
          cases h
          exact q_iret rfl (Nat.le_refl _) (Nat.le_refl _) ⟨rfl, rfl⟩
theorem a_59 (X : GX) {z : Nat} {kd : Nat → Nat × Nat} {Rf : Nat → Nat → Option Nat} (hS : Sh z kd Rf) {n dp d : Nat} (hd : dp ≤ d) {I : (Nat → Nat → Int32)} {L : (Nat → Nat → Int64)} {i1 : Int32} {I1 : (Nat → Nat → Int32)} {L1 : (Nat → Nat → Int64)} {r : Int32} (h : g_59 n dp (z, kd, Rf) 0 I L i1 = some (r, I1, L1)) : Ct X d 59 0 0 [.ref 104, .int i1] (z, kd, I, L, Rf) (AI (fun x τ => x = r ∧ τ = (z, kd, I1, L1, Rf))) :=
  Ct_of mu_59 (Nat.le_of_ble_eq_true rfl) ((w_59 X hS n dp d hd I L i1 _ _ _) h)

/-! 61 CutFloor$Tree.addStep(II)I -/
set_option maxHeartbeats 4000000 in
set_option maxRecDepth 100000 in
def g_61 : Nat → Nat → EN → Nat → (Nat → Nat → Int32) → (Nat → Nat → Int64) → Int32 → Int32 → Nat →  Option (Int32 × (Nat → Nat → Int32) × (Nat → Nat → Int64))
  | 0, _, _, _, _, _, _, _, _ => none
  | n + 1, dp, e, lab, I, L, i1, i2, a0 =>
    if lab = 0 then (if a0 < e.1 ∧ (e.2.1 a0).1 = 10 then (if 1 ≤ dp then (stI (if (399 : Int32) < (I a0 12) then (399 : Int32) else (I a0 12)) (fun v_10 => (if a0 < e.1 ∧ (e.2.1 a0).1 = 10 then ((e.2.2 a0 8).bind (fun b_12 => (if (b_12 < e.1 ∧ (e.2.1 b_12).1 = 13 ∧ (e.2.1 b_12).2 < 2 ^ 31) ∧ 0 ≤ v_10 ∧ (Int32.toNatClampNeg v_10) < (e.2.1 b_12).2 then (stI (u2 I b_12 (Int32.toNatClampNeg v_10) i1) (fun I_17 => (if a0 < e.1 ∧ (e.2.1 a0).1 = 10 then ((e.2.2 a0 9).bind (fun b_19 => (if (b_19 < e.1 ∧ (e.2.1 b_19).1 = 13 ∧ (e.2.1 b_19).2 < 2 ^ 31) ∧ 0 ≤ v_10 ∧ (Int32.toNatClampNeg v_10) < (e.2.1 b_19).2 then (stI (u2 I_17 b_19 (Int32.toNatClampNeg v_10) i2) (fun I_24 => (if a0 < e.1 ∧ (e.2.1 a0).1 = 10 then (stI (u2 I_24 a0 12 (v_10 + (1 : Int32))) (fun I_29 => (some (v_10, I_29, L)))) else none))) else none))) else none))) else none))) else none))) else none) else none)
    else none
set_option maxRecDepth 100000 in
theorem e_61_0 (n dp : Nat) (e : EN) (I : (Nat → Nat → Int32)) (L : (Nat → Nat → Int64)) (i1 : Int32) (i2 : Int32) (a0 : Nat) : g_61 (n + 1) dp e 0 I L i1 i2 a0 = (if a0 < e.1 ∧ (e.2.1 a0).1 = 10 then (if 1 ≤ dp then (stI (if (399 : Int32) < (I a0 12) then (399 : Int32) else (I a0 12)) (fun v_10 => (if a0 < e.1 ∧ (e.2.1 a0).1 = 10 then ((e.2.2 a0 8).bind (fun b_12 => (if (b_12 < e.1 ∧ (e.2.1 b_12).1 = 13 ∧ (e.2.1 b_12).2 < 2 ^ 31) ∧ 0 ≤ v_10 ∧ (Int32.toNatClampNeg v_10) < (e.2.1 b_12).2 then (stI (u2 I b_12 (Int32.toNatClampNeg v_10) i1) (fun I_17 => (if a0 < e.1 ∧ (e.2.1 a0).1 = 10 then ((e.2.2 a0 9).bind (fun b_19 => (if (b_19 < e.1 ∧ (e.2.1 b_19).1 = 13 ∧ (e.2.1 b_19).2 < 2 ^ 31) ∧ 0 ≤ v_10 ∧ (Int32.toNatClampNeg v_10) < (e.2.1 b_19).2 then (stI (u2 I_17 b_19 (Int32.toNatClampNeg v_10) i2) (fun I_24 => (if a0 < e.1 ∧ (e.2.1 a0).1 = 10 then (stI (u2 I_24 a0 12 (v_10 + (1 : Int32))) (fun I_29 => (some (v_10, I_29, L)))) else none))) else none))) else none))) else none))) else none))) else none) else none) := by rw [g_61.eq_2, if_pos (show (0 : Nat) = 0 from rfl)]
set_option maxHeartbeats 8000000 in
set_option maxRecDepth 100000 in
theorem w_61 (X : GX) {z : Nat} {kd : Nat → Nat × Nat} {Rf : Nat → Nat → Option Nat} (hS : Sh z kd Rf) : ∀ (n dp d : Nat), dp ≤ d → ∀ (I : (Nat → Nat → Int32)) (L : (Nat → Nat → Int64)) (i1 : Int32) (i2 : Int32) (a0 : Nat) (r : Int32) (I1 : (Nat → Nat → Int32)) (L1 : (Nat → Nat → Int64)), (g_61 n dp (z, kd, Rf) 0 I L i1 i2 a0 = some (r, I1, L1) → K X d 61 0 0 (AI (fun x τ => x = r ∧ τ = (z, kd, I1, L1, Rf))) 0 [some (.ref a0), some (.int i1), some (.int i2), none] [] (z, kd, I, L, Rf) 0 0) := by
  intro n
  induction n with
  | zero => intro dp d hdp I L i1 i2 a0 r I1 L1; exact fun h => by cases h
  | succ n ih =>
    intro dp d hdp I L i1 i2 a0 r I1 L1
    · intro h
      rw [e_61_0] at h
      refine K_of b_61_0 h_61_0 ?_
      refine q_aload rfl ?_
      obtain ⟨⟨z_1, k_1⟩, h⟩ := ite_some h
      refine q_getI (c0 := 10) (j := 12) rfl rfl z_1 (fst_eq k_1) (Or.inl rfl) (by decide) ?_
      refine q_iconst (399) (by decide) ?_
      obtain ⟨d_7, h⟩ := ite_some h
      refine q_min (Nat.le_of_ble_eq_true rfl) (Nat.le_trans d_7 hdp) (Nat.le_refl _) (Nat.le_refl _) ?_
      obtain ⟨v_10, nv_10, h⟩ := stI_some h
      refine q_eqi nv_10.symm ?_
      refine q_istore (ls1 := [some (.ref a0), some (.int i1), some (.int i2), some (.int v_10)]) (Nat.le_of_ble_eq_true rfl) rfl ?_
      refine q_aload rfl ?_
      obtain ⟨⟨z_12, k_12⟩, h⟩ := ite_some h
      obtain ⟨b_12, r_12, h⟩ := Option.bind_eq_some_iff.mp h
      refine q_getRs (c0 := 10) (j := 8) rfl rfl z_12 (fst_eq k_12) rfl (by decide) r_12 ?_
      refine q_iload rfl ?_
      refine q_iload rfl ?_
      obtain ⟨⟨⟨z_17, k_17, m_17⟩, u_17, v_17⟩, h⟩ := ite_some h
      refine q_iasN (Int32.toNatClampNeg v_10) (nx u_17) z_17 (fst_eq k_17) v_17 m_17 ?_
      obtain ⟨I_17, nI_17, h⟩ := stI_some h
      refine q_nI nI_17 ?_
      refine q_aload rfl ?_
      obtain ⟨⟨z_19, k_19⟩, h⟩ := ite_some h
      obtain ⟨b_19, r_19, h⟩ := Option.bind_eq_some_iff.mp h
      refine q_getRs (c0 := 10) (j := 9) rfl rfl z_19 (fst_eq k_19) rfl (by decide) r_19 ?_
      refine q_iload rfl ?_
      refine q_iload rfl ?_
      obtain ⟨⟨⟨z_24, k_24, m_24⟩, u_24, v_24⟩, h⟩ := ite_some h
      refine q_iasN (Int32.toNatClampNeg v_10) (nx u_24) z_24 (fst_eq k_24) v_24 m_24 ?_
      obtain ⟨I_24, nI_24, h⟩ := stI_some h
      refine q_nI nI_24 ?_
      refine q_aload rfl ?_
      refine q_iload rfl ?_
      refine q_iconst (1) (by decide) ?_
      refine q_iadd ?_
      obtain ⟨⟨z_29, k_29⟩, h⟩ := ite_some h
      refine q_putI (c0 := 10) (j := 12) rfl rfl z_29 (fst_eq k_29) rfl ?_
      obtain ⟨I_29, nI_29, h⟩ := stI_some h
      refine q_nI nI_29 ?_
      refine q_iload rfl ?_
      cases h
      exact q_iret rfl (Nat.le_refl _) (Nat.le_refl _) ⟨rfl, rfl⟩
theorem a_61 (X : GX) {z : Nat} {kd : Nat → Nat × Nat} {Rf : Nat → Nat → Option Nat} (hS : Sh z kd Rf) {n dp d : Nat} (hd : dp ≤ d) {I : (Nat → Nat → Int32)} {L : (Nat → Nat → Int64)} {a0 : Nat} {i1 : Int32} {i2 : Int32} {I1 : (Nat → Nat → Int32)} {L1 : (Nat → Nat → Int64)} {r : Int32} (h : g_61 n dp (z, kd, Rf) 0 I L i1 i2 a0 = some (r, I1, L1)) : Ct X d 61 0 0 [.ref a0, .int i1, .int i2] (z, kd, I, L, Rf) (AI (fun x τ => x = r ∧ τ = (z, kd, I1, L1, Rf))) :=
  Ct_of mu_61 (Nat.le_of_ble_eq_true rfl) ((w_61 X hS n dp d hd I L i1 i2 a0 _ _ _) h)

/-! 67 CutFloor.fault()I -/
set_option maxHeartbeats 4000000 in
set_option maxRecDepth 100000 in
def g_67 : Nat → Nat → EN → Nat → (Nat → Nat → Int32) → (Nat → Nat → Int64) →  Option (Int32 × (Nat → Nat → Int32) × (Nat → Nat → Int64))
  | 0, _, _, _, _, _ => none
  | n + 1, dp, e, lab, I, L =>
    if lab = 0 then (some ((I 0 15), I, L))
    else none
set_option maxRecDepth 100000 in
theorem e_67_0 (n dp : Nat) (e : EN) (I : (Nat → Nat → Int32)) (L : (Nat → Nat → Int64)) : g_67 (n + 1) dp e 0 I L = (some ((I 0 15), I, L)) := by rw [g_67.eq_2, if_pos (show (0 : Nat) = 0 from rfl)]
set_option maxHeartbeats 8000000 in
set_option maxRecDepth 100000 in
theorem w_67 (X : GX) {z : Nat} {kd : Nat → Nat × Nat} {Rf : Nat → Nat → Option Nat} (hS : Sh z kd Rf) : ∀ (n dp d : Nat), dp ≤ d → ∀ (I : (Nat → Nat → Int32)) (L : (Nat → Nat → Int64)) (r : Int32) (I1 : (Nat → Nat → Int32)) (L1 : (Nat → Nat → Int64)), (g_67 n dp (z, kd, Rf) 0 I L = some (r, I1, L1) → K X d 67 0 0 (AI (fun x τ => x = r ∧ τ = (z, kd, I1, L1, Rf))) 0 [some (.ref 0)] [] (z, kd, I, L, Rf) 0 0) := by
  intro n
  induction n with
  | zero => intro dp d hdp I L r I1 L1; exact fun h => by cases h
  | succ n ih =>
    intro dp d hdp I L r I1 L1
    · intro h
      rw [e_67_0] at h
      refine K_of b_67_0 h_67_0 ?_
      refine q_aload rfl ?_
      refine q_getI (c0 := 11) (j := 15) rfl rfl (zl hS 0 (by decide)) (sk hS 0 (by decide) rfl) (Or.inl rfl) (by decide) ?_
      cases h
      exact q_iret rfl (Nat.le_refl _) (Nat.le_refl _) ⟨rfl, rfl⟩
theorem a_67 (X : GX) {z : Nat} {kd : Nat → Nat × Nat} {Rf : Nat → Nat → Option Nat} (hS : Sh z kd Rf) {n dp d : Nat} (hd : dp ≤ d) {I : (Nat → Nat → Int32)} {L : (Nat → Nat → Int64)} {I1 : (Nat → Nat → Int32)} {L1 : (Nat → Nat → Int64)} {r : Int32} (h : g_67 n dp (z, kd, Rf) 0 I L = some (r, I1, L1)) : Ct X d 67 0 0 [.ref 0] (z, kd, I, L, Rf) (AI (fun x τ => x = r ∧ τ = (z, kd, I1, L1, Rf))) :=
  Ct_of mu_67 (Nat.le_of_ble_eq_true rfl) ((w_67 X hS n dp d hd I L _ _ _) h)

/-! 68 CutFloor.way(II)I -/
set_option maxHeartbeats 4000000 in
set_option maxRecDepth 100000 in
def g_68 : Nat → Nat → EN → Nat → (Nat → Nat → Int32) → (Nat → Nat → Int64) → Int32 → Int32 →  Option (Int32 × (Nat → Nat → Int32) × (Nat → Nat → Int64))
  | 0, _, _, _, _, _, _, _ => none
  | n + 1, dp, e, lab, I, L, i1, i2 =>
    if lab = 0 then ((e.2.2 1 7).bind (fun b_4 => (if b_4 < e.1 ∧ (e.2.1 b_4).1 = 10 then (if 1 ≤ dp then (g_14 n (dp - 1) e 0 I L i1 (0 : Int32) ((I b_4 11) - (1 : Int32))).bind (fun ⟨x0_16, I0_16, L0_16⟩ => (if x0_16 = 0 then (some ((-1 : Int32), I0_16, L0_16)) else (if i2 = 0 then (if b_4 < e.1 ∧ (e.2.1 b_4).1 = 10 then ((e.2.2 b_4 5).bind (fun b_29 => (if (b_29 < e.1 ∧ (e.2.1 b_29).1 = 13 ∧ (e.2.1 b_29).2 < 2 ^ 31) ∧ 0 ≤ i1 ∧ (Int32.toNatClampNeg i1) < (e.2.1 b_29).2 then (some ((I0_16 b_29 (Int32.toNatClampNeg i1)), I0_16, L0_16)) else none))) else none) else (if 1 ≤ dp then (g_14 n (dp - 1) e 0 I0_16 L0_16 i2 (10 : Int32) (19 : Int32)).bind (fun ⟨x1_40, I1_40, L1_40⟩ => (if x1_40 = 0 then (some ((-1 : Int32), I1_40, L1_40)) else (if b_4 < e.1 ∧ (e.2.1 b_4).1 = 10 then ((e.2.2 b_4 7).bind (fun b_47 => (if (b_47 < e.1 ∧ (e.2.1 b_47).1 = 13 ∧ (e.2.1 b_47).2 < 2 ^ 31) ∧ 0 ≤ (((i1 * (10 : Int32)) + i2) - (10 : Int32)) ∧ (Int32.toNatClampNeg (((i1 * (10 : Int32)) + i2) - (10 : Int32))) < (e.2.1 b_47).2 then (some ((I1_40 b_47 (Int32.toNatClampNeg (((i1 * (10 : Int32)) + i2) - (10 : Int32)))), I1_40, L1_40)) else none))) else none))) else none)))) else none) else none)))
    else none
set_option maxRecDepth 100000 in
theorem e_68_0 (n dp : Nat) (e : EN) (I : (Nat → Nat → Int32)) (L : (Nat → Nat → Int64)) (i1 : Int32) (i2 : Int32) : g_68 (n + 1) dp e 0 I L i1 i2 = ((e.2.2 1 7).bind (fun b_4 => (if b_4 < e.1 ∧ (e.2.1 b_4).1 = 10 then (if 1 ≤ dp then (g_14 n (dp - 1) e 0 I L i1 (0 : Int32) ((I b_4 11) - (1 : Int32))).bind (fun ⟨x0_16, I0_16, L0_16⟩ => (if x0_16 = 0 then (some ((-1 : Int32), I0_16, L0_16)) else (if i2 = 0 then (if b_4 < e.1 ∧ (e.2.1 b_4).1 = 10 then ((e.2.2 b_4 5).bind (fun b_29 => (if (b_29 < e.1 ∧ (e.2.1 b_29).1 = 13 ∧ (e.2.1 b_29).2 < 2 ^ 31) ∧ 0 ≤ i1 ∧ (Int32.toNatClampNeg i1) < (e.2.1 b_29).2 then (some ((I0_16 b_29 (Int32.toNatClampNeg i1)), I0_16, L0_16)) else none))) else none) else (if 1 ≤ dp then (g_14 n (dp - 1) e 0 I0_16 L0_16 i2 (10 : Int32) (19 : Int32)).bind (fun ⟨x1_40, I1_40, L1_40⟩ => (if x1_40 = 0 then (some ((-1 : Int32), I1_40, L1_40)) else (if b_4 < e.1 ∧ (e.2.1 b_4).1 = 10 then ((e.2.2 b_4 7).bind (fun b_47 => (if (b_47 < e.1 ∧ (e.2.1 b_47).1 = 13 ∧ (e.2.1 b_47).2 < 2 ^ 31) ∧ 0 ≤ (((i1 * (10 : Int32)) + i2) - (10 : Int32)) ∧ (Int32.toNatClampNeg (((i1 * (10 : Int32)) + i2) - (10 : Int32))) < (e.2.1 b_47).2 then (some ((I1_40 b_47 (Int32.toNatClampNeg (((i1 * (10 : Int32)) + i2) - (10 : Int32)))), I1_40, L1_40)) else none))) else none))) else none)))) else none) else none))) := by rw [g_68.eq_2, if_pos (show (0 : Nat) = 0 from rfl)]
set_option maxHeartbeats 8000000 in
set_option maxRecDepth 100000 in
theorem w_68 (X : GX) {z : Nat} {kd : Nat → Nat × Nat} {Rf : Nat → Nat → Option Nat} (hS : Sh z kd Rf) : ∀ (n dp d : Nat), dp ≤ d → ∀ (I : (Nat → Nat → Int32)) (L : (Nat → Nat → Int64)) (i1 : Int32) (i2 : Int32) (r : Int32) (I1 : (Nat → Nat → Int32)) (L1 : (Nat → Nat → Int64)), (g_68 n dp (z, kd, Rf) 0 I L i1 i2 = some (r, I1, L1) → K X d 68 0 0 (AI (fun x τ => x = r ∧ τ = (z, kd, I1, L1, Rf))) 0 [some (.ref 0), some (.int i1), some (.int i2), none] [] (z, kd, I, L, Rf) 0 0) := by
  intro n
  induction n with
  | zero => intro dp d hdp I L i1 i2 r I1 L1; exact fun h => by cases h
  | succ n ih =>
    intro dp d hdp I L i1 i2 r I1 L1
    · intro h
      rw [e_68_0] at h
      refine K_of b_68_0 h_68_0 ?_
      refine q_aload rfl ?_
      refine q_getRs (c0 := 11) (j := 0) rfl rfl (zl hS 0 (by decide)) (sk hS 0 (by decide) rfl) rfl (by decide) (r_0_0 hS) ?_
      obtain ⟨b_4, r_4, h⟩ := Option.bind_eq_some_iff.mp h
      refine q_getRs (c0 := 3) (j := 7) rfl rfl (zl hS 1 (by decide)) (sk hS 1 (by decide) rfl) rfl (by decide) r_4 ?_
      refine q_astore (ls1 := [some (.ref 0), some (.int i1), some (.int i2), some (.ref b_4)]) rfl (Nat.le_of_ble_eq_true rfl) rfl ?_
      refine q_iload rfl ?_
      refine q_iconst (0) (by decide) ?_
      refine q_aload rfl ?_
      obtain ⟨⟨z_11, k_11⟩, h⟩ := ite_some h
      refine q_getI (c0 := 10) (j := 11) rfl rfl z_11 (fst_eq k_11) (Or.inl rfl) (by decide) ?_
      refine q_iconst (1) (by decide) ?_
      refine q_isub ?_
      obtain ⟨d_16, h⟩ := ite_some h
      obtain ⟨⟨x0_16, I0_16, L0_16⟩, e_16, h⟩ := Option.bind_eq_some_iff.mp h
      dsimp only at h
      refine q_fs3I (a_14 X hS (d := d - 1) (by omega) e_16) (by omega) (Nat.le_refl _) (Nat.le_refl _) rfl (Nat.le_of_ble_eq_true rfl) ?_
      refine q_if_ne (fun c_19 => ?_) (fun c_19 => ?_)
      · rw [if_neg c_19] at h
        refine K_of b_68_24 h_68_24 ?_
        refine q_iload rfl ?_
        refine q_if_ne (fun c_25 => ?_) (fun c_25 => ?_)
        · rw [if_neg c_25] at h
          refine K_of b_68_35 h_68_35 ?_
          refine q_iload rfl ?_
          refine q_iconst (10) (by decide) ?_
          refine q_iconst (19) (by decide) ?_
          obtain ⟨d_40, h⟩ := ite_some h
          obtain ⟨⟨x1_40, I1_40, L1_40⟩, e_40, h⟩ := Option.bind_eq_some_iff.mp h
          dsimp only at h
          refine q_fs3I (a_14 X hS (d := d - 1) (by omega) e_40) (by omega) (Nat.le_refl _) (Nat.le_refl _) rfl (Nat.le_of_ble_eq_true rfl) ?_
          refine q_if_eq (fun c_43 => ?_) (fun c_43 => ?_)
          · rw [if_pos c_43] at h
            refine K_of b_68_63 h_68_63 ?_
            refine q_iconst (-1) (by decide) ?_
            refine q_end ?_
            refine K_of b_68_64 h_68_64 ?_
            cases h
            exact q_iret rfl (Nat.le_refl _) (Nat.le_refl _) ⟨rfl, rfl⟩
          · rw [if_neg c_43] at h
            refine q_aload rfl ?_
            obtain ⟨⟨z_47, k_47⟩, h⟩ := ite_some h
            obtain ⟨b_47, r_47, h⟩ := Option.bind_eq_some_iff.mp h
            refine q_getRs (c0 := 10) (j := 7) rfl rfl z_47 (fst_eq k_47) rfl (by decide) r_47 ?_
            refine q_iload rfl ?_
            refine q_iconst (10) (by decide) ?_
            refine q_imul ?_
            refine q_iload rfl ?_
            refine q_iadd ?_
            refine q_iconst (10) (by decide) ?_
            refine q_isub ?_
            obtain ⟨⟨⟨z_59, k_59, m_59⟩, u_59, v_59⟩, h⟩ := ite_some h
            refine q_ialN (Int32.toNatClampNeg (((i1 * (10 : Int32)) + i2) - (10 : Int32))) (nx u_59) z_59 (fst_eq k_59) v_59 m_59 ?_
            refine q_goto ?_
            refine K_of b_68_64 h_68_64 ?_
            cases h
            exact q_iret rfl (Nat.le_refl _) (Nat.le_refl _) ⟨rfl, rfl⟩
        · rw [if_pos c_25] at h
          refine q_aload rfl ?_
          obtain ⟨⟨z_29, k_29⟩, h⟩ := ite_some h
          obtain ⟨b_29, r_29, h⟩ := Option.bind_eq_some_iff.mp h
          refine q_getRs (c0 := 10) (j := 5) rfl rfl z_29 (fst_eq k_29) rfl (by decide) r_29 ?_
          refine q_iload rfl ?_
          obtain ⟨⟨⟨z_33, k_33, m_33⟩, u_33, v_33⟩, h⟩ := ite_some h
          refine q_ialN (Int32.toNatClampNeg i1) (nx u_33) z_33 (fst_eq k_33) v_33 m_33 ?_
          cases h
          exact q_iret rfl (Nat.le_refl _) (Nat.le_refl _) ⟨rfl, rfl⟩
      · rw [if_pos c_19] at h
        refine q_iconst (-1) (by decide) ?_
        cases h
        exact q_iret rfl (Nat.le_refl _) (Nat.le_refl _) ⟨rfl, rfl⟩
theorem a_68 (X : GX) {z : Nat} {kd : Nat → Nat × Nat} {Rf : Nat → Nat → Option Nat} (hS : Sh z kd Rf) {n dp d : Nat} (hd : dp ≤ d) {I : (Nat → Nat → Int32)} {L : (Nat → Nat → Int64)} {i1 : Int32} {i2 : Int32} {I1 : (Nat → Nat → Int32)} {L1 : (Nat → Nat → Int64)} {r : Int32} (h : g_68 n dp (z, kd, Rf) 0 I L i1 i2 = some (r, I1, L1)) : Ct X d 68 0 0 [.ref 0, .int i1, .int i2] (z, kd, I, L, Rf) (AI (fun x τ => x = r ∧ τ = (z, kd, I1, L1, Rf))) :=
  Ct_of mu_68 (Nat.le_of_ble_eq_true rfl) ((w_68 X hS n dp d hd I L i1 i2 _ _ _) h)

/-! 72 CutFloor$Hall.weightOf(II)I -/
set_option maxHeartbeats 4000000 in
set_option maxRecDepth 100000 in
def g_72 : Nat → Nat → EN → Nat → (Nat → Nat → Int32) → (Nat → Nat → Int64) → Int32 → Int32 →  Option (Int32 × (Nat → Nat → Int32) × (Nat → Nat → Int64))
  | 0, _, _, _, _, _, _, _ => none
  | n + 1, dp, e, lab, I, L, i1, i2 =>
    if lab = 0 then (if 0 ≤ ((i1 * (3 : Int32)) + i2) ∧ (Int32.toNatClampNeg ((i1 * (3 : Int32)) + i2)) < 30 then (some ((I 3 (Int32.toNatClampNeg ((i1 * (3 : Int32)) + i2))), I, L)) else none)
    else none
set_option maxRecDepth 100000 in
theorem e_72_0 (n dp : Nat) (e : EN) (I : (Nat → Nat → Int32)) (L : (Nat → Nat → Int64)) (i1 : Int32) (i2 : Int32) : g_72 (n + 1) dp e 0 I L i1 i2 = (if 0 ≤ ((i1 * (3 : Int32)) + i2) ∧ (Int32.toNatClampNeg ((i1 * (3 : Int32)) + i2)) < 30 then (some ((I 3 (Int32.toNatClampNeg ((i1 * (3 : Int32)) + i2))), I, L)) else none) := by rw [g_72.eq_2, if_pos (show (0 : Nat) = 0 from rfl)]
set_option maxHeartbeats 8000000 in
set_option maxRecDepth 100000 in
theorem w_72 (X : GX) {z : Nat} {kd : Nat → Nat × Nat} {Rf : Nat → Nat → Option Nat} (hS : Sh z kd Rf) : ∀ (n dp d : Nat), dp ≤ d → ∀ (I : (Nat → Nat → Int32)) (L : (Nat → Nat → Int64)) (i1 : Int32) (i2 : Int32) (r : Int32) (I1 : (Nat → Nat → Int32)) (L1 : (Nat → Nat → Int64)), (g_72 n dp (z, kd, Rf) 0 I L i1 i2 = some (r, I1, L1) → K X d 72 0 0 (AI (fun x τ => x = r ∧ τ = (z, kd, I1, L1, Rf))) 0 [some (.ref 1), some (.int i1), some (.int i2)] [] (z, kd, I, L, Rf) 0 0) := by
  intro n
  induction n with
  | zero => intro dp d hdp I L i1 i2 r I1 L1; exact fun h => by cases h
  | succ n ih =>
    intro dp d hdp I L i1 i2 r I1 L1
    · intro h
      rw [e_72_0] at h
      refine K_of b_72_0 h_72_0 ?_
      refine q_aload rfl ?_
      refine q_getRs (c0 := 3) (j := 1) rfl rfl (zl hS 1 (by decide)) (sk hS 1 (by decide) rfl) rfl (by decide) (r_1_1 hS) ?_
      refine q_iload rfl ?_
      refine q_iconst (3) (by decide) ?_
      refine q_imul ?_
      refine q_iload rfl ?_
      refine q_iadd ?_
      obtain ⟨⟨u_9, v_9⟩, h⟩ := ite_some h
      refine q_ialN (Int32.toNatClampNeg ((i1 * (3 : Int32)) + i2)) (nx u_9) (zl hS 3 (by decide)) (sk hS 3 (by decide) rfl) v_9 (by decide) ?_
      cases h
      exact q_iret rfl (Nat.le_refl _) (Nat.le_refl _) ⟨rfl, rfl⟩
theorem a_72 (X : GX) {z : Nat} {kd : Nat → Nat × Nat} {Rf : Nat → Nat → Option Nat} (hS : Sh z kd Rf) {n dp d : Nat} (hd : dp ≤ d) {I : (Nat → Nat → Int32)} {L : (Nat → Nat → Int64)} {i1 : Int32} {i2 : Int32} {I1 : (Nat → Nat → Int32)} {L1 : (Nat → Nat → Int64)} {r : Int32} (h : g_72 n dp (z, kd, Rf) 0 I L i1 i2 = some (r, I1, L1)) : Ct X d 72 0 0 [.ref 1, .int i1, .int i2] (z, kd, I, L, Rf) (AI (fun x τ => x = r ∧ τ = (z, kd, I1, L1, Rf))) :=
  Ct_of mu_72 (Nat.le_of_ble_eq_true rfl) ((w_72 X hS n dp d hd I L i1 i2 _ _ _) h)

/-! 71 CutFloor$Asker.face(II)V -/
set_option maxHeartbeats 4000000 in
set_option maxRecDepth 100000 in
def g_71 : Nat → Nat → EN → Nat → (Nat → Nat → Int32) → (Nat → Nat → Int64) → Int32 → Int32 →  Option ((Nat → Nat → Int32) × (Nat → Nat → Int64))
  | 0, _, _, _, _, _, _, _ => none
  | n + 1, dp, e, lab, I, L, i1, i2 =>
    if lab = 0 then ((e.2.2 1 7).bind (fun b_4 => (if b_4 < e.1 ∧ (e.2.1 b_4).1 = 10 then ((e.2.2 b_4 5).bind (fun b_7 => (if (b_7 < e.1 ∧ (e.2.1 b_7).1 = 13 ∧ (e.2.1 b_7).2 < 2 ^ 31) ∧ 0 ≤ i1 ∧ (Int32.toNatClampNeg i1) < (e.2.1 b_7).2 then (stI (I b_7 (Int32.toNatClampNeg i1)) (fun v_12 => (stI (u2 I 22 0 i2) (fun I_19 => (stI (u2 I_19 22 1 v_12) (fun I_26 => (stI (u2 I_26 22 2 i1) (fun I_33 => (stI (u2 I_33 22 3 (I_33 1 11)) (fun I_46 => (if 1 ≤ dp then (g_72 n (dp - 1) e 0 I_46 L v_12 i2).bind (fun ⟨x0_58, I0_58, L0_58⟩ => (stI (u2 I0_58 22 4 x0_58) (fun I_61 => (some (I_61, L0_58))))) else none))))))))))) else none))) else none)))
    else none
set_option maxRecDepth 100000 in
theorem e_71_0 (n dp : Nat) (e : EN) (I : (Nat → Nat → Int32)) (L : (Nat → Nat → Int64)) (i1 : Int32) (i2 : Int32) : g_71 (n + 1) dp e 0 I L i1 i2 = ((e.2.2 1 7).bind (fun b_4 => (if b_4 < e.1 ∧ (e.2.1 b_4).1 = 10 then ((e.2.2 b_4 5).bind (fun b_7 => (if (b_7 < e.1 ∧ (e.2.1 b_7).1 = 13 ∧ (e.2.1 b_7).2 < 2 ^ 31) ∧ 0 ≤ i1 ∧ (Int32.toNatClampNeg i1) < (e.2.1 b_7).2 then (stI (I b_7 (Int32.toNatClampNeg i1)) (fun v_12 => (stI (u2 I 22 0 i2) (fun I_19 => (stI (u2 I_19 22 1 v_12) (fun I_26 => (stI (u2 I_26 22 2 i1) (fun I_33 => (stI (u2 I_33 22 3 (I_33 1 11)) (fun I_46 => (if 1 ≤ dp then (g_72 n (dp - 1) e 0 I_46 L v_12 i2).bind (fun ⟨x0_58, I0_58, L0_58⟩ => (stI (u2 I0_58 22 4 x0_58) (fun I_61 => (some (I_61, L0_58))))) else none))))))))))) else none))) else none))) := by rw [g_71.eq_2, if_pos (show (0 : Nat) = 0 from rfl)]
set_option maxHeartbeats 8000000 in
set_option maxRecDepth 100000 in
theorem w_71 (X : GX) {z : Nat} {kd : Nat → Nat × Nat} {Rf : Nat → Nat → Option Nat} (hS : Sh z kd Rf) : ∀ (n dp d : Nat), dp ≤ d → ∀ (I : (Nat → Nat → Int32)) (L : (Nat → Nat → Int64)) (i1 : Int32) (i2 : Int32) (I1 : (Nat → Nat → Int32)) (L1 : (Nat → Nat → Int64)), (g_71 n dp (z, kd, Rf) 0 I L i1 i2 = some (I1, L1) → K X d 71 0 0 (AV (fun τ => τ = (z, kd, I1, L1, Rf))) 0 [some (.ref 21), some (.int i1), some (.int i2), none] [] (z, kd, I, L, Rf) 0 0) := by
  intro n
  induction n with
  | zero => intro dp d hdp I L i1 i2 I1 L1; exact fun h => by cases h
  | succ n ih =>
    intro dp d hdp I L i1 i2 I1 L1
    · intro h
      rw [e_71_0] at h
      refine K_of b_71_0 h_71_0 ?_
      refine q_aload rfl ?_
      refine q_getRs (c0 := 0) (j := 0) rfl rfl (zl hS 21 (by decide)) (sk hS 21 (by decide) rfl) rfl (by decide) (r_21_0 hS) ?_
      obtain ⟨b_4, r_4, h⟩ := Option.bind_eq_some_iff.mp h
      refine q_getRs (c0 := 3) (j := 7) rfl rfl (zl hS 1 (by decide)) (sk hS 1 (by decide) rfl) rfl (by decide) r_4 ?_
      obtain ⟨⟨z_7, k_7⟩, h⟩ := ite_some h
      obtain ⟨b_7, r_7, h⟩ := Option.bind_eq_some_iff.mp h
      refine q_getRs (c0 := 10) (j := 5) rfl rfl z_7 (fst_eq k_7) rfl (by decide) r_7 ?_
      refine q_iload rfl ?_
      obtain ⟨⟨⟨z_11, k_11, m_11⟩, u_11, v_11⟩, h⟩ := ite_some h
      refine q_ialN (Int32.toNatClampNeg i1) (nx u_11) z_11 (fst_eq k_11) v_11 m_11 ?_
      obtain ⟨v_12, nv_12, h⟩ := stI_some h
      refine q_eqi nv_12.symm ?_
      refine q_istore (ls1 := [some (.ref 21), some (.int i1), some (.int i2), some (.int v_12)]) (Nat.le_of_ble_eq_true rfl) rfl ?_
      refine q_aload rfl ?_
      refine q_getRs (c0 := 0) (j := 1) rfl rfl (zl hS 21 (by decide)) (sk hS 21 (by decide) rfl) rfl (by decide) (r_21_1 hS) ?_
      refine q_iconst (0) (by decide) ?_
      refine q_iload rfl ?_
      refine q_iasN (0) rfl (zl hS 22 (by decide)) (sk hS 22 (by decide) rfl) (by decide) (by decide) ?_
      obtain ⟨I_19, nI_19, h⟩ := stI_some h
      refine q_nI nI_19 ?_
      refine q_aload rfl ?_
      refine q_getRs (c0 := 0) (j := 1) rfl rfl (zl hS 21 (by decide)) (sk hS 21 (by decide) rfl) rfl (by decide) (r_21_1 hS) ?_
      refine q_iconst (1) (by decide) ?_
      refine q_iload rfl ?_
      refine q_iasN (1) rfl (zl hS 22 (by decide)) (sk hS 22 (by decide) rfl) (by decide) (by decide) ?_
      obtain ⟨I_26, nI_26, h⟩ := stI_some h
      refine q_nI nI_26 ?_
      refine q_aload rfl ?_
      refine q_getRs (c0 := 0) (j := 1) rfl rfl (zl hS 21 (by decide)) (sk hS 21 (by decide) rfl) rfl (by decide) (r_21_1 hS) ?_
      refine q_iconst (2) (by decide) ?_
      refine q_iload rfl ?_
      refine q_iasN (2) rfl (zl hS 22 (by decide)) (sk hS 22 (by decide) rfl) (by decide) (by decide) ?_
      obtain ⟨I_33, nI_33, h⟩ := stI_some h
      refine q_nI nI_33 ?_
      refine q_aload rfl ?_
      refine q_getRs (c0 := 0) (j := 1) rfl rfl (zl hS 21 (by decide)) (sk hS 21 (by decide) rfl) rfl (by decide) (r_21_1 hS) ?_
      refine q_iconst (3) (by decide) ?_
      refine q_aload rfl ?_
      refine q_getRs (c0 := 0) (j := 0) rfl rfl (zl hS 21 (by decide)) (sk hS 21 (by decide) rfl) rfl (by decide) (r_21_0 hS) ?_
      refine q_getI (c0 := 3) (j := 11) rfl rfl (zl hS 1 (by decide)) (sk hS 1 (by decide) rfl) (Or.inl rfl) (by decide) ?_
      refine q_iasN (3) rfl (zl hS 22 (by decide)) (sk hS 22 (by decide) rfl) (by decide) (by decide) ?_
      obtain ⟨I_46, nI_46, h⟩ := stI_some h
      refine q_nI nI_46 ?_
      refine q_aload rfl ?_
      refine q_getRs (c0 := 0) (j := 1) rfl rfl (zl hS 21 (by decide)) (sk hS 21 (by decide) rfl) rfl (by decide) (r_21_1 hS) ?_
      refine q_iconst (4) (by decide) ?_
      refine q_aload rfl ?_
      refine q_getRs (c0 := 0) (j := 0) rfl rfl (zl hS 21 (by decide)) (sk hS 21 (by decide) rfl) rfl (by decide) (r_21_0 hS) ?_
      refine q_iload rfl ?_
      refine q_iload rfl ?_
      obtain ⟨d_58, h⟩ := ite_some h
      obtain ⟨⟨x0_58, I0_58, L0_58⟩, e_58, h⟩ := Option.bind_eq_some_iff.mp h
      dsimp only at h
      refine q_fv3I (a_72 X hS (d := d - 1) (by omega) e_58) (by omega) (Nat.le_refl _) (Nat.le_refl _) rfl (Nat.le_of_ble_eq_true rfl) ⟨(zl hS 1 (by decide)), congrArg Prod.fst (sk hS 1 (by decide) rfl), by decide⟩ ?_
      refine q_iasN (4) rfl (zl hS 22 (by decide)) (sk hS 22 (by decide) rfl) (by decide) (by decide) ?_
      obtain ⟨I_61, nI_61, h⟩ := stI_some h
      refine q_nI nI_61 ?_
      cases h
      exact q_vret rfl (Nat.le_refl _) (Nat.le_refl _) rfl
theorem a_71 (X : GX) {z : Nat} {kd : Nat → Nat × Nat} {Rf : Nat → Nat → Option Nat} (hS : Sh z kd Rf) {n dp d : Nat} (hd : dp ≤ d) {I : (Nat → Nat → Int32)} {L : (Nat → Nat → Int64)} {i1 : Int32} {i2 : Int32} {I1 : (Nat → Nat → Int32)} {L1 : (Nat → Nat → Int64)} (h : g_71 n dp (z, kd, Rf) 0 I L i1 i2 = some (I1, L1)) : Ct X d 71 0 0 [.ref 21, .int i1, .int i2] (z, kd, I, L, Rf) (AV (fun τ => τ = (z, kd, I1, L1, Rf))) :=
  Ct_of mu_71 (Nat.le_of_ble_eq_true rfl) ((w_71 X hS n dp d hd I L i1 i2 _ _) h)

/-! 76 CutFloor$Asker.joined(IJJ)J -/
set_option maxHeartbeats 4000000 in
set_option maxRecDepth 100000 in
def g_76 : Nat → Nat → EN → Nat → (Nat → Nat → Int32) → (Nat → Nat → Int64) → Int32 → Int64 → Int64 →  Option (Int64 × (Nat → Nat → Int32) × (Nat → Nat → Int64))
  | 0, _, _, _, _, _, _, _, _ => none
  | n + 1, dp, e, lab, I, L, i0, j1, j3 =>
    if lab = 0 then (if i0 = (2 : Int32) then (some ((j1 + j3), I, L)) else (if i0 = (3 : Int32) then (some ((j1 - j3), I, L)) else (if i0 = (4 : Int32) then (some ((j1 * j3), I, L)) else (if i0 = (5 : Int32) then (if (lg_cmp j3 (0 : Int64)) = 0 then (some ((1000000001 : Int64), I, L)) else (if ¬ j3 = 0 then (some ((j1 / j3), I, L)) else none)) else (if i0 = (6 : Int32) then (if 0 ≤ (lg_cmp j1 j3) then (some ((0 : Int64), I, L)) else (some ((1 : Int64), I, L))) else (if i0 = (7 : Int32) then (if (lg_cmp j1 j3) ≤ 0 then (some ((0 : Int64), I, L)) else (some ((1 : Int64), I, L))) else (if (lg_cmp j1 j3) = 0 then (some ((1 : Int64), I, L)) else (some ((0 : Int64), I, L)))))))))
    else none
set_option maxRecDepth 100000 in
theorem e_76_0 (n dp : Nat) (e : EN) (I : (Nat → Nat → Int32)) (L : (Nat → Nat → Int64)) (i0 : Int32) (j1 : Int64) (j3 : Int64) : g_76 (n + 1) dp e 0 I L i0 j1 j3 = (if i0 = (2 : Int32) then (some ((j1 + j3), I, L)) else (if i0 = (3 : Int32) then (some ((j1 - j3), I, L)) else (if i0 = (4 : Int32) then (some ((j1 * j3), I, L)) else (if i0 = (5 : Int32) then (if (lg_cmp j3 (0 : Int64)) = 0 then (some ((1000000001 : Int64), I, L)) else (if ¬ j3 = 0 then (some ((j1 / j3), I, L)) else none)) else (if i0 = (6 : Int32) then (if 0 ≤ (lg_cmp j1 j3) then (some ((0 : Int64), I, L)) else (some ((1 : Int64), I, L))) else (if i0 = (7 : Int32) then (if (lg_cmp j1 j3) ≤ 0 then (some ((0 : Int64), I, L)) else (some ((1 : Int64), I, L))) else (if (lg_cmp j1 j3) = 0 then (some ((1 : Int64), I, L)) else (some ((0 : Int64), I, L))))))))) := by rw [g_76.eq_2, if_pos (show (0 : Nat) = 0 from rfl)]
set_option maxHeartbeats 8000000 in
set_option maxRecDepth 100000 in
theorem w_76 (X : GX) {z : Nat} {kd : Nat → Nat × Nat} {Rf : Nat → Nat → Option Nat} (hS : Sh z kd Rf) : ∀ (n dp d : Nat), dp ≤ d → ∀ (I : (Nat → Nat → Int32)) (L : (Nat → Nat → Int64)) (i0 : Int32) (j1 : Int64) (j3 : Int64) (r : Int64) (I1 : (Nat → Nat → Int32)) (L1 : (Nat → Nat → Int64)), (g_76 n dp (z, kd, Rf) 0 I L i0 j1 j3 = some (r, I1, L1) → K X d 76 0 0 (AL (fun x τ => x = r ∧ τ = (z, kd, I1, L1, Rf))) 0 [some (.int i0), some (.long j1), none, some (.long j3), none] [] (z, kd, I, L, Rf) 0 0) := by
  intro n
  induction n with
  | zero => intro dp d hdp I L i0 j1 j3 r I1 L1; exact fun h => by cases h
  | succ n ih =>
    intro dp d hdp I L i0 j1 j3 r I1 L1
    · intro h
      rw [e_76_0] at h
      refine K_of b_76_0 h_76_0 ?_
      refine q_iload rfl ?_
      refine q_tsw (fun c_1 => ?_) (fun j t c_1 ht => ?_)
      · rw [if_neg (sw_ne c_1 (by decide) (by decide)), if_neg (sw_ne c_1 (by decide) (by decide)), if_neg (sw_ne c_1 (by decide) (by decide)), if_neg (sw_ne c_1 (by decide) (by decide)), if_neg (sw_ne c_1 (by decide) (by decide)), if_neg (sw_ne c_1 (by decide) (by decide))] at h
        refine K_of b_76_92 h_76_92 ?_
        refine q_lload rfl ?_
        refine q_lload rfl ?_
        refine q_lcmp ?_
        refine q_if_ne (fun c_95 => ?_) (fun c_95 => ?_)
        · rw [if_neg c_95] at h
          refine K_of b_76_102 h_76_102 ?_
          refine q_lconst (0) (by decide) ?_
          refine q_end ?_
          refine K_of b_76_103 h_76_103 ?_
          cases h
          exact q_lret rfl (Nat.le_refl _) (Nat.le_refl _) ⟨rfl, rfl⟩
        · rw [if_pos c_95] at h
          refine q_lconst (1) (by decide) ?_
          refine q_goto ?_
          refine K_of b_76_103 h_76_103 ?_
          cases h
          exact q_lret rfl (Nat.le_refl _) (Nat.le_refl _) ⟨rfl, rfl⟩
      · match j, ht with
        | 0, ht =>
          cases ht
          rw [if_pos (sw_eq c_1 (by decide))] at h
          refine K_of b_76_40 h_76_40 ?_
          refine q_lload rfl ?_
          refine q_lload rfl ?_
          refine q_ladd ?_
          cases h
          exact q_lret rfl (Nat.le_refl _) (Nat.le_refl _) ⟨rfl, rfl⟩
        | 1, ht =>
          cases ht
          rw [if_neg (sw_nq c_1 (by decide)), if_pos (sw_eq c_1 (by decide))] at h
          refine K_of b_76_44 h_76_44 ?_
          refine q_lload rfl ?_
          refine q_lload rfl ?_
          refine q_lsub ?_
          cases h
          exact q_lret rfl (Nat.le_refl _) (Nat.le_refl _) ⟨rfl, rfl⟩
        | 2, ht =>
          cases ht
          rw [if_neg (sw_nq c_1 (by decide)), if_neg (sw_nq c_1 (by decide)), if_pos (sw_eq c_1 (by decide))] at h
          refine K_of b_76_48 h_76_48 ?_
          refine q_lload rfl ?_
          refine q_lload rfl ?_
          refine q_lmul ?_
          cases h
          exact q_lret rfl (Nat.le_refl _) (Nat.le_refl _) ⟨rfl, rfl⟩
        | 3, ht =>
          cases ht
          rw [if_neg (sw_nq c_1 (by decide)), if_neg (sw_nq c_1 (by decide)), if_neg (sw_nq c_1 (by decide)), if_pos (sw_eq c_1 (by decide))] at h
          refine K_of b_76_52 h_76_52 ?_
          refine q_lload rfl ?_
          refine q_lconst (0) (by decide) ?_
          refine q_lcmp ?_
          refine q_if_ne (fun c_55 => ?_) (fun c_55 => ?_)
          · rw [if_neg c_55] at h
            refine K_of b_76_64 h_76_64 ?_
            refine q_lload rfl ?_
            refine q_lload rfl ?_
            obtain ⟨d_66, h⟩ := ite_some h
            refine q_ldiv d_66 ?_
            refine q_end ?_
            refine K_of b_76_67 h_76_67 ?_
            cases h
            exact q_lret rfl (Nat.le_refl _) (Nat.le_refl _) ⟨rfl, rfl⟩
          · rw [if_pos c_55] at h
            refine q_lconst (1000000001) (by decide) ?_
            refine q_goto ?_
            refine K_of b_76_67 h_76_67 ?_
            cases h
            exact q_lret rfl (Nat.le_refl _) (Nat.le_refl _) ⟨rfl, rfl⟩
        | 4, ht =>
          cases ht
          rw [if_neg (sw_nq c_1 (by decide)), if_neg (sw_nq c_1 (by decide)), if_neg (sw_nq c_1 (by decide)), if_neg (sw_nq c_1 (by decide)), if_pos (sw_eq c_1 (by decide))] at h
          refine K_of b_76_68 h_76_68 ?_
          refine q_lload rfl ?_
          refine q_lload rfl ?_
          refine q_lcmp ?_
          refine q_if_ge (fun c_71 => ?_) (fun c_71 => ?_)
          · rw [if_pos c_71] at h
            refine K_of b_76_78 h_76_78 ?_
            refine q_lconst (0) (by decide) ?_
            refine q_end ?_
            refine K_of b_76_79 h_76_79 ?_
            cases h
            exact q_lret rfl (Nat.le_refl _) (Nat.le_refl _) ⟨rfl, rfl⟩
          · rw [if_neg c_71] at h
            refine q_lconst (1) (by decide) ?_
            refine q_goto ?_
            refine K_of b_76_79 h_76_79 ?_
            cases h
            exact q_lret rfl (Nat.le_refl _) (Nat.le_refl _) ⟨rfl, rfl⟩
        | 5, ht =>
          cases ht
          rw [if_neg (sw_nq c_1 (by decide)), if_neg (sw_nq c_1 (by decide)), if_neg (sw_nq c_1 (by decide)), if_neg (sw_nq c_1 (by decide)), if_neg (sw_nq c_1 (by decide)), if_pos (sw_eq c_1 (by decide))] at h
          refine K_of b_76_80 h_76_80 ?_
          refine q_lload rfl ?_
          refine q_lload rfl ?_
          refine q_lcmp ?_
          refine q_if_le (fun c_83 => ?_) (fun c_83 => ?_)
          · rw [if_pos c_83] at h
            refine K_of b_76_90 h_76_90 ?_
            refine q_lconst (0) (by decide) ?_
            refine q_end ?_
            refine K_of b_76_91 h_76_91 ?_
            cases h
            exact q_lret rfl (Nat.le_refl _) (Nat.le_refl _) ⟨rfl, rfl⟩
          · rw [if_neg c_83] at h
            refine q_lconst (1) (by decide) ?_
            refine q_goto ?_
            refine K_of b_76_91 h_76_91 ?_
            cases h
            exact q_lret rfl (Nat.le_refl _) (Nat.le_refl _) ⟨rfl, rfl⟩
        | j + 6, ht => simp at ht
theorem a_76 (X : GX) {z : Nat} {kd : Nat → Nat × Nat} {Rf : Nat → Nat → Option Nat} (hS : Sh z kd Rf) {n dp d : Nat} (hd : dp ≤ d) {I : (Nat → Nat → Int32)} {L : (Nat → Nat → Int64)} {i0 : Int32} {j1 : Int64} {j3 : Int64} {I1 : (Nat → Nat → Int32)} {L1 : (Nat → Nat → Int64)} {r : Int64} (h : g_76 n dp (z, kd, Rf) 0 I L i0 j1 j3 = some (r, I1, L1)) : Ct X d 76 0 0 [.int i0, .long j1, .long j3] (z, kd, I, L, Rf) (AL (fun x τ => x = r ∧ τ = (z, kd, I1, L1, Rf))) :=
  Ct_of mu_76 (Nat.le_of_ble_eq_true rfl) ((w_76 X hS n dp d hd I L i0 j1 j3 _ _ _) h)

/-! 74 CutFloor$Asker.reckon(LCutFloor$Tree;II)I -/
set_option maxHeartbeats 4000000 in
set_option maxRecDepth 100000 in
def g_74 : Nat → Nat → EN → Nat → (Nat → Nat → Int32) → (Nat → Nat → Int64) → Int32 → Int32 → Int32 → Int32 → Int32 → Int32 → Int32 → Nat →  Option (Int32 × (Nat → Nat → Int32) × (Nat → Nat → Int64))
  | 0, _, _, _, _, _, _, _, _, _, _, _, _, _ => none
  | n + 1, dp, e, lab, I, L, i2, i3, i4, i5, i6, i7, i8, a1 =>
    if lab = 0 then (g_74 n dp e 1 I L i2 i3 (0 : Int32) i2 i2 0 0 a1)
    else if lab = 1 then (if i3 ≤ i6 then (g_74 n dp e 7 I L i2 i3 i4 i5 i6 0 0 a1) else (if i3 ≤ i5 then (g_74 n dp e 7 I L i2 i3 i4 i5 i6 0 0 a1) else (if (I 21 3) = 0 then (if a1 < e.1 ∧ (e.2.1 a1).1 = 10 then ((e.2.2 a1 8).bind (fun b_29 => (if (b_29 < e.1 ∧ (e.2.1 b_29).1 = 13 ∧ (e.2.1 b_29).2 < 2 ^ 31) ∧ 0 ≤ i5 ∧ (Int32.toNatClampNeg i5) < (e.2.1 b_29).2 then (stI (I b_29 (Int32.toNatClampNeg i5)) (fun v_35 => (if a1 < e.1 ∧ (e.2.1 a1).1 = 10 then ((e.2.2 a1 9).bind (fun b_38 => (if (b_38 < e.1 ∧ (e.2.1 b_38).1 = 13 ∧ (e.2.1 b_38).2 < 2 ^ 31) ∧ 0 ≤ i5 ∧ (Int32.toNatClampNeg i5) < (e.2.1 b_38).2 then (stI (I b_38 (Int32.toNatClampNeg i5)) (fun v_44 => (if v_35 = 0 then (g_74 n dp e 2 I L i2 i3 i4 (i5 + Int32.ofInt (1)) i6 v_35 v_44 a1) else (if v_35 = (1 : Int32) then (g_74 n dp e 2 I L i2 i3 i4 (i5 + Int32.ofInt (1)) i6 v_35 v_44 a1) else (if v_35 = (9 : Int32) then (if i4 ≤ 0 then (g_74 n dp e 3 I L i2 i3 i4 (i5 + Int32.ofInt (1)) i6 v_35 v_44 a1) else (if 0 ≤ (i4 - (1 : Int32)) ∧ (Int32.toNatClampNeg (i4 - (1 : Int32))) < 64 then (if 0 ≤ (i4 - (1 : Int32)) ∧ (Int32.toNatClampNeg (i4 - (1 : Int32))) < 64 then (stI (u2 I 23 (Int32.toNatClampNeg (i4 - (1 : Int32))) ((1 : Int32) - (I 23 (Int32.toNatClampNeg (i4 - (1 : Int32)))))) (fun I_134 => (g_74 n dp e 6 I_134 L i2 i3 i4 (i5 + Int32.ofInt (1)) i6 v_35 v_44 a1))) else none) else none)) else (g_74 n dp e 3 I L i2 i3 i4 (i5 + Int32.ofInt (1)) i6 v_35 v_44 a1)))))) else none))) else none))) else none))) else none) else (g_74 n dp e 7 I L i2 i3 i4 i5 i6 0 0 a1))))
    else if lab = 2 then (if 1 ≤ dp then (if i7 = 0 then (if 0 ≤ (if (63 : Int32) < i4 then (63 : Int32) else i4) ∧ (Int32.toNatClampNeg (if (63 : Int32) < i4 then (63 : Int32) else i4)) < 64 then (stI (u2 I 23 (Int32.toNatClampNeg (if (63 : Int32) < i4 then (63 : Int32) else i4)) i8) (fun I_88 => (if 1 ≤ dp then (stI (if (64 : Int32) < (i4 + (1 : Int32)) then (64 : Int32) else (i4 + (1 : Int32))) (fun v_98 => (g_74 n dp e 6 I_88 L i2 i3 v_98 i5 i6 i7 i8 a1))) else none))) else none) else (if 0 ≤ i8 ∧ (Int32.toNatClampNeg i8) < 5 then (if 0 ≤ (if (63 : Int32) < i4 then (63 : Int32) else i4) ∧ (Int32.toNatClampNeg (if (63 : Int32) < i4 then (63 : Int32) else i4)) < 64 then (stI (u2 I 23 (Int32.toNatClampNeg (if (63 : Int32) < i4 then (63 : Int32) else i4)) (I 22 (Int32.toNatClampNeg i8))) (fun I_88 => (if 1 ≤ dp then (stI (if (64 : Int32) < (i4 + (1 : Int32)) then (64 : Int32) else (i4 + (1 : Int32))) (fun v_98 => (g_74 n dp e 6 I_88 L i2 i3 v_98 i5 i6 i7 i8 a1))) else none))) else none) else none)) else none)
    else if lab = 3 then (if i7 = (10 : Int32) then (g_74 n dp e 4 I L i2 i3 i4 i5 i6 i7 i8 a1) else (if i7 = (11 : Int32) then (g_74 n dp e 4 I L i2 i3 i4 i5 i6 i7 i8 a1) else (g_74 n dp e 5 I L i2 i3 i4 i5 i6 i7 i8 a1)))
    else if lab = 4 then (if i4 ≤ 0 then (g_74 n dp e 5 I L i2 i3 i4 i5 i6 i7 i8 a1) else (if 0 ≤ (i4 - (1 : Int32)) ∧ (Int32.toNatClampNeg (i4 - (1 : Int32))) < 64 then (if i7 = (10 : Int32) then (if (I 23 (Int32.toNatClampNeg (i4 - (1 : Int32)))) = (1 : Int32) then (if 1 ≤ dp then (stI (if i5 < i8 then i8 else i5) (fun v_188 => (g_74 n dp e 6 I L i2 i3 i4 v_188 i6 i7 i8 a1))) else none) else (g_74 n dp e 6 I L i2 i3 (i4 + Int32.ofInt (-1)) i5 i6 i7 i8 a1)) else (if (I 23 (Int32.toNatClampNeg (i4 - (1 : Int32)))) = (0 : Int32) then (if 1 ≤ dp then (stI (if i5 < i8 then i8 else i5) (fun v_188 => (g_74 n dp e 6 I L i2 i3 i4 v_188 i6 i7 i8 a1))) else none) else (g_74 n dp e 6 I L i2 i3 (i4 + Int32.ofInt (-1)) i5 i6 i7 i8 a1))) else none))
    else if lab = 5 then (if i4 ≤ (1 : Int32) then (g_74 n dp e 6 I L i2 i3 i4 i5 i6 i7 i8 a1) else (if 0 ≤ ((i4 + Int32.ofInt (-1)) - (1 : Int32)) ∧ (Int32.toNatClampNeg ((i4 + Int32.ofInt (-1)) - (1 : Int32))) < 64 then (if 0 ≤ (i4 + Int32.ofInt (-1)) ∧ (Int32.toNatClampNeg (i4 + Int32.ofInt (-1))) < 64 then (if 1 ≤ dp then (g_76 n (dp - 1) e 0 I L i7 (Int32.toInt64 (I 23 (Int32.toNatClampNeg ((i4 + Int32.ofInt (-1)) - (1 : Int32))))) (Int32.toInt64 (I 23 (Int32.toNatClampNeg (i4 + Int32.ofInt (-1)))))).bind (fun ⟨x0_228, I0_228, L0_228⟩ => (if 0 < (lg_cmp x0_228 (1000000000 : Int64)) then (stI (u2 I0_228 21 3 (1 : Int32)) (fun I_257 => (if 0 ≤ ((i4 + Int32.ofInt (-1)) - (1 : Int32)) ∧ (Int32.toNatClampNeg ((i4 + Int32.ofInt (-1)) - (1 : Int32))) < 64 then (stI (u2 I_257 23 (Int32.toNatClampNeg ((i4 + Int32.ofInt (-1)) - (1 : Int32))) (Int64.toInt32 x0_228)) (fun I_271 => (g_74 n dp e 6 I_271 L0_228 i2 i3 (i4 + Int32.ofInt (-1)) i5 i6 i7 i8 a1))) else none))) else (if 0 ≤ (lg_cmp x0_228 (-1000000000 : Int64)) then (stI (u2 I0_228 21 3 (0 : Int32)) (fun I_257 => (if 0 ≤ ((i4 + Int32.ofInt (-1)) - (1 : Int32)) ∧ (Int32.toNatClampNeg ((i4 + Int32.ofInt (-1)) - (1 : Int32))) < 64 then (stI (u2 I_257 23 (Int32.toNatClampNeg ((i4 + Int32.ofInt (-1)) - (1 : Int32))) (Int64.toInt32 x0_228)) (fun I_271 => (g_74 n dp e 6 I_271 L0_228 i2 i3 (i4 + Int32.ofInt (-1)) i5 i6 i7 i8 a1))) else none))) else (stI (u2 I0_228 21 3 (1 : Int32)) (fun I_257 => (if 0 ≤ ((i4 + Int32.ofInt (-1)) - (1 : Int32)) ∧ (Int32.toNatClampNeg ((i4 + Int32.ofInt (-1)) - (1 : Int32))) < 64 then (stI (u2 I_257 23 (Int32.toNatClampNeg ((i4 + Int32.ofInt (-1)) - (1 : Int32))) (Int64.toInt32 x0_228)) (fun I_271 => (g_74 n dp e 6 I_271 L0_228 i2 i3 (i4 + Int32.ofInt (-1)) i5 i6 i7 i8 a1))) else none)))))) else none) else none) else none))
    else if lab = 6 then (g_74 n dp e 1 I L i2 i3 i4 i5 (i6 + Int32.ofInt (1)) 0 0 a1)
    else if lab = 7 then (if i4 ≤ 0 then (some ((0 : Int32), I, L)) else (if 0 ≤ (i4 - (1 : Int32)) ∧ (Int32.toNatClampNeg (i4 - (1 : Int32))) < 64 then (some ((I 23 (Int32.toNatClampNeg (i4 - (1 : Int32)))), I, L)) else none))
    else none
set_option maxRecDepth 100000 in
theorem e_74_0 (n dp : Nat) (e : EN) (I : (Nat → Nat → Int32)) (L : (Nat → Nat → Int64)) (i2 : Int32) (i3 : Int32) (i4 : Int32) (i5 : Int32) (i6 : Int32) (i7 : Int32) (i8 : Int32) (a1 : Nat) : g_74 (n + 1) dp e 0 I L i2 i3 i4 i5 i6 i7 i8 a1 = (g_74 n dp e 1 I L i2 i3 (0 : Int32) i2 i2 0 0 a1) := by rw [g_74.eq_2, if_pos (show (0 : Nat) = 0 from rfl)]
set_option maxRecDepth 100000 in
theorem e_74_1 (n dp : Nat) (e : EN) (I : (Nat → Nat → Int32)) (L : (Nat → Nat → Int64)) (i2 : Int32) (i3 : Int32) (i4 : Int32) (i5 : Int32) (i6 : Int32) (i7 : Int32) (i8 : Int32) (a1 : Nat) : g_74 (n + 1) dp e 1 I L i2 i3 i4 i5 i6 i7 i8 a1 = (if i3 ≤ i6 then (g_74 n dp e 7 I L i2 i3 i4 i5 i6 0 0 a1) else (if i3 ≤ i5 then (g_74 n dp e 7 I L i2 i3 i4 i5 i6 0 0 a1) else (if (I 21 3) = 0 then (if a1 < e.1 ∧ (e.2.1 a1).1 = 10 then ((e.2.2 a1 8).bind (fun b_29 => (if (b_29 < e.1 ∧ (e.2.1 b_29).1 = 13 ∧ (e.2.1 b_29).2 < 2 ^ 31) ∧ 0 ≤ i5 ∧ (Int32.toNatClampNeg i5) < (e.2.1 b_29).2 then (stI (I b_29 (Int32.toNatClampNeg i5)) (fun v_35 => (if a1 < e.1 ∧ (e.2.1 a1).1 = 10 then ((e.2.2 a1 9).bind (fun b_38 => (if (b_38 < e.1 ∧ (e.2.1 b_38).1 = 13 ∧ (e.2.1 b_38).2 < 2 ^ 31) ∧ 0 ≤ i5 ∧ (Int32.toNatClampNeg i5) < (e.2.1 b_38).2 then (stI (I b_38 (Int32.toNatClampNeg i5)) (fun v_44 => (if v_35 = 0 then (g_74 n dp e 2 I L i2 i3 i4 (i5 + Int32.ofInt (1)) i6 v_35 v_44 a1) else (if v_35 = (1 : Int32) then (g_74 n dp e 2 I L i2 i3 i4 (i5 + Int32.ofInt (1)) i6 v_35 v_44 a1) else (if v_35 = (9 : Int32) then (if i4 ≤ 0 then (g_74 n dp e 3 I L i2 i3 i4 (i5 + Int32.ofInt (1)) i6 v_35 v_44 a1) else (if 0 ≤ (i4 - (1 : Int32)) ∧ (Int32.toNatClampNeg (i4 - (1 : Int32))) < 64 then (if 0 ≤ (i4 - (1 : Int32)) ∧ (Int32.toNatClampNeg (i4 - (1 : Int32))) < 64 then (stI (u2 I 23 (Int32.toNatClampNeg (i4 - (1 : Int32))) ((1 : Int32) - (I 23 (Int32.toNatClampNeg (i4 - (1 : Int32)))))) (fun I_134 => (g_74 n dp e 6 I_134 L i2 i3 i4 (i5 + Int32.ofInt (1)) i6 v_35 v_44 a1))) else none) else none)) else (g_74 n dp e 3 I L i2 i3 i4 (i5 + Int32.ofInt (1)) i6 v_35 v_44 a1)))))) else none))) else none))) else none))) else none) else (g_74 n dp e 7 I L i2 i3 i4 i5 i6 0 0 a1)))) := by rw [g_74.eq_2, if_neg (show ¬ ((1 : Nat) = 0) by decide), if_pos (show (1 : Nat) = 1 from rfl)]
set_option maxRecDepth 100000 in
theorem e_74_2 (n dp : Nat) (e : EN) (I : (Nat → Nat → Int32)) (L : (Nat → Nat → Int64)) (i2 : Int32) (i3 : Int32) (i4 : Int32) (i5 : Int32) (i6 : Int32) (i7 : Int32) (i8 : Int32) (a1 : Nat) : g_74 (n + 1) dp e 2 I L i2 i3 i4 i5 i6 i7 i8 a1 = (if 1 ≤ dp then (if i7 = 0 then (if 0 ≤ (if (63 : Int32) < i4 then (63 : Int32) else i4) ∧ (Int32.toNatClampNeg (if (63 : Int32) < i4 then (63 : Int32) else i4)) < 64 then (stI (u2 I 23 (Int32.toNatClampNeg (if (63 : Int32) < i4 then (63 : Int32) else i4)) i8) (fun I_88 => (if 1 ≤ dp then (stI (if (64 : Int32) < (i4 + (1 : Int32)) then (64 : Int32) else (i4 + (1 : Int32))) (fun v_98 => (g_74 n dp e 6 I_88 L i2 i3 v_98 i5 i6 i7 i8 a1))) else none))) else none) else (if 0 ≤ i8 ∧ (Int32.toNatClampNeg i8) < 5 then (if 0 ≤ (if (63 : Int32) < i4 then (63 : Int32) else i4) ∧ (Int32.toNatClampNeg (if (63 : Int32) < i4 then (63 : Int32) else i4)) < 64 then (stI (u2 I 23 (Int32.toNatClampNeg (if (63 : Int32) < i4 then (63 : Int32) else i4)) (I 22 (Int32.toNatClampNeg i8))) (fun I_88 => (if 1 ≤ dp then (stI (if (64 : Int32) < (i4 + (1 : Int32)) then (64 : Int32) else (i4 + (1 : Int32))) (fun v_98 => (g_74 n dp e 6 I_88 L i2 i3 v_98 i5 i6 i7 i8 a1))) else none))) else none) else none)) else none) := by rw [g_74.eq_2, if_neg (show ¬ ((2 : Nat) = 0) by decide), if_neg (show ¬ ((2 : Nat) = 1) by decide), if_pos (show (2 : Nat) = 2 from rfl)]
set_option maxRecDepth 100000 in
theorem e_74_3 (n dp : Nat) (e : EN) (I : (Nat → Nat → Int32)) (L : (Nat → Nat → Int64)) (i2 : Int32) (i3 : Int32) (i4 : Int32) (i5 : Int32) (i6 : Int32) (i7 : Int32) (i8 : Int32) (a1 : Nat) : g_74 (n + 1) dp e 3 I L i2 i3 i4 i5 i6 i7 i8 a1 = (if i7 = (10 : Int32) then (g_74 n dp e 4 I L i2 i3 i4 i5 i6 i7 i8 a1) else (if i7 = (11 : Int32) then (g_74 n dp e 4 I L i2 i3 i4 i5 i6 i7 i8 a1) else (g_74 n dp e 5 I L i2 i3 i4 i5 i6 i7 i8 a1))) := by rw [g_74.eq_2, if_neg (show ¬ ((3 : Nat) = 0) by decide), if_neg (show ¬ ((3 : Nat) = 1) by decide), if_neg (show ¬ ((3 : Nat) = 2) by decide), if_pos (show (3 : Nat) = 3 from rfl)]
set_option maxRecDepth 100000 in
theorem e_74_4 (n dp : Nat) (e : EN) (I : (Nat → Nat → Int32)) (L : (Nat → Nat → Int64)) (i2 : Int32) (i3 : Int32) (i4 : Int32) (i5 : Int32) (i6 : Int32) (i7 : Int32) (i8 : Int32) (a1 : Nat) : g_74 (n + 1) dp e 4 I L i2 i3 i4 i5 i6 i7 i8 a1 = (if i4 ≤ 0 then (g_74 n dp e 5 I L i2 i3 i4 i5 i6 i7 i8 a1) else (if 0 ≤ (i4 - (1 : Int32)) ∧ (Int32.toNatClampNeg (i4 - (1 : Int32))) < 64 then (if i7 = (10 : Int32) then (if (I 23 (Int32.toNatClampNeg (i4 - (1 : Int32)))) = (1 : Int32) then (if 1 ≤ dp then (stI (if i5 < i8 then i8 else i5) (fun v_188 => (g_74 n dp e 6 I L i2 i3 i4 v_188 i6 i7 i8 a1))) else none) else (g_74 n dp e 6 I L i2 i3 (i4 + Int32.ofInt (-1)) i5 i6 i7 i8 a1)) else (if (I 23 (Int32.toNatClampNeg (i4 - (1 : Int32)))) = (0 : Int32) then (if 1 ≤ dp then (stI (if i5 < i8 then i8 else i5) (fun v_188 => (g_74 n dp e 6 I L i2 i3 i4 v_188 i6 i7 i8 a1))) else none) else (g_74 n dp e 6 I L i2 i3 (i4 + Int32.ofInt (-1)) i5 i6 i7 i8 a1))) else none)) := by rw [g_74.eq_2, if_neg (show ¬ ((4 : Nat) = 0) by decide), if_neg (show ¬ ((4 : Nat) = 1) by decide), if_neg (show ¬ ((4 : Nat) = 2) by decide), if_neg (show ¬ ((4 : Nat) = 3) by decide), if_pos (show (4 : Nat) = 4 from rfl)]
set_option maxRecDepth 100000 in
theorem e_74_5 (n dp : Nat) (e : EN) (I : (Nat → Nat → Int32)) (L : (Nat → Nat → Int64)) (i2 : Int32) (i3 : Int32) (i4 : Int32) (i5 : Int32) (i6 : Int32) (i7 : Int32) (i8 : Int32) (a1 : Nat) : g_74 (n + 1) dp e 5 I L i2 i3 i4 i5 i6 i7 i8 a1 = (if i4 ≤ (1 : Int32) then (g_74 n dp e 6 I L i2 i3 i4 i5 i6 i7 i8 a1) else (if 0 ≤ ((i4 + Int32.ofInt (-1)) - (1 : Int32)) ∧ (Int32.toNatClampNeg ((i4 + Int32.ofInt (-1)) - (1 : Int32))) < 64 then (if 0 ≤ (i4 + Int32.ofInt (-1)) ∧ (Int32.toNatClampNeg (i4 + Int32.ofInt (-1))) < 64 then (if 1 ≤ dp then (g_76 n (dp - 1) e 0 I L i7 (Int32.toInt64 (I 23 (Int32.toNatClampNeg ((i4 + Int32.ofInt (-1)) - (1 : Int32))))) (Int32.toInt64 (I 23 (Int32.toNatClampNeg (i4 + Int32.ofInt (-1)))))).bind (fun ⟨x0_228, I0_228, L0_228⟩ => (if 0 < (lg_cmp x0_228 (1000000000 : Int64)) then (stI (u2 I0_228 21 3 (1 : Int32)) (fun I_257 => (if 0 ≤ ((i4 + Int32.ofInt (-1)) - (1 : Int32)) ∧ (Int32.toNatClampNeg ((i4 + Int32.ofInt (-1)) - (1 : Int32))) < 64 then (stI (u2 I_257 23 (Int32.toNatClampNeg ((i4 + Int32.ofInt (-1)) - (1 : Int32))) (Int64.toInt32 x0_228)) (fun I_271 => (g_74 n dp e 6 I_271 L0_228 i2 i3 (i4 + Int32.ofInt (-1)) i5 i6 i7 i8 a1))) else none))) else (if 0 ≤ (lg_cmp x0_228 (-1000000000 : Int64)) then (stI (u2 I0_228 21 3 (0 : Int32)) (fun I_257 => (if 0 ≤ ((i4 + Int32.ofInt (-1)) - (1 : Int32)) ∧ (Int32.toNatClampNeg ((i4 + Int32.ofInt (-1)) - (1 : Int32))) < 64 then (stI (u2 I_257 23 (Int32.toNatClampNeg ((i4 + Int32.ofInt (-1)) - (1 : Int32))) (Int64.toInt32 x0_228)) (fun I_271 => (g_74 n dp e 6 I_271 L0_228 i2 i3 (i4 + Int32.ofInt (-1)) i5 i6 i7 i8 a1))) else none))) else (stI (u2 I0_228 21 3 (1 : Int32)) (fun I_257 => (if 0 ≤ ((i4 + Int32.ofInt (-1)) - (1 : Int32)) ∧ (Int32.toNatClampNeg ((i4 + Int32.ofInt (-1)) - (1 : Int32))) < 64 then (stI (u2 I_257 23 (Int32.toNatClampNeg ((i4 + Int32.ofInt (-1)) - (1 : Int32))) (Int64.toInt32 x0_228)) (fun I_271 => (g_74 n dp e 6 I_271 L0_228 i2 i3 (i4 + Int32.ofInt (-1)) i5 i6 i7 i8 a1))) else none)))))) else none) else none) else none)) := by rw [g_74.eq_2, if_neg (show ¬ ((5 : Nat) = 0) by decide), if_neg (show ¬ ((5 : Nat) = 1) by decide), if_neg (show ¬ ((5 : Nat) = 2) by decide), if_neg (show ¬ ((5 : Nat) = 3) by decide), if_neg (show ¬ ((5 : Nat) = 4) by decide), if_pos (show (5 : Nat) = 5 from rfl)]
set_option maxRecDepth 100000 in
theorem e_74_6 (n dp : Nat) (e : EN) (I : (Nat → Nat → Int32)) (L : (Nat → Nat → Int64)) (i2 : Int32) (i3 : Int32) (i4 : Int32) (i5 : Int32) (i6 : Int32) (i7 : Int32) (i8 : Int32) (a1 : Nat) : g_74 (n + 1) dp e 6 I L i2 i3 i4 i5 i6 i7 i8 a1 = (g_74 n dp e 1 I L i2 i3 i4 i5 (i6 + Int32.ofInt (1)) 0 0 a1) := by rw [g_74.eq_2, if_neg (show ¬ ((6 : Nat) = 0) by decide), if_neg (show ¬ ((6 : Nat) = 1) by decide), if_neg (show ¬ ((6 : Nat) = 2) by decide), if_neg (show ¬ ((6 : Nat) = 3) by decide), if_neg (show ¬ ((6 : Nat) = 4) by decide), if_neg (show ¬ ((6 : Nat) = 5) by decide), if_pos (show (6 : Nat) = 6 from rfl)]
set_option maxRecDepth 100000 in
theorem e_74_7 (n dp : Nat) (e : EN) (I : (Nat → Nat → Int32)) (L : (Nat → Nat → Int64)) (i2 : Int32) (i3 : Int32) (i4 : Int32) (i5 : Int32) (i6 : Int32) (i7 : Int32) (i8 : Int32) (a1 : Nat) : g_74 (n + 1) dp e 7 I L i2 i3 i4 i5 i6 i7 i8 a1 = (if i4 ≤ 0 then (some ((0 : Int32), I, L)) else (if 0 ≤ (i4 - (1 : Int32)) ∧ (Int32.toNatClampNeg (i4 - (1 : Int32))) < 64 then (some ((I 23 (Int32.toNatClampNeg (i4 - (1 : Int32)))), I, L)) else none)) := by rw [g_74.eq_2, if_neg (show ¬ ((7 : Nat) = 0) by decide), if_neg (show ¬ ((7 : Nat) = 1) by decide), if_neg (show ¬ ((7 : Nat) = 2) by decide), if_neg (show ¬ ((7 : Nat) = 3) by decide), if_neg (show ¬ ((7 : Nat) = 4) by decide), if_neg (show ¬ ((7 : Nat) = 5) by decide), if_neg (show ¬ ((7 : Nat) = 6) by decide), if_pos (show (7 : Nat) = 7 from rfl)]
set_option maxHeartbeats 8000000 in
set_option maxRecDepth 100000 in
theorem w_74 (X : GX) {z : Nat} {kd : Nat → Nat × Nat} {Rf : Nat → Nat → Option Nat} (hS : Sh z kd Rf) : ∀ (n dp d : Nat), dp ≤ d → ∀ (I : (Nat → Nat → Int32)) (L : (Nat → Nat → Int64)) (i2 : Int32) (i3 : Int32) (i4 : Int32) (i5 : Int32) (i6 : Int32) (i7 : Int32) (i8 : Int32) (a1 : Nat) (r : Int32) (I1 : (Nat → Nat → Int32)) (L1 : (Nat → Nat → Int64)), (g_74 n dp (z, kd, Rf) 0 I L i2 i3 i4 i5 i6 i7 i8 a1 = some (r, I1, L1) → K X d 74 0 0 (AI (fun x τ => x = r ∧ τ = (z, kd, I1, L1, Rf))) 0 [some (.ref 21), some (.ref a1), some (.int i2), some (.int i3), none, none, none, none, none, none, none] [] (z, kd, I, L, Rf) 0 0) ∧
    (g_74 n dp (z, kd, Rf) 1 I L i2 i3 i4 i5 i6 i7 i8 a1 = some (r, I1, L1) → K X d 74 0 0 (AI (fun x τ => x = r ∧ τ = (z, kd, I1, L1, Rf))) 9 [some (.ref 21), some (.ref a1), some (.int i2), some (.int i3), some (.int i4), some (.int i5), some (.int i6), none, none, none, none] [] (z, kd, I, L, Rf) 0 0) ∧
    (g_74 n dp (z, kd, Rf) 2 I L i2 i3 i4 i5 i6 i7 i8 a1 = some (r, I1, L1) → K X d 74 0 0 (AI (fun x τ => x = r ∧ τ = (z, kd, I1, L1, Rf))) 60 [some (.ref 21), some (.ref a1), some (.int i2), some (.int i3), some (.int i4), some (.int i5), some (.int i6), some (.int i7), some (.int i8), none, none] [] (z, kd, I, L, Rf) 0 0) ∧
    (g_74 n dp (z, kd, Rf) 3 I L i2 i3 i4 i5 i6 i7 i8 a1 = some (r, I1, L1) → K X d 74 0 0 (AI (fun x τ => x = r ∧ τ = (z, kd, I1, L1, Rf))) 138 [some (.ref 21), some (.ref a1), some (.int i2), some (.int i3), some (.int i4), some (.int i5), some (.int i6), some (.int i7), some (.int i8), none, none] [] (z, kd, I, L, Rf) 0 0) ∧
    (g_74 n dp (z, kd, Rf) 4 I L i2 i3 i4 i5 i6 i7 i8 a1 = some (r, I1, L1) → K X d 74 0 0 (AI (fun x τ => x = r ∧ τ = (z, kd, I1, L1, Rf))) 152 [some (.ref 21), some (.ref a1), some (.int i2), some (.int i3), some (.int i4), some (.int i5), some (.int i6), some (.int i7), some (.int i8), none, none] [] (z, kd, I, L, Rf) 0 0) ∧
    (g_74 n dp (z, kd, Rf) 5 I L i2 i3 i4 i5 i6 i7 i8 a1 = some (r, I1, L1) → K X d 74 0 0 (AI (fun x τ => x = r ∧ τ = (z, kd, I1, L1, Rf))) 199 [some (.ref 21), some (.ref a1), some (.int i2), some (.int i3), some (.int i4), some (.int i5), some (.int i6), some (.int i7), some (.int i8), none, none] [] (z, kd, I, L, Rf) 0 0) ∧
    (g_74 n dp (z, kd, Rf) 6 I L i2 i3 i4 i5 i6 i7 i8 a1 = some (r, I1, L1) → K X d 74 0 0 (AI (fun x τ => x = r ∧ τ = (z, kd, I1, L1, Rf))) 272 [some (.ref 21), some (.ref a1), some (.int i2), some (.int i3), some (.int i4), some (.int i5), some (.int i6), some (.int i7), some (.int i8), none, none] [] (z, kd, I, L, Rf) 0 0) ∧
    (g_74 n dp (z, kd, Rf) 7 I L i2 i3 i4 i5 i6 i7 i8 a1 = some (r, I1, L1) → K X d 74 0 0 (AI (fun x τ => x = r ∧ τ = (z, kd, I1, L1, Rf))) 278 [some (.ref 21), some (.ref a1), some (.int i2), some (.int i3), some (.int i4), some (.int i5), some (.int i6), none, none, none, none] [] (z, kd, I, L, Rf) 0 0) := by
  intro n
  induction n with
  | zero => intro dp d hdp I L i2 i3 i4 i5 i6 i7 i8 a1 r I1 L1; exact ⟨(fun h => by cases h), (fun h => by cases h), (fun h => by cases h), (fun h => by cases h), (fun h => by cases h), (fun h => by cases h), (fun h => by cases h), (fun h => by cases h)⟩
  | succ n ih =>
    intro dp d hdp I L i2 i3 i4 i5 i6 i7 i8 a1 r I1 L1
    refine ⟨?_, ?_, ?_, ?_, ?_, ?_, ?_, ?_⟩
    · intro h
      rw [e_74_0] at h
      refine K_of b_74_0 h_74_0 ?_
      refine q_iconst (0) (by decide) ?_
      refine q_istore (ls1 := [some (.ref 21), some (.ref a1), some (.int i2), some (.int i3), some (.int (0 : Int32)), none, none, none, none, none, none]) (Nat.le_of_ble_eq_true rfl) rfl ?_
      refine q_iload rfl ?_
      refine q_istore (ls1 := [some (.ref 21), some (.ref a1), some (.int i2), some (.int i3), some (.int (0 : Int32)), some (.int i2), none, none, none, none, none]) (Nat.le_of_ble_eq_true rfl) rfl ?_
      refine q_iload rfl ?_
      refine q_istore (ls1 := [some (.ref 21), some (.ref a1), some (.int i2), some (.int i3), some (.int (0 : Int32)), some (.int i2), some (.int i2), none, none, none, none]) (Nat.le_of_ble_eq_true rfl) rfl ?_
      refine q_end ?_
      exact (ih dp d hdp _ _ i2 i3 (0 : Int32) i2 i2 0 0 a1 _ _ _).2.1 h
    · intro h
      rw [e_74_1] at h
      refine K_of b_74_9 h_74_9 ?_
      refine q_iload rfl ?_
      refine q_iload rfl ?_
      refine q_icmp_ge (fun c_12 => ?_) (fun c_12 => ?_)
      · rw [if_pos c_12] at h
        exact (ih dp d hdp _ _ i2 i3 i4 i5 i6 0 0 a1 _ _ _).2.2.2.2.2.2.2 h
      · rw [if_neg c_12] at h
        refine q_iload rfl ?_
        refine q_iload rfl ?_
        refine q_icmp_ge (fun c_18 => ?_) (fun c_18 => ?_)
        · rw [if_pos c_18] at h
          exact (ih dp d hdp _ _ i2 i3 i4 i5 i6 0 0 a1 _ _ _).2.2.2.2.2.2.2 h
        · rw [if_neg c_18] at h
          refine q_aload rfl ?_
          refine q_getI (c0 := 0) (j := 3) rfl rfl (zl hS 21 (by decide)) (sk hS 21 (by decide) rfl) (Or.inr rfl) (by decide) ?_
          refine q_if_ne (fun c_25 => ?_) (fun c_25 => ?_)
          · rw [if_neg c_25] at h
            exact (ih dp d hdp _ _ i2 i3 i4 i5 i6 0 0 a1 _ _ _).2.2.2.2.2.2.2 h
          · rw [if_pos c_25] at h
            refine q_aload rfl ?_
            obtain ⟨⟨z_29, k_29⟩, h⟩ := ite_some h
            obtain ⟨b_29, r_29, h⟩ := Option.bind_eq_some_iff.mp h
            refine q_getRs (c0 := 10) (j := 8) rfl rfl z_29 (fst_eq k_29) rfl (by decide) r_29 ?_
            refine q_iload rfl ?_
            obtain ⟨⟨⟨z_34, k_34, m_34⟩, u_34, v_34⟩, h⟩ := ite_some h
            refine q_ialN (Int32.toNatClampNeg i5) (nx u_34) z_34 (fst_eq k_34) v_34 m_34 ?_
            obtain ⟨v_35, nv_35, h⟩ := stI_some h
            refine q_eqi nv_35.symm ?_
            refine q_istore (ls1 := [some (.ref 21), some (.ref a1), some (.int i2), some (.int i3), some (.int i4), some (.int i5), some (.int i6), some (.int v_35), none, none, none]) (Nat.le_of_ble_eq_true rfl) rfl ?_
            refine q_aload rfl ?_
            obtain ⟨⟨z_38, k_38⟩, h⟩ := ite_some h
            obtain ⟨b_38, r_38, h⟩ := Option.bind_eq_some_iff.mp h
            refine q_getRs (c0 := 10) (j := 9) rfl rfl z_38 (fst_eq k_38) rfl (by decide) r_38 ?_
            refine q_iload rfl ?_
            obtain ⟨⟨⟨z_43, k_43, m_43⟩, u_43, v_43⟩, h⟩ := ite_some h
            refine q_ialN (Int32.toNatClampNeg i5) (nx u_43) z_43 (fst_eq k_43) v_43 m_43 ?_
            obtain ⟨v_44, nv_44, h⟩ := stI_some h
            refine q_eqi nv_44.symm ?_
            refine q_istore (ls1 := [some (.ref 21), some (.ref a1), some (.int i2), some (.int i3), some (.int i4), some (.int i5), some (.int i6), some (.int v_35), some (.int v_44), none, none]) (Nat.le_of_ble_eq_true rfl) rfl ?_
            refine q_iinc (ls1 := [some (.ref 21), some (.ref a1), some (.int i2), some (.int i3), some (.int i4), some (.int (i5 + Int32.ofInt (1))), some (.int i6), some (.int v_35), some (.int v_44), none, none]) rfl rfl ?_
            refine q_iload rfl ?_
            refine q_if_eq (fun c_51 => ?_) (fun c_51 => ?_)
            · rw [if_pos c_51] at h
              exact (ih dp d hdp _ _ i2 i3 i4 (i5 + Int32.ofInt (1)) i6 v_35 v_44 a1 _ _ _).2.2.1 h
            · rw [if_neg c_51] at h
              refine q_iload rfl ?_
              refine q_iconst (1) (by decide) ?_
              refine q_icmp_ne (fun c_57 => ?_) (fun c_57 => ?_)
              · rw [if_neg c_57] at h
                refine K_of b_74_103 h_74_103 ?_
                refine q_iload rfl ?_
                refine q_iconst (9) (by decide) ?_
                refine q_icmp_ne (fun c_107 => ?_) (fun c_107 => ?_)
                · rw [if_neg c_107] at h
                  exact (ih dp d hdp _ _ i2 i3 i4 (i5 + Int32.ofInt (1)) i6 v_35 v_44 a1 _ _ _).2.2.2.1 h
                · rw [if_pos c_107] at h
                  refine q_iload rfl ?_
                  refine q_if_le (fun c_112 => ?_) (fun c_112 => ?_)
                  · rw [if_pos c_112] at h
                    exact (ih dp d hdp _ _ i2 i3 i4 (i5 + Int32.ofInt (1)) i6 v_35 v_44 a1 _ _ _).2.2.2.1 h
                  · rw [if_neg c_112] at h
                    refine q_aload rfl ?_
                    refine q_getRs (c0 := 0) (j := 2) rfl rfl (zl hS 21 (by decide)) (sk hS 21 (by decide) rfl) rfl (by decide) (r_21_2 hS) ?_
                    refine q_iload rfl ?_
                    refine q_iconst (1) (by decide) ?_
                    refine q_isub ?_
                    refine q_iconst (1) (by decide) ?_
                    refine q_aload rfl ?_
                    refine q_getRs (c0 := 0) (j := 2) rfl rfl (zl hS 21 (by decide)) (sk hS 21 (by decide) rfl) rfl (by decide) (r_21_2 hS) ?_
                    refine q_iload rfl ?_
                    refine q_iconst (1) (by decide) ?_
                    refine q_isub ?_
                    obtain ⟨⟨u_132, v_132⟩, h⟩ := ite_some h
                    refine q_ialN (Int32.toNatClampNeg (i4 - (1 : Int32))) (nx u_132) (zl hS 23 (by decide)) (sk hS 23 (by decide) rfl) v_132 (by decide) ?_
                    refine q_isub ?_
                    obtain ⟨⟨u_134, v_134⟩, h⟩ := ite_some h
                    refine q_iasN (Int32.toNatClampNeg (i4 - (1 : Int32))) (nx u_134) (zl hS 23 (by decide)) (sk hS 23 (by decide) rfl) v_134 (by decide) ?_
                    obtain ⟨I_134, nI_134, h⟩ := stI_some h
                    refine q_nI nI_134 ?_
                    refine q_goto ?_
                    exact (ih dp d hdp _ _ i2 i3 i4 (i5 + Int32.ofInt (1)) i6 v_35 v_44 a1 _ _ _).2.2.2.2.2.2.1 h
              · rw [if_pos c_57] at h
                refine q_end ?_
                exact (ih dp d hdp _ _ i2 i3 i4 (i5 + Int32.ofInt (1)) i6 v_35 v_44 a1 _ _ _).2.2.1 h
    · intro h
      rw [e_74_2] at h
      refine K_of b_74_60 h_74_60 ?_
      refine q_aload rfl ?_
      refine q_getRs (c0 := 0) (j := 2) rfl rfl (zl hS 21 (by decide)) (sk hS 21 (by decide) rfl) rfl (by decide) (r_21_2 hS) ?_
      refine q_iload rfl ?_
      refine q_iconst (63) (by decide) ?_
      obtain ⟨d_68, h⟩ := ite_some h
      refine q_min (Nat.le_of_ble_eq_true rfl) (Nat.le_trans d_68 hdp) (Nat.le_refl _) (Nat.le_refl _) ?_
      refine q_iload rfl ?_
      refine q_if_ne (fun c_73 => ?_) (fun c_73 => ?_)
      · rw [if_neg c_73] at h
        refine K_of b_74_81 h_74_81 ?_
        refine q_aload rfl ?_
        refine q_getRs (c0 := 0) (j := 1) rfl rfl (zl hS 21 (by decide)) (sk hS 21 (by decide) rfl) rfl (by decide) (r_21_1 hS) ?_
        refine q_iload rfl ?_
        obtain ⟨⟨u_87, v_87⟩, h⟩ := ite_some h
        refine q_ialN (Int32.toNatClampNeg i8) (nx u_87) (zl hS 22 (by decide)) (sk hS 22 (by decide) rfl) v_87 (by decide) ?_
        refine q_end ?_
        refine K_of b_74_88 h_74_88 ?_
        obtain ⟨⟨u_88, v_88⟩, h⟩ := ite_some h
        refine q_iasN (Int32.toNatClampNeg (if (63 : Int32) < i4 then (63 : Int32) else i4)) (nx u_88) (zl hS 23 (by decide)) (sk hS 23 (by decide) rfl) v_88 (by decide) ?_
        obtain ⟨I_88, nI_88, h⟩ := stI_some h
        refine q_nI nI_88 ?_
        refine q_iload rfl ?_
        refine q_iconst (1) (by decide) ?_
        refine q_iadd ?_
        refine q_iconst (64) (by decide) ?_
        obtain ⟨d_95, h⟩ := ite_some h
        refine q_min (Nat.le_of_ble_eq_true rfl) (Nat.le_trans d_95 hdp) (Nat.le_refl _) (Nat.le_refl _) ?_
        obtain ⟨v_98, nv_98, h⟩ := stI_some h
        refine q_eqi nv_98.symm ?_
        refine q_istore (ls1 := [some (.ref 21), some (.ref a1), some (.int i2), some (.int i3), some (.int v_98), some (.int i5), some (.int i6), some (.int i7), some (.int i8), none, none]) (Nat.le_of_ble_eq_true rfl) rfl ?_
        refine q_goto ?_
        exact (ih dp d hdp _ _ i2 i3 v_98 i5 i6 i7 i8 a1 _ _ _).2.2.2.2.2.2.1 h
      · rw [if_pos c_73] at h
        refine q_iload rfl ?_
        refine q_goto ?_
        refine K_of b_74_88 h_74_88 ?_
        obtain ⟨⟨u_88, v_88⟩, h⟩ := ite_some h
        refine q_iasN (Int32.toNatClampNeg (if (63 : Int32) < i4 then (63 : Int32) else i4)) (nx u_88) (zl hS 23 (by decide)) (sk hS 23 (by decide) rfl) v_88 (by decide) ?_
        obtain ⟨I_88, nI_88, h⟩ := stI_some h
        refine q_nI nI_88 ?_
        refine q_iload rfl ?_
        refine q_iconst (1) (by decide) ?_
        refine q_iadd ?_
        refine q_iconst (64) (by decide) ?_
        obtain ⟨d_95, h⟩ := ite_some h
        refine q_min (Nat.le_of_ble_eq_true rfl) (Nat.le_trans d_95 hdp) (Nat.le_refl _) (Nat.le_refl _) ?_
        obtain ⟨v_98, nv_98, h⟩ := stI_some h
        refine q_eqi nv_98.symm ?_
        refine q_istore (ls1 := [some (.ref 21), some (.ref a1), some (.int i2), some (.int i3), some (.int v_98), some (.int i5), some (.int i6), some (.int i7), some (.int i8), none, none]) (Nat.le_of_ble_eq_true rfl) rfl ?_
        refine q_goto ?_
        exact (ih dp d hdp _ _ i2 i3 v_98 i5 i6 i7 i8 a1 _ _ _).2.2.2.2.2.2.1 h
    · intro h
      rw [e_74_3] at h
      refine K_of b_74_138 h_74_138 ?_
      refine q_iload rfl ?_
      refine q_iconst (10) (by decide) ?_
      refine q_icmp_eq (fun c_142 => ?_) (fun c_142 => ?_)
      · rw [if_pos c_142] at h
        exact (ih dp d hdp _ _ i2 i3 i4 i5 i6 i7 i8 a1 _ _ _).2.2.2.2.1 h
      · rw [if_neg c_142] at h
        refine q_iload rfl ?_
        refine q_iconst (11) (by decide) ?_
        refine q_icmp_ne (fun c_149 => ?_) (fun c_149 => ?_)
        · rw [if_neg c_149] at h
          exact (ih dp d hdp _ _ i2 i3 i4 i5 i6 i7 i8 a1 _ _ _).2.2.2.2.2.1 h
        · rw [if_pos c_149] at h
          refine q_end ?_
          exact (ih dp d hdp _ _ i2 i3 i4 i5 i6 i7 i8 a1 _ _ _).2.2.2.2.1 h
    · intro h
      rw [e_74_4] at h
      refine K_of b_74_152 h_74_152 ?_
      refine q_iload rfl ?_
      refine q_if_le (fun c_154 => ?_) (fun c_154 => ?_)
      · rw [if_pos c_154] at h
        exact (ih dp d hdp _ _ i2 i3 i4 i5 i6 i7 i8 a1 _ _ _).2.2.2.2.2.1 h
      · rw [if_neg c_154] at h
        refine q_aload rfl ?_
        refine q_getRs (c0 := 0) (j := 2) rfl rfl (zl hS 21 (by decide)) (sk hS 21 (by decide) rfl) rfl (by decide) (r_21_2 hS) ?_
        refine q_iload rfl ?_
        refine q_iconst (1) (by decide) ?_
        refine q_isub ?_
        obtain ⟨⟨u_165, v_165⟩, h⟩ := ite_some h
        refine q_ialN (Int32.toNatClampNeg (i4 - (1 : Int32))) (nx u_165) (zl hS 23 (by decide)) (sk hS 23 (by decide) rfl) v_165 (by decide) ?_
        refine q_iload rfl ?_
        refine q_iconst (10) (by decide) ?_
        refine q_icmp_ne (fun c_170 => ?_) (fun c_170 => ?_)
        · rw [if_neg c_170] at h
          refine K_of b_74_177 h_74_177 ?_
          refine q_iconst (0) (by decide) ?_
          refine q_end ?_
          refine K_of b_74_178 h_74_178 ?_
          refine q_icmp_ne (fun c_178 => ?_) (fun c_178 => ?_)
          · rw [if_neg c_178] at h
            refine K_of b_74_193 h_74_193 ?_
            refine q_iinc (ls1 := [some (.ref 21), some (.ref a1), some (.int i2), some (.int i3), some (.int (i4 + Int32.ofInt (-1))), some (.int i5), some (.int i6), some (.int i7), some (.int i8), none, none]) rfl rfl ?_
            refine q_goto ?_
            exact (ih dp d hdp _ _ i2 i3 (i4 + Int32.ofInt (-1)) i5 i6 i7 i8 a1 _ _ _).2.2.2.2.2.2.1 h
          · rw [if_pos c_178] at h
            refine q_iload rfl ?_
            refine q_iload rfl ?_
            obtain ⟨d_185, h⟩ := ite_some h
            refine q_max (Nat.le_of_ble_eq_true rfl) (Nat.le_trans d_185 hdp) (Nat.le_refl _) (Nat.le_refl _) ?_
            obtain ⟨v_188, nv_188, h⟩ := stI_some h
            refine q_eqi nv_188.symm ?_
            refine q_istore (ls1 := [some (.ref 21), some (.ref a1), some (.int i2), some (.int i3), some (.int i4), some (.int v_188), some (.int i6), some (.int i7), some (.int i8), none, none]) (Nat.le_of_ble_eq_true rfl) rfl ?_
            refine q_goto ?_
            exact (ih dp d hdp _ _ i2 i3 i4 v_188 i6 i7 i8 a1 _ _ _).2.2.2.2.2.2.1 h
        · rw [if_pos c_170] at h
          refine q_iconst (1) (by decide) ?_
          refine q_goto ?_
          refine K_of b_74_178 h_74_178 ?_
          refine q_icmp_ne (fun c_178 => ?_) (fun c_178 => ?_)
          · rw [if_neg c_178] at h
            refine K_of b_74_193 h_74_193 ?_
            refine q_iinc (ls1 := [some (.ref 21), some (.ref a1), some (.int i2), some (.int i3), some (.int (i4 + Int32.ofInt (-1))), some (.int i5), some (.int i6), some (.int i7), some (.int i8), none, none]) rfl rfl ?_
            refine q_goto ?_
            exact (ih dp d hdp _ _ i2 i3 (i4 + Int32.ofInt (-1)) i5 i6 i7 i8 a1 _ _ _).2.2.2.2.2.2.1 h
          · rw [if_pos c_178] at h
            refine q_iload rfl ?_
            refine q_iload rfl ?_
            obtain ⟨d_185, h⟩ := ite_some h
            refine q_max (Nat.le_of_ble_eq_true rfl) (Nat.le_trans d_185 hdp) (Nat.le_refl _) (Nat.le_refl _) ?_
            obtain ⟨v_188, nv_188, h⟩ := stI_some h
            refine q_eqi nv_188.symm ?_
            refine q_istore (ls1 := [some (.ref 21), some (.ref a1), some (.int i2), some (.int i3), some (.int i4), some (.int v_188), some (.int i6), some (.int i7), some (.int i8), none, none]) (Nat.le_of_ble_eq_true rfl) rfl ?_
            refine q_goto ?_
            exact (ih dp d hdp _ _ i2 i3 i4 v_188 i6 i7 i8 a1 _ _ _).2.2.2.2.2.2.1 h
    · intro h
      rw [e_74_5] at h
      refine K_of b_74_199 h_74_199 ?_
      refine q_iload rfl ?_
      refine q_iconst (1) (by decide) ?_
      refine q_icmp_le (fun c_202 => ?_) (fun c_202 => ?_)
      · rw [if_pos c_202] at h
        exact (ih dp d hdp _ _ i2 i3 i4 i5 i6 i7 i8 a1 _ _ _).2.2.2.2.2.2.1 h
      · rw [if_neg c_202] at h
        refine q_iinc (ls1 := [some (.ref 21), some (.ref a1), some (.int i2), some (.int i3), some (.int (i4 + Int32.ofInt (-1))), some (.int i5), some (.int i6), some (.int i7), some (.int i8), none, none]) rfl rfl ?_
        refine q_iload rfl ?_
        refine q_aload rfl ?_
        refine q_getRs (c0 := 0) (j := 2) rfl rfl (zl hS 21 (by decide)) (sk hS 21 (by decide) rfl) rfl (by decide) (r_21_2 hS) ?_
        refine q_iload rfl ?_
        refine q_iconst (1) (by decide) ?_
        refine q_isub ?_
        obtain ⟨⟨u_218, v_218⟩, h⟩ := ite_some h
        refine q_ialN (Int32.toNatClampNeg ((i4 + Int32.ofInt (-1)) - (1 : Int32))) (nx u_218) (zl hS 23 (by decide)) (sk hS 23 (by decide) rfl) v_218 (by decide) ?_
        refine q_i2l ?_
        refine q_aload rfl ?_
        refine q_getRs (c0 := 0) (j := 2) rfl rfl (zl hS 21 (by decide)) (sk hS 21 (by decide) rfl) rfl (by decide) (r_21_2 hS) ?_
        refine q_iload rfl ?_
        obtain ⟨⟨u_226, v_226⟩, h⟩ := ite_some h
        refine q_ialN (Int32.toNatClampNeg (i4 + Int32.ofInt (-1))) (nx u_226) (zl hS 23 (by decide)) (sk hS 23 (by decide) rfl) v_226 (by decide) ?_
        refine q_i2l ?_
        obtain ⟨d_228, h⟩ := ite_some h
        obtain ⟨⟨x0_228, I0_228, L0_228⟩, e_228, h⟩ := Option.bind_eq_some_iff.mp h
        dsimp only at h
        refine q_fs3L (a_76 X hS (d := d - 1) (by omega) e_228) (by omega) (Nat.le_refl _) (Nat.le_refl _) rfl (Nat.le_of_ble_eq_true rfl) ?_
        refine q_lstore (ls1 := [some (.ref 21), some (.ref a1), some (.int i2), some (.int i3), some (.int (i4 + Int32.ofInt (-1))), some (.int i5), some (.int i6), some (.int i7), some (.int i8), some (.long x0_228), none]) (Nat.le_of_ble_eq_true rfl) rfl ?_
        refine q_aload rfl ?_
        refine q_lload rfl ?_
        refine q_lconst (1000000000) (by decide) ?_
        refine q_lcmp ?_
        refine q_if_gt (fun c_240 => ?_) (fun c_240 => ?_)
        · rw [if_pos c_240] at h
          refine K_of b_74_252 h_74_252 ?_
          refine q_iconst (1) (by decide) ?_
          refine q_goto ?_
          refine K_of b_74_257 h_74_257 ?_
          refine q_putZ (c0 := 0) (j := 3) rfl rfl (zl hS 21 (by decide)) (sk hS 21 (by decide) rfl) rfl (Or.inr rfl) ?_
          obtain ⟨I_257, nI_257, h⟩ := stI_some h
          refine q_nI nI_257 ?_
          refine q_aload rfl ?_
          refine q_getRs (c0 := 0) (j := 2) rfl rfl (zl hS 21 (by decide)) (sk hS 21 (by decide) rfl) rfl (by decide) (r_21_2 hS) ?_
          refine q_iload rfl ?_
          refine q_iconst (1) (by decide) ?_
          refine q_isub ?_
          refine q_lload rfl ?_
          refine q_l2i ?_
          obtain ⟨⟨u_271, v_271⟩, h⟩ := ite_some h
          refine q_iasN (Int32.toNatClampNeg ((i4 + Int32.ofInt (-1)) - (1 : Int32))) (nx u_271) (zl hS 23 (by decide)) (sk hS 23 (by decide) rfl) v_271 (by decide) ?_
          obtain ⟨I_271, nI_271, h⟩ := stI_some h
          refine q_nI nI_271 ?_
          refine q_end ?_
          refine K_mask [true, true, true, true, true, true, true, true, true, false, false] (Nat.le_of_ble_eq_true rfl) ?_
          exact (ih dp d hdp _ _ i2 i3 (i4 + Int32.ofInt (-1)) i5 i6 i7 i8 a1 _ _ _).2.2.2.2.2.2.1 h
        · rw [if_neg c_240] at h
          refine q_lload rfl ?_
          refine q_lconst (-1000000000) (by decide) ?_
          refine q_lcmp ?_
          refine q_if_ge (fun c_249 => ?_) (fun c_249 => ?_)
          · rw [if_pos c_249] at h
            refine K_of b_74_256 h_74_256 ?_
            refine q_iconst (0) (by decide) ?_
            refine q_end ?_
            refine K_of b_74_257 h_74_257 ?_
            refine q_putZ (c0 := 0) (j := 3) rfl rfl (zl hS 21 (by decide)) (sk hS 21 (by decide) rfl) rfl (Or.inl rfl) ?_
            obtain ⟨I_257, nI_257, h⟩ := stI_some h
            refine q_nI nI_257 ?_
            refine q_aload rfl ?_
            refine q_getRs (c0 := 0) (j := 2) rfl rfl (zl hS 21 (by decide)) (sk hS 21 (by decide) rfl) rfl (by decide) (r_21_2 hS) ?_
            refine q_iload rfl ?_
            refine q_iconst (1) (by decide) ?_
            refine q_isub ?_
            refine q_lload rfl ?_
            refine q_l2i ?_
            obtain ⟨⟨u_271, v_271⟩, h⟩ := ite_some h
            refine q_iasN (Int32.toNatClampNeg ((i4 + Int32.ofInt (-1)) - (1 : Int32))) (nx u_271) (zl hS 23 (by decide)) (sk hS 23 (by decide) rfl) v_271 (by decide) ?_
            obtain ⟨I_271, nI_271, h⟩ := stI_some h
            refine q_nI nI_271 ?_
            refine q_end ?_
            refine K_mask [true, true, true, true, true, true, true, true, true, false, false] (Nat.le_of_ble_eq_true rfl) ?_
            exact (ih dp d hdp _ _ i2 i3 (i4 + Int32.ofInt (-1)) i5 i6 i7 i8 a1 _ _ _).2.2.2.2.2.2.1 h
          · rw [if_neg c_249] at h
            refine q_end ?_
            refine K_of b_74_252 h_74_252 ?_
            refine q_iconst (1) (by decide) ?_
            refine q_goto ?_
            refine K_of b_74_257 h_74_257 ?_
            refine q_putZ (c0 := 0) (j := 3) rfl rfl (zl hS 21 (by decide)) (sk hS 21 (by decide) rfl) rfl (Or.inr rfl) ?_
            obtain ⟨I_257, nI_257, h⟩ := stI_some h
            refine q_nI nI_257 ?_
            refine q_aload rfl ?_
            refine q_getRs (c0 := 0) (j := 2) rfl rfl (zl hS 21 (by decide)) (sk hS 21 (by decide) rfl) rfl (by decide) (r_21_2 hS) ?_
            refine q_iload rfl ?_
            refine q_iconst (1) (by decide) ?_
            refine q_isub ?_
            refine q_lload rfl ?_
            refine q_l2i ?_
            obtain ⟨⟨u_271, v_271⟩, h⟩ := ite_some h
            refine q_iasN (Int32.toNatClampNeg ((i4 + Int32.ofInt (-1)) - (1 : Int32))) (nx u_271) (zl hS 23 (by decide)) (sk hS 23 (by decide) rfl) v_271 (by decide) ?_
            obtain ⟨I_271, nI_271, h⟩ := stI_some h
            refine q_nI nI_271 ?_
            refine q_end ?_
            refine K_mask [true, true, true, true, true, true, true, true, true, false, false] (Nat.le_of_ble_eq_true rfl) ?_
            exact (ih dp d hdp _ _ i2 i3 (i4 + Int32.ofInt (-1)) i5 i6 i7 i8 a1 _ _ _).2.2.2.2.2.2.1 h
    · intro h
      rw [e_74_6] at h
      refine K_of b_74_272 h_74_272 ?_
      refine q_iinc (ls1 := [some (.ref 21), some (.ref a1), some (.int i2), some (.int i3), some (.int i4), some (.int i5), some (.int (i6 + Int32.ofInt (1))), some (.int i7), some (.int i8), none, none]) rfl rfl ?_
      refine q_goto ?_
      refine K_mask [true, true, true, true, true, true, true, false, false, false, false] (Nat.le_of_ble_eq_true rfl) ?_
      exact (ih dp d hdp _ _ i2 i3 i4 i5 (i6 + Int32.ofInt (1)) 0 0 a1 _ _ _).2.1 h
    · intro h
      rw [e_74_7] at h
      refine K_of b_74_278 h_74_278 ?_
      refine q_iload rfl ?_
      refine q_if_le (fun c_280 => ?_) (fun c_280 => ?_)
      · rw [if_pos c_280] at h
        refine K_of b_74_295 h_74_295 ?_
        refine q_iconst (0) (by decide) ?_
        refine q_end ?_
        refine K_of b_74_296 h_74_296 ?_
        cases h
        exact q_iret rfl (Nat.le_refl _) (Nat.le_refl _) ⟨rfl, rfl⟩
      · rw [if_neg c_280] at h
        refine q_aload rfl ?_
        refine q_getRs (c0 := 0) (j := 2) rfl rfl (zl hS 21 (by decide)) (sk hS 21 (by decide) rfl) rfl (by decide) (r_21_2 hS) ?_
        refine q_iload rfl ?_
        refine q_iconst (1) (by decide) ?_
        refine q_isub ?_
        obtain ⟨⟨u_291, v_291⟩, h⟩ := ite_some h
        refine q_ialN (Int32.toNatClampNeg (i4 - (1 : Int32))) (nx u_291) (zl hS 23 (by decide)) (sk hS 23 (by decide) rfl) v_291 (by decide) ?_
        refine q_goto ?_
        refine K_of b_74_296 h_74_296 ?_
        cases h
        exact q_iret rfl (Nat.le_refl _) (Nat.le_refl _) ⟨rfl, rfl⟩
theorem a_74 (X : GX) {z : Nat} {kd : Nat → Nat × Nat} {Rf : Nat → Nat → Option Nat} (hS : Sh z kd Rf) {n dp d : Nat} (hd : dp ≤ d) {I : (Nat → Nat → Int32)} {L : (Nat → Nat → Int64)} {a1 : Nat} {i2 : Int32} {i3 : Int32} {I1 : (Nat → Nat → Int32)} {L1 : (Nat → Nat → Int64)} {r : Int32} (h : g_74 n dp (z, kd, Rf) 0 I L i2 i3 0 0 0 0 0 a1 = some (r, I1, L1)) : Ct X d 74 0 0 [.ref 21, .ref a1, .int i2, .int i3] (z, kd, I, L, Rf) (AI (fun x τ => x = r ∧ τ = (z, kd, I1, L1, Rf))) :=
  Ct_of mu_74 (Nat.le_of_ble_eq_true rfl) ((w_74 X hS n dp d hd I L i2 i3 0 0 0 0 0 a1 _ _ _).1 h)

/-! 73 CutFloor$Asker.holds(I)Z -/
set_option maxHeartbeats 4000000 in
set_option maxRecDepth 100000 in
def g_73 : Nat → Nat → EN → Nat → (Nat → Nat → Int32) → (Nat → Nat → Int64) → Int32 → Nat →  Option (Int32 × (Nat → Nat → Int32) × (Nat → Nat → Int64))
  | 0, _, _, _, _, _, _, _ => none
  | n + 1, dp, e, lab, I, L, i1, a2 =>
    if lab = 0 then ((e.2.2 1 7).bind (fun b_4 => (stI (u2 I 21 3 (0 : Int32)) (fun I_10 => (if b_4 < e.1 ∧ (e.2.1 b_4).1 = 10 then ((e.2.2 b_4 4).bind (fun b_14 => (if (b_14 < e.1 ∧ (e.2.1 b_14).1 = 13 ∧ (e.2.1 b_14).2 < 2 ^ 31) ∧ 0 ≤ i1 ∧ (Int32.toNatClampNeg i1) < (e.2.1 b_14).2 then (if b_4 < e.1 ∧ (e.2.1 b_4).1 = 10 then ((e.2.2 b_4 3).bind (fun b_20 => (if (b_20 < e.1 ∧ (e.2.1 b_20).1 = 13 ∧ (e.2.1 b_20).2 < 2 ^ 31) ∧ 0 ≤ i1 ∧ (Int32.toNatClampNeg i1) < (e.2.1 b_20).2 then (if (I_10 b_14 (Int32.toNatClampNeg i1)) ≤ (I_10 b_20 (Int32.toNatClampNeg i1)) then (g_73 n dp e 1 I_10 L i1 b_4) else (if b_4 < e.1 ∧ (e.2.1 b_4).1 = 10 then ((e.2.2 b_4 3).bind (fun b_31 => (if (b_31 < e.1 ∧ (e.2.1 b_31).1 = 13 ∧ (e.2.1 b_31).2 < 2 ^ 31) ∧ 0 ≤ i1 ∧ (Int32.toNatClampNeg i1) < (e.2.1 b_31).2 then (if b_4 < e.1 ∧ (e.2.1 b_4).1 = 10 then ((e.2.2 b_4 4).bind (fun b_37 => (if (b_37 < e.1 ∧ (e.2.1 b_37).1 = 13 ∧ (e.2.1 b_37).2 < 2 ^ 31) ∧ 0 ≤ i1 ∧ (Int32.toNatClampNeg i1) < (e.2.1 b_37).2 then (if 1 ≤ dp then (g_74 n (dp - 1) e 0 I_10 L (I_10 b_31 (Int32.toNatClampNeg i1)) (I_10 b_37 (Int32.toNatClampNeg i1)) 0 0 0 0 0 b_4).bind (fun ⟨x0_42, I0_42, L0_42⟩ => (if (I0_42 21 3) = 0 then (if x0_42 = 0 then (some ((0 : Int32), I0_42, L0_42)) else (g_73 n dp e 1 I0_42 L0_42 i1 b_4)) else (some ((0 : Int32), I0_42, L0_42)))) else none) else none))) else none) else none))) else none)) else none))) else none) else none))) else none)))))
    else if lab = 1 then (if a2 < e.1 ∧ (e.2.1 a2).1 = 10 then ((e.2.2 a2 1).bind (fun b_63 => (if (b_63 < e.1 ∧ (e.2.1 b_63).1 = 13 ∧ (e.2.1 b_63).2 < 2 ^ 31) ∧ 0 ≤ i1 ∧ (Int32.toNatClampNeg i1) < (e.2.1 b_63).2 then (if a2 < e.1 ∧ (e.2.1 a2).1 = 10 then ((e.2.2 a2 2).bind (fun b_69 => (if (b_69 < e.1 ∧ (e.2.1 b_69).1 = 13 ∧ (e.2.1 b_69).2 < 2 ^ 31) ∧ 0 ≤ i1 ∧ (Int32.toNatClampNeg i1) < (e.2.1 b_69).2 then (if 1 ≤ dp then (g_74 n (dp - 1) e 0 I L (I b_63 (Int32.toNatClampNeg i1)) (I b_69 (Int32.toNatClampNeg i1)) 0 0 0 0 0 a2).bind (fun ⟨x0_74, I0_74, L0_74⟩ => (stI (u2 I0_74 21 4 x0_74) (fun I_77 => (if (I_77 21 3) = 0 then (some ((1 : Int32), I_77, L0_74)) else (some ((0 : Int32), I_77, L0_74)))))) else none) else none))) else none) else none))) else none)
    else none
set_option maxRecDepth 100000 in
theorem e_73_0 (n dp : Nat) (e : EN) (I : (Nat → Nat → Int32)) (L : (Nat → Nat → Int64)) (i1 : Int32) (a2 : Nat) : g_73 (n + 1) dp e 0 I L i1 a2 = ((e.2.2 1 7).bind (fun b_4 => (stI (u2 I 21 3 (0 : Int32)) (fun I_10 => (if b_4 < e.1 ∧ (e.2.1 b_4).1 = 10 then ((e.2.2 b_4 4).bind (fun b_14 => (if (b_14 < e.1 ∧ (e.2.1 b_14).1 = 13 ∧ (e.2.1 b_14).2 < 2 ^ 31) ∧ 0 ≤ i1 ∧ (Int32.toNatClampNeg i1) < (e.2.1 b_14).2 then (if b_4 < e.1 ∧ (e.2.1 b_4).1 = 10 then ((e.2.2 b_4 3).bind (fun b_20 => (if (b_20 < e.1 ∧ (e.2.1 b_20).1 = 13 ∧ (e.2.1 b_20).2 < 2 ^ 31) ∧ 0 ≤ i1 ∧ (Int32.toNatClampNeg i1) < (e.2.1 b_20).2 then (if (I_10 b_14 (Int32.toNatClampNeg i1)) ≤ (I_10 b_20 (Int32.toNatClampNeg i1)) then (g_73 n dp e 1 I_10 L i1 b_4) else (if b_4 < e.1 ∧ (e.2.1 b_4).1 = 10 then ((e.2.2 b_4 3).bind (fun b_31 => (if (b_31 < e.1 ∧ (e.2.1 b_31).1 = 13 ∧ (e.2.1 b_31).2 < 2 ^ 31) ∧ 0 ≤ i1 ∧ (Int32.toNatClampNeg i1) < (e.2.1 b_31).2 then (if b_4 < e.1 ∧ (e.2.1 b_4).1 = 10 then ((e.2.2 b_4 4).bind (fun b_37 => (if (b_37 < e.1 ∧ (e.2.1 b_37).1 = 13 ∧ (e.2.1 b_37).2 < 2 ^ 31) ∧ 0 ≤ i1 ∧ (Int32.toNatClampNeg i1) < (e.2.1 b_37).2 then (if 1 ≤ dp then (g_74 n (dp - 1) e 0 I_10 L (I_10 b_31 (Int32.toNatClampNeg i1)) (I_10 b_37 (Int32.toNatClampNeg i1)) 0 0 0 0 0 b_4).bind (fun ⟨x0_42, I0_42, L0_42⟩ => (if (I0_42 21 3) = 0 then (if x0_42 = 0 then (some ((0 : Int32), I0_42, L0_42)) else (g_73 n dp e 1 I0_42 L0_42 i1 b_4)) else (some ((0 : Int32), I0_42, L0_42)))) else none) else none))) else none) else none))) else none)) else none))) else none) else none))) else none))))) := by rw [g_73.eq_2, if_pos (show (0 : Nat) = 0 from rfl)]
set_option maxRecDepth 100000 in
theorem e_73_1 (n dp : Nat) (e : EN) (I : (Nat → Nat → Int32)) (L : (Nat → Nat → Int64)) (i1 : Int32) (a2 : Nat) : g_73 (n + 1) dp e 1 I L i1 a2 = (if a2 < e.1 ∧ (e.2.1 a2).1 = 10 then ((e.2.2 a2 1).bind (fun b_63 => (if (b_63 < e.1 ∧ (e.2.1 b_63).1 = 13 ∧ (e.2.1 b_63).2 < 2 ^ 31) ∧ 0 ≤ i1 ∧ (Int32.toNatClampNeg i1) < (e.2.1 b_63).2 then (if a2 < e.1 ∧ (e.2.1 a2).1 = 10 then ((e.2.2 a2 2).bind (fun b_69 => (if (b_69 < e.1 ∧ (e.2.1 b_69).1 = 13 ∧ (e.2.1 b_69).2 < 2 ^ 31) ∧ 0 ≤ i1 ∧ (Int32.toNatClampNeg i1) < (e.2.1 b_69).2 then (if 1 ≤ dp then (g_74 n (dp - 1) e 0 I L (I b_63 (Int32.toNatClampNeg i1)) (I b_69 (Int32.toNatClampNeg i1)) 0 0 0 0 0 a2).bind (fun ⟨x0_74, I0_74, L0_74⟩ => (stI (u2 I0_74 21 4 x0_74) (fun I_77 => (if (I_77 21 3) = 0 then (some ((1 : Int32), I_77, L0_74)) else (some ((0 : Int32), I_77, L0_74)))))) else none) else none))) else none) else none))) else none) := by rw [g_73.eq_2, if_neg (show ¬ ((1 : Nat) = 0) by decide), if_pos (show (1 : Nat) = 1 from rfl)]
set_option maxHeartbeats 8000000 in
set_option maxRecDepth 100000 in
theorem w_73 (X : GX) {z : Nat} {kd : Nat → Nat × Nat} {Rf : Nat → Nat → Option Nat} (hS : Sh z kd Rf) : ∀ (n dp d : Nat), dp ≤ d → ∀ (I : (Nat → Nat → Int32)) (L : (Nat → Nat → Int64)) (i1 : Int32) (a2 : Nat) (r : Int32) (I1 : (Nat → Nat → Int32)) (L1 : (Nat → Nat → Int64)), (g_73 n dp (z, kd, Rf) 0 I L i1 a2 = some (r, I1, L1) → K X d 73 0 0 (AI (fun x τ => x = r ∧ τ = (z, kd, I1, L1, Rf))) 0 [some (.ref 21), some (.int i1), none, none] [] (z, kd, I, L, Rf) 0 0) ∧
    (g_73 n dp (z, kd, Rf) 1 I L i1 a2 = some (r, I1, L1) → K X d 73 0 0 (AI (fun x τ => x = r ∧ τ = (z, kd, I1, L1, Rf))) 59 [some (.ref 21), some (.int i1), some (.ref a2), none] [] (z, kd, I, L, Rf) 0 0) := by
  intro n
  induction n with
  | zero => intro dp d hdp I L i1 a2 r I1 L1; exact ⟨(fun h => by cases h), (fun h => by cases h)⟩
  | succ n ih =>
    intro dp d hdp I L i1 a2 r I1 L1
    refine ⟨?_, ?_⟩
    · intro h
      rw [e_73_0] at h
      refine K_of b_73_0 h_73_0 ?_
      refine q_aload rfl ?_
      refine q_getRs (c0 := 0) (j := 0) rfl rfl (zl hS 21 (by decide)) (sk hS 21 (by decide) rfl) rfl (by decide) (r_21_0 hS) ?_
      obtain ⟨b_4, r_4, h⟩ := Option.bind_eq_some_iff.mp h
      refine q_getRs (c0 := 3) (j := 7) rfl rfl (zl hS 1 (by decide)) (sk hS 1 (by decide) rfl) rfl (by decide) r_4 ?_
      refine q_astore (ls1 := [some (.ref 21), some (.int i1), some (.ref b_4), none]) rfl (Nat.le_of_ble_eq_true rfl) rfl ?_
      refine q_aload rfl ?_
      refine q_iconst (0) (by decide) ?_
      refine q_putZ (c0 := 0) (j := 3) rfl rfl (zl hS 21 (by decide)) (sk hS 21 (by decide) rfl) rfl (Or.inl rfl) ?_
      obtain ⟨I_10, nI_10, h⟩ := stI_some h
      refine q_nI nI_10 ?_
      refine q_aload rfl ?_
      obtain ⟨⟨z_14, k_14⟩, h⟩ := ite_some h
      obtain ⟨b_14, r_14, h⟩ := Option.bind_eq_some_iff.mp h
      refine q_getRs (c0 := 10) (j := 4) rfl rfl z_14 (fst_eq k_14) rfl (by decide) r_14 ?_
      refine q_iload rfl ?_
      obtain ⟨⟨⟨z_18, k_18, m_18⟩, u_18, v_18⟩, h⟩ := ite_some h
      refine q_ialN (Int32.toNatClampNeg i1) (nx u_18) z_18 (fst_eq k_18) v_18 m_18 ?_
      refine q_aload rfl ?_
      obtain ⟨⟨z_20, k_20⟩, h⟩ := ite_some h
      obtain ⟨b_20, r_20, h⟩ := Option.bind_eq_some_iff.mp h
      refine q_getRs (c0 := 10) (j := 3) rfl rfl z_20 (fst_eq k_20) rfl (by decide) r_20 ?_
      refine q_iload rfl ?_
      obtain ⟨⟨⟨z_24, k_24, m_24⟩, u_24, v_24⟩, h⟩ := ite_some h
      refine q_ialN (Int32.toNatClampNeg i1) (nx u_24) z_24 (fst_eq k_24) v_24 m_24 ?_
      refine q_icmp_le (fun c_25 => ?_) (fun c_25 => ?_)
      · rw [if_pos c_25] at h
        exact (ih dp d hdp _ _ i1 b_4 _ _ _).2 h
      · rw [if_neg c_25] at h
        refine q_aload rfl ?_
        refine q_aload rfl ?_
        refine q_aload rfl ?_
        obtain ⟨⟨z_31, k_31⟩, h⟩ := ite_some h
        obtain ⟨b_31, r_31, h⟩ := Option.bind_eq_some_iff.mp h
        refine q_getRs (c0 := 10) (j := 3) rfl rfl z_31 (fst_eq k_31) rfl (by decide) r_31 ?_
        refine q_iload rfl ?_
        obtain ⟨⟨⟨z_35, k_35, m_35⟩, u_35, v_35⟩, h⟩ := ite_some h
        refine q_ialN (Int32.toNatClampNeg i1) (nx u_35) z_35 (fst_eq k_35) v_35 m_35 ?_
        refine q_aload rfl ?_
        obtain ⟨⟨z_37, k_37⟩, h⟩ := ite_some h
        obtain ⟨b_37, r_37, h⟩ := Option.bind_eq_some_iff.mp h
        refine q_getRs (c0 := 10) (j := 4) rfl rfl z_37 (fst_eq k_37) rfl (by decide) r_37 ?_
        refine q_iload rfl ?_
        obtain ⟨⟨⟨z_41, k_41, m_41⟩, u_41, v_41⟩, h⟩ := ite_some h
        refine q_ialN (Int32.toNatClampNeg i1) (nx u_41) z_41 (fst_eq k_41) v_41 m_41 ?_
        obtain ⟨d_42, h⟩ := ite_some h
        obtain ⟨⟨x0_42, I0_42, L0_42⟩, e_42, h⟩ := Option.bind_eq_some_iff.mp h
        dsimp only at h
        refine q_fv4I (a_74 X hS (d := d - 1) (by omega) e_42) (by omega) (Nat.le_refl _) (Nat.le_refl _) rfl (Nat.le_of_ble_eq_true rfl) ⟨(zl hS 21 (by decide)), congrArg Prod.fst (sk hS 21 (by decide) rfl), by decide⟩ ?_
        refine q_istore (ls1 := [some (.ref 21), some (.int i1), some (.ref b_4), some (.int x0_42)]) (Nat.le_of_ble_eq_true rfl) rfl ?_
        refine q_aload rfl ?_
        refine q_getI (c0 := 0) (j := 3) rfl rfl (zl hS 21 (by decide)) (sk hS 21 (by decide) rfl) (Or.inr rfl) (by decide) ?_
        refine q_if_ne (fun c_50 => ?_) (fun c_50 => ?_)
        · rw [if_neg c_50] at h
          refine K_of b_73_57 h_73_57 ?_
          refine q_iconst (0) (by decide) ?_
          cases h
          exact q_iret rfl (Nat.le_refl _) (Nat.le_refl _) ⟨rfl, rfl⟩
        · rw [if_pos c_50] at h
          refine q_iload rfl ?_
          refine q_if_ne (fun c_54 => ?_) (fun c_54 => ?_)
          · rw [if_neg c_54] at h
            refine K_mask [true, true, true, false] (Nat.le_of_ble_eq_true rfl) ?_
            exact (ih dp d hdp _ _ i1 b_4 _ _ _).2 h
          · rw [if_pos c_54] at h
            refine q_end ?_
            refine K_of b_73_57 h_73_57 ?_
            refine q_iconst (0) (by decide) ?_
            cases h
            exact q_iret rfl (Nat.le_refl _) (Nat.le_refl _) ⟨rfl, rfl⟩
    · intro h
      rw [e_73_1] at h
      refine K_of b_73_59 h_73_59 ?_
      refine q_aload rfl ?_
      refine q_aload rfl ?_
      refine q_aload rfl ?_
      refine q_aload rfl ?_
      obtain ⟨⟨z_63, k_63⟩, h⟩ := ite_some h
      obtain ⟨b_63, r_63, h⟩ := Option.bind_eq_some_iff.mp h
      refine q_getRs (c0 := 10) (j := 1) rfl rfl z_63 (fst_eq k_63) rfl (by decide) r_63 ?_
      refine q_iload rfl ?_
      obtain ⟨⟨⟨z_67, k_67, m_67⟩, u_67, v_67⟩, h⟩ := ite_some h
      refine q_ialN (Int32.toNatClampNeg i1) (nx u_67) z_67 (fst_eq k_67) v_67 m_67 ?_
      refine q_aload rfl ?_
      obtain ⟨⟨z_69, k_69⟩, h⟩ := ite_some h
      obtain ⟨b_69, r_69, h⟩ := Option.bind_eq_some_iff.mp h
      refine q_getRs (c0 := 10) (j := 2) rfl rfl z_69 (fst_eq k_69) rfl (by decide) r_69 ?_
      refine q_iload rfl ?_
      obtain ⟨⟨⟨z_73, k_73, m_73⟩, u_73, v_73⟩, h⟩ := ite_some h
      refine q_ialN (Int32.toNatClampNeg i1) (nx u_73) z_73 (fst_eq k_73) v_73 m_73 ?_
      obtain ⟨d_74, h⟩ := ite_some h
      obtain ⟨⟨x0_74, I0_74, L0_74⟩, e_74, h⟩ := Option.bind_eq_some_iff.mp h
      dsimp only at h
      refine q_fv4I (a_74 X hS (d := d - 1) (by omega) e_74) (by omega) (Nat.le_refl _) (Nat.le_refl _) rfl (Nat.le_of_ble_eq_true rfl) ⟨(zl hS 21 (by decide)), congrArg Prod.fst (sk hS 21 (by decide) rfl), by decide⟩ ?_
      refine q_putI (c0 := 0) (j := 4) rfl rfl (zl hS 21 (by decide)) (sk hS 21 (by decide) rfl) rfl ?_
      obtain ⟨I_77, nI_77, h⟩ := stI_some h
      refine q_nI nI_77 ?_
      refine q_aload rfl ?_
      refine q_getI (c0 := 0) (j := 3) rfl rfl (zl hS 21 (by decide)) (sk hS 21 (by decide) rfl) (Or.inr rfl) (by decide) ?_
      refine q_if_ne (fun c_84 => ?_) (fun c_84 => ?_)
      · rw [if_neg c_84] at h
        refine K_of b_73_91 h_73_91 ?_
        refine q_iconst (0) (by decide) ?_
        refine q_end ?_
        refine K_of b_73_92 h_73_92 ?_
        cases h
        exact q_iret rfl (Nat.le_refl _) (Nat.le_refl _) ⟨rfl, rfl⟩
      · rw [if_pos c_84] at h
        refine q_iconst (1) (by decide) ?_
        refine q_goto ?_
        refine K_of b_73_92 h_73_92 ?_
        cases h
        exact q_iret rfl (Nat.le_refl _) (Nat.le_refl _) ⟨rfl, rfl⟩
theorem a_73 (X : GX) {z : Nat} {kd : Nat → Nat × Nat} {Rf : Nat → Nat → Option Nat} (hS : Sh z kd Rf) {n dp d : Nat} (hd : dp ≤ d) {I : (Nat → Nat → Int32)} {L : (Nat → Nat → Int64)} {i1 : Int32} {I1 : (Nat → Nat → Int32)} {L1 : (Nat → Nat → Int64)} {r : Int32} (h : g_73 n dp (z, kd, Rf) 0 I L i1 0 = some (r, I1, L1)) : Ct X d 73 0 0 [.ref 21, .int i1] (z, kd, I, L, Rf) (AI (fun x τ => x = r ∧ τ = (z, kd, I1, L1, Rf))) :=
  Ct_of mu_73 (Nat.le_of_ble_eq_true rfl) ((w_73 X hS n dp d hd I L i1 0 _ _ _).1 h)

/-! 70 CutFloor$Asker.canBeGone(II)Z -/
set_option maxHeartbeats 4000000 in
set_option maxRecDepth 100000 in
def g_70 : Nat → Nat → EN → Nat → (Nat → Nat → Int32) → (Nat → Nat → Int64) → Int32 → Int32 →  Option (Int32 × (Nat → Nat → Int32) × (Nat → Nat → Int64))
  | 0, _, _, _, _, _, _, _ => none
  | n + 1, dp, e, lab, I, L, i1, i2 =>
    if lab = 0 then (if 1 ≤ dp then (g_71 n (dp - 1) e 0 I L i1 i2).bind (fun ⟨I0_3, L0_3⟩ => ((e.2.2 1 7).bind (fun b_11 => (if b_11 < e.1 ∧ (e.2.1 b_11).1 = 10 then ((e.2.2 b_11 6).bind (fun b_14 => (if (b_14 < e.1 ∧ (e.2.1 b_14).1 = 13 ∧ (e.2.1 b_14).2 < 2 ^ 31) ∧ 0 ≤ i1 ∧ (Int32.toNatClampNeg i1) < (e.2.1 b_14).2 then (if 1 ≤ dp then (g_73 n (dp - 1) e 0 I0_3 L0_3 (I0_3 b_14 (Int32.toNatClampNeg i1)) 0).bind (fun ⟨x1_19, I1_19, L1_19⟩ => (if x1_19 = 0 ∨ x1_19 = 1 then (some (x1_19, I1_19, L1_19)) else none)) else none) else none))) else none)))) else none)
    else none
set_option maxRecDepth 100000 in
theorem e_70_0 (n dp : Nat) (e : EN) (I : (Nat → Nat → Int32)) (L : (Nat → Nat → Int64)) (i1 : Int32) (i2 : Int32) : g_70 (n + 1) dp e 0 I L i1 i2 = (if 1 ≤ dp then (g_71 n (dp - 1) e 0 I L i1 i2).bind (fun ⟨I0_3, L0_3⟩ => ((e.2.2 1 7).bind (fun b_11 => (if b_11 < e.1 ∧ (e.2.1 b_11).1 = 10 then ((e.2.2 b_11 6).bind (fun b_14 => (if (b_14 < e.1 ∧ (e.2.1 b_14).1 = 13 ∧ (e.2.1 b_14).2 < 2 ^ 31) ∧ 0 ≤ i1 ∧ (Int32.toNatClampNeg i1) < (e.2.1 b_14).2 then (if 1 ≤ dp then (g_73 n (dp - 1) e 0 I0_3 L0_3 (I0_3 b_14 (Int32.toNatClampNeg i1)) 0).bind (fun ⟨x1_19, I1_19, L1_19⟩ => (if x1_19 = 0 ∨ x1_19 = 1 then (some (x1_19, I1_19, L1_19)) else none)) else none) else none))) else none)))) else none) := by rw [g_70.eq_2, if_pos (show (0 : Nat) = 0 from rfl)]
set_option maxHeartbeats 8000000 in
set_option maxRecDepth 100000 in
theorem w_70 (X : GX) {z : Nat} {kd : Nat → Nat × Nat} {Rf : Nat → Nat → Option Nat} (hS : Sh z kd Rf) : ∀ (n dp d : Nat), dp ≤ d → ∀ (I : (Nat → Nat → Int32)) (L : (Nat → Nat → Int64)) (i1 : Int32) (i2 : Int32) (r : Int32) (I1 : (Nat → Nat → Int32)) (L1 : (Nat → Nat → Int64)), (g_70 n dp (z, kd, Rf) 0 I L i1 i2 = some (r, I1, L1) → K X d 70 0 0 (AI (fun x τ => x = r ∧ τ = (z, kd, I1, L1, Rf))) 0 [some (.ref 21), some (.int i1), some (.int i2)] [] (z, kd, I, L, Rf) 0 0) := by
  intro n
  induction n with
  | zero => intro dp d hdp I L i1 i2 r I1 L1; exact fun h => by cases h
  | succ n ih =>
    intro dp d hdp I L i1 i2 r I1 L1
    · intro h
      rw [e_70_0] at h
      refine K_of b_70_0 h_70_0 ?_
      refine q_aload rfl ?_
      refine q_iload rfl ?_
      refine q_iload rfl ?_
      obtain ⟨d_3, h⟩ := ite_some h
      obtain ⟨⟨I0_3, L0_3⟩, e_3, h⟩ := Option.bind_eq_some_iff.mp h
      dsimp only at h
      refine q_fv3V (a_71 X hS (d := d - 1) (by omega) e_3) (by omega) (Nat.le_refl _) (Nat.le_refl _) rfl (Nat.le_of_ble_eq_true rfl) ⟨(zl hS 21 (by decide)), congrArg Prod.fst (sk hS 21 (by decide) rfl), by decide⟩ ?_
      refine q_aload rfl ?_
      refine q_aload rfl ?_
      refine q_getRs (c0 := 0) (j := 0) rfl rfl (zl hS 21 (by decide)) (sk hS 21 (by decide) rfl) rfl (by decide) (r_21_0 hS) ?_
      obtain ⟨b_11, r_11, h⟩ := Option.bind_eq_some_iff.mp h
      refine q_getRs (c0 := 3) (j := 7) rfl rfl (zl hS 1 (by decide)) (sk hS 1 (by decide) rfl) rfl (by decide) r_11 ?_
      obtain ⟨⟨z_14, k_14⟩, h⟩ := ite_some h
      obtain ⟨b_14, r_14, h⟩ := Option.bind_eq_some_iff.mp h
      refine q_getRs (c0 := 10) (j := 6) rfl rfl z_14 (fst_eq k_14) rfl (by decide) r_14 ?_
      refine q_iload rfl ?_
      obtain ⟨⟨⟨z_18, k_18, m_18⟩, u_18, v_18⟩, h⟩ := ite_some h
      refine q_ialN (Int32.toNatClampNeg i1) (nx u_18) z_18 (fst_eq k_18) v_18 m_18 ?_
      obtain ⟨d_19, h⟩ := ite_some h
      obtain ⟨⟨x1_19, I1_19, L1_19⟩, e_19, h⟩ := Option.bind_eq_some_iff.mp h
      dsimp only at h
      refine q_fv2I (a_73 X hS (d := d - 1) (by omega) e_19) (by omega) (Nat.le_refl _) (Nat.le_refl _) rfl (Nat.le_of_ble_eq_true rfl) ⟨(zl hS 21 (by decide)), congrArg Prod.fst (sk hS 21 (by decide) rfl), by decide⟩ ?_
      obtain ⟨w_22, h⟩ := ite_some h
      cases h
      exact q_iret (narB w_22) (Nat.le_refl _) (Nat.le_refl _) ⟨rfl, rfl⟩
theorem a_70 (X : GX) {z : Nat} {kd : Nat → Nat × Nat} {Rf : Nat → Nat → Option Nat} (hS : Sh z kd Rf) {n dp d : Nat} (hd : dp ≤ d) {I : (Nat → Nat → Int32)} {L : (Nat → Nat → Int64)} {i1 : Int32} {i2 : Int32} {I1 : (Nat → Nat → Int32)} {L1 : (Nat → Nat → Int64)} {r : Int32} (h : g_70 n dp (z, kd, Rf) 0 I L i1 i2 = some (r, I1, L1)) : Ct X d 70 0 0 [.ref 21, .int i1, .int i2] (z, kd, I, L, Rf) (AI (fun x τ => x = r ∧ τ = (z, kd, I1, L1, Rf))) :=
  Ct_of mu_70 (Nat.le_of_ble_eq_true rfl) ((w_70 X hS n dp d hd I L i1 i2 _ _ _) h)

/-! 77 CutFloor$Asker.latestOf(III)I -/
set_option maxHeartbeats 4000000 in
set_option maxRecDepth 100000 in
def g_77 : Nat → Nat → EN → Nat → (Nat → Nat → Int32) → (Nat → Nat → Int64) → Int32 → Int32 → Int32 → Int32 → Int32 →  Option (Int32 × (Nat → Nat → Int32) × (Nat → Nat → Int64))
  | 0, _, _, _, _, _, _, _, _, _, _ => none
  | n + 1, dp, e, lab, I, L, i1, i2, i3, i4, i5 =>
    if lab = 0 then (if i1 = (1 : Int32) then (if 1 ≤ dp then (g_71 n (dp - 1) e 0 I L i2 i3).bind (fun ⟨I0_16, L0_16⟩ => ((e.2.2 1 7).bind (fun b_23 => (if b_23 < e.1 ∧ (e.2.1 b_23).1 = 10 then (stI ((I0_16 b_23 10) - (1 : Int32)) (fun v_31 => (g_77 n dp e 1 I0_16 L0_16 i1 i2 i3 (60 : Int32) v_31))) else none)))) else none) else (if 1 ≤ dp then (g_71 n (dp - 1) e 0 I L i2 i3).bind (fun ⟨I0_16, L0_16⟩ => ((e.2.2 1 7).bind (fun b_23 => (if b_23 < e.1 ∧ (e.2.1 b_23).1 = 10 then (stI ((I0_16 b_23 10) - (1 : Int32)) (fun v_31 => (g_77 n dp e 1 I0_16 L0_16 i1 i2 i3 (3 : Int32) v_31))) else none)))) else none))
    else if lab = 1 then (if i5 < 0 then (if i1 = (1 : Int32) then (some ((1 : Int32), I, L)) else (some ((0 : Int32), I, L))) else ((e.2.2 1 7).bind (fun b_42 => (if b_42 < e.1 ∧ (e.2.1 b_42).1 = 10 then ((e.2.2 b_42 0).bind (fun b_45 => (if (b_45 < e.1 ∧ (e.2.1 b_45).1 = 13 ∧ (e.2.1 b_45).2 < 2 ^ 31) ∧ 0 ≤ i5 ∧ (Int32.toNatClampNeg i5) < (e.2.1 b_45).2 then (if (I b_45 (Int32.toNatClampNeg i5)) = i1 then (if 1 ≤ dp then (g_73 n (dp - 1) e 0 I L i5 0).bind (fun ⟨x0_58, I0_58, L0_58⟩ => (if x0_58 = 0 then (g_77 n dp e 2 I0_58 L0_58 i1 i2 i3 i4 i5) else (if 1 ≤ dp then (if 1 ≤ dp then (some ((if (0 : Int32) < (if (I0_58 21 4) < i4 then (I0_58 21 4) else i4) then (if (I0_58 21 4) < i4 then (I0_58 21 4) else i4) else (0 : Int32)), I0_58, L0_58)) else none) else none))) else none) else (g_77 n dp e 2 I L i1 i2 i3 i4 i5)) else none))) else none))))
    else if lab = 2 then (g_77 n dp e 1 I L i1 i2 i3 i4 (i5 + Int32.ofInt (-1)))
    else none
set_option maxRecDepth 100000 in
theorem e_77_0 (n dp : Nat) (e : EN) (I : (Nat → Nat → Int32)) (L : (Nat → Nat → Int64)) (i1 : Int32) (i2 : Int32) (i3 : Int32) (i4 : Int32) (i5 : Int32) : g_77 (n + 1) dp e 0 I L i1 i2 i3 i4 i5 = (if i1 = (1 : Int32) then (if 1 ≤ dp then (g_71 n (dp - 1) e 0 I L i2 i3).bind (fun ⟨I0_16, L0_16⟩ => ((e.2.2 1 7).bind (fun b_23 => (if b_23 < e.1 ∧ (e.2.1 b_23).1 = 10 then (stI ((I0_16 b_23 10) - (1 : Int32)) (fun v_31 => (g_77 n dp e 1 I0_16 L0_16 i1 i2 i3 (60 : Int32) v_31))) else none)))) else none) else (if 1 ≤ dp then (g_71 n (dp - 1) e 0 I L i2 i3).bind (fun ⟨I0_16, L0_16⟩ => ((e.2.2 1 7).bind (fun b_23 => (if b_23 < e.1 ∧ (e.2.1 b_23).1 = 10 then (stI ((I0_16 b_23 10) - (1 : Int32)) (fun v_31 => (g_77 n dp e 1 I0_16 L0_16 i1 i2 i3 (3 : Int32) v_31))) else none)))) else none)) := by rw [g_77.eq_2, if_pos (show (0 : Nat) = 0 from rfl)]
set_option maxRecDepth 100000 in
theorem e_77_1 (n dp : Nat) (e : EN) (I : (Nat → Nat → Int32)) (L : (Nat → Nat → Int64)) (i1 : Int32) (i2 : Int32) (i3 : Int32) (i4 : Int32) (i5 : Int32) : g_77 (n + 1) dp e 1 I L i1 i2 i3 i4 i5 = (if i5 < 0 then (if i1 = (1 : Int32) then (some ((1 : Int32), I, L)) else (some ((0 : Int32), I, L))) else ((e.2.2 1 7).bind (fun b_42 => (if b_42 < e.1 ∧ (e.2.1 b_42).1 = 10 then ((e.2.2 b_42 0).bind (fun b_45 => (if (b_45 < e.1 ∧ (e.2.1 b_45).1 = 13 ∧ (e.2.1 b_45).2 < 2 ^ 31) ∧ 0 ≤ i5 ∧ (Int32.toNatClampNeg i5) < (e.2.1 b_45).2 then (if (I b_45 (Int32.toNatClampNeg i5)) = i1 then (if 1 ≤ dp then (g_73 n (dp - 1) e 0 I L i5 0).bind (fun ⟨x0_58, I0_58, L0_58⟩ => (if x0_58 = 0 then (g_77 n dp e 2 I0_58 L0_58 i1 i2 i3 i4 i5) else (if 1 ≤ dp then (if 1 ≤ dp then (some ((if (0 : Int32) < (if (I0_58 21 4) < i4 then (I0_58 21 4) else i4) then (if (I0_58 21 4) < i4 then (I0_58 21 4) else i4) else (0 : Int32)), I0_58, L0_58)) else none) else none))) else none) else (g_77 n dp e 2 I L i1 i2 i3 i4 i5)) else none))) else none)))) := by rw [g_77.eq_2, if_neg (show ¬ ((1 : Nat) = 0) by decide), if_pos (show (1 : Nat) = 1 from rfl)]
set_option maxRecDepth 100000 in
theorem e_77_2 (n dp : Nat) (e : EN) (I : (Nat → Nat → Int32)) (L : (Nat → Nat → Int64)) (i1 : Int32) (i2 : Int32) (i3 : Int32) (i4 : Int32) (i5 : Int32) : g_77 (n + 1) dp e 2 I L i1 i2 i3 i4 i5 = (g_77 n dp e 1 I L i1 i2 i3 i4 (i5 + Int32.ofInt (-1))) := by rw [g_77.eq_2, if_neg (show ¬ ((2 : Nat) = 0) by decide), if_neg (show ¬ ((2 : Nat) = 1) by decide), if_pos (show (2 : Nat) = 2 from rfl)]
set_option maxHeartbeats 8000000 in
set_option maxRecDepth 100000 in
theorem w_77 (X : GX) {z : Nat} {kd : Nat → Nat × Nat} {Rf : Nat → Nat → Option Nat} (hS : Sh z kd Rf) : ∀ (n dp d : Nat), dp ≤ d → ∀ (I : (Nat → Nat → Int32)) (L : (Nat → Nat → Int64)) (i1 : Int32) (i2 : Int32) (i3 : Int32) (i4 : Int32) (i5 : Int32) (r : Int32) (I1 : (Nat → Nat → Int32)) (L1 : (Nat → Nat → Int64)), (g_77 n dp (z, kd, Rf) 0 I L i1 i2 i3 i4 i5 = some (r, I1, L1) → K X d 77 0 0 (AI (fun x τ => x = r ∧ τ = (z, kd, I1, L1, Rf))) 0 [some (.ref 21), some (.int i1), some (.int i2), some (.int i3), none, none] [] (z, kd, I, L, Rf) 0 0) ∧
    (g_77 n dp (z, kd, Rf) 1 I L i1 i2 i3 i4 i5 = some (r, I1, L1) → K X d 77 0 0 (AI (fun x τ => x = r ∧ τ = (z, kd, I1, L1, Rf))) 33 [some (.ref 21), some (.int i1), some (.int i2), some (.int i3), some (.int i4), some (.int i5)] [] (z, kd, I, L, Rf) 0 0) ∧
    (g_77 n dp (z, kd, Rf) 2 I L i1 i2 i3 i4 i5 = some (r, I1, L1) → K X d 77 0 0 (AI (fun x τ => x = r ∧ τ = (z, kd, I1, L1, Rf))) 78 [some (.ref 21), some (.int i1), some (.int i2), some (.int i3), some (.int i4), some (.int i5)] [] (z, kd, I, L, Rf) 0 0) := by
  intro n
  induction n with
  | zero => intro dp d hdp I L i1 i2 i3 i4 i5 r I1 L1; exact ⟨(fun h => by cases h), (fun h => by cases h), (fun h => by cases h)⟩
  | succ n ih =>
    intro dp d hdp I L i1 i2 i3 i4 i5 r I1 L1
    refine ⟨?_, ?_, ?_⟩
    · intro h
      rw [e_77_0] at h
      refine K_of b_77_0 h_77_0 ?_
      refine q_iload rfl ?_
      refine q_iconst (1) (by decide) ?_
      refine q_icmp_ne (fun c_2 => ?_) (fun c_2 => ?_)
      · rw [if_neg c_2] at h
        refine K_of b_77_10 h_77_10 ?_
        refine q_iconst (3) (by decide) ?_
        refine q_end ?_
        refine K_of b_77_11 h_77_11 ?_
        refine q_istore (ls1 := [some (.ref 21), some (.int i1), some (.int i2), some (.int i3), some (.int (3 : Int32)), none]) (Nat.le_of_ble_eq_true rfl) rfl ?_
        refine q_aload rfl ?_
        refine q_iload rfl ?_
        refine q_iload rfl ?_
        obtain ⟨d_16, h⟩ := ite_some h
        obtain ⟨⟨I0_16, L0_16⟩, e_16, h⟩ := Option.bind_eq_some_iff.mp h
        dsimp only at h
        refine q_fv3V (a_71 X hS (d := d - 1) (by omega) e_16) (by omega) (Nat.le_refl _) (Nat.le_refl _) rfl (Nat.le_of_ble_eq_true rfl) ⟨(zl hS 21 (by decide)), congrArg Prod.fst (sk hS 21 (by decide) rfl), by decide⟩ ?_
        refine q_aload rfl ?_
        refine q_getRs (c0 := 0) (j := 0) rfl rfl (zl hS 21 (by decide)) (sk hS 21 (by decide) rfl) rfl (by decide) (r_21_0 hS) ?_
        obtain ⟨b_23, r_23, h⟩ := Option.bind_eq_some_iff.mp h
        refine q_getRs (c0 := 3) (j := 7) rfl rfl (zl hS 1 (by decide)) (sk hS 1 (by decide) rfl) rfl (by decide) r_23 ?_
        obtain ⟨⟨z_26, k_26⟩, h⟩ := ite_some h
        refine q_getI (c0 := 10) (j := 10) rfl rfl z_26 (fst_eq k_26) (Or.inl rfl) (by decide) ?_
        refine q_iconst (1) (by decide) ?_
        refine q_isub ?_
        obtain ⟨v_31, nv_31, h⟩ := stI_some h
        refine q_eqi nv_31.symm ?_
        refine q_istore (ls1 := [some (.ref 21), some (.int i1), some (.int i2), some (.int i3), some (.int (3 : Int32)), some (.int v_31)]) (Nat.le_of_ble_eq_true rfl) rfl ?_
        refine q_end ?_
        exact (ih dp d hdp _ _ i1 i2 i3 (3 : Int32) v_31 _ _ _).2.1 h
      · rw [if_pos c_2] at h
        refine q_iconst (60) (by decide) ?_
        refine q_goto ?_
        refine K_of b_77_11 h_77_11 ?_
        refine q_istore (ls1 := [some (.ref 21), some (.int i1), some (.int i2), some (.int i3), some (.int (60 : Int32)), none]) (Nat.le_of_ble_eq_true rfl) rfl ?_
        refine q_aload rfl ?_
        refine q_iload rfl ?_
        refine q_iload rfl ?_
        obtain ⟨d_16, h⟩ := ite_some h
        obtain ⟨⟨I0_16, L0_16⟩, e_16, h⟩ := Option.bind_eq_some_iff.mp h
        dsimp only at h
        refine q_fv3V (a_71 X hS (d := d - 1) (by omega) e_16) (by omega) (Nat.le_refl _) (Nat.le_refl _) rfl (Nat.le_of_ble_eq_true rfl) ⟨(zl hS 21 (by decide)), congrArg Prod.fst (sk hS 21 (by decide) rfl), by decide⟩ ?_
        refine q_aload rfl ?_
        refine q_getRs (c0 := 0) (j := 0) rfl rfl (zl hS 21 (by decide)) (sk hS 21 (by decide) rfl) rfl (by decide) (r_21_0 hS) ?_
        obtain ⟨b_23, r_23, h⟩ := Option.bind_eq_some_iff.mp h
        refine q_getRs (c0 := 3) (j := 7) rfl rfl (zl hS 1 (by decide)) (sk hS 1 (by decide) rfl) rfl (by decide) r_23 ?_
        obtain ⟨⟨z_26, k_26⟩, h⟩ := ite_some h
        refine q_getI (c0 := 10) (j := 10) rfl rfl z_26 (fst_eq k_26) (Or.inl rfl) (by decide) ?_
        refine q_iconst (1) (by decide) ?_
        refine q_isub ?_
        obtain ⟨v_31, nv_31, h⟩ := stI_some h
        refine q_eqi nv_31.symm ?_
        refine q_istore (ls1 := [some (.ref 21), some (.int i1), some (.int i2), some (.int i3), some (.int (60 : Int32)), some (.int v_31)]) (Nat.le_of_ble_eq_true rfl) rfl ?_
        refine q_end ?_
        exact (ih dp d hdp _ _ i1 i2 i3 (60 : Int32) v_31 _ _ _).2.1 h
    · intro h
      rw [e_77_1] at h
      refine K_of b_77_33 h_77_33 ?_
      refine q_iload rfl ?_
      refine q_if_lt (fun c_35 => ?_) (fun c_35 => ?_)
      · rw [if_pos c_35] at h
        refine K_of b_77_84 h_77_84 ?_
        refine q_iload rfl ?_
        refine q_iconst (1) (by decide) ?_
        refine q_icmp_ne (fun c_86 => ?_) (fun c_86 => ?_)
        · rw [if_neg c_86] at h
          refine K_of b_77_93 h_77_93 ?_
          refine q_iconst (0) (by decide) ?_
          refine q_end ?_
          refine K_of b_77_94 h_77_94 ?_
          cases h
          exact q_iret rfl (Nat.le_refl _) (Nat.le_refl _) ⟨rfl, rfl⟩
        · rw [if_pos c_86] at h
          refine q_iconst (1) (by decide) ?_
          refine q_goto ?_
          refine K_of b_77_94 h_77_94 ?_
          cases h
          exact q_iret rfl (Nat.le_refl _) (Nat.le_refl _) ⟨rfl, rfl⟩
      · rw [if_neg c_35] at h
        refine q_aload rfl ?_
        refine q_getRs (c0 := 0) (j := 0) rfl rfl (zl hS 21 (by decide)) (sk hS 21 (by decide) rfl) rfl (by decide) (r_21_0 hS) ?_
        obtain ⟨b_42, r_42, h⟩ := Option.bind_eq_some_iff.mp h
        refine q_getRs (c0 := 3) (j := 7) rfl rfl (zl hS 1 (by decide)) (sk hS 1 (by decide) rfl) rfl (by decide) r_42 ?_
        obtain ⟨⟨z_45, k_45⟩, h⟩ := ite_some h
        obtain ⟨b_45, r_45, h⟩ := Option.bind_eq_some_iff.mp h
        refine q_getRs (c0 := 10) (j := 0) rfl rfl z_45 (fst_eq k_45) rfl (by decide) r_45 ?_
        refine q_iload rfl ?_
        obtain ⟨⟨⟨z_50, k_50, m_50⟩, u_50, v_50⟩, h⟩ := ite_some h
        refine q_ialN (Int32.toNatClampNeg i5) (nx u_50) z_50 (fst_eq k_50) v_50 m_50 ?_
        refine q_iload rfl ?_
        refine q_icmp_ne (fun c_52 => ?_) (fun c_52 => ?_)
        · rw [if_neg c_52] at h
          exact (ih dp d hdp _ _ i1 i2 i3 i4 i5 _ _ _).2.2 h
        · rw [if_pos c_52] at h
          refine q_aload rfl ?_
          refine q_iload rfl ?_
          obtain ⟨d_58, h⟩ := ite_some h
          obtain ⟨⟨x0_58, I0_58, L0_58⟩, e_58, h⟩ := Option.bind_eq_some_iff.mp h
          dsimp only at h
          refine q_fv2I (a_73 X hS (d := d - 1) (by omega) e_58) (by omega) (Nat.le_refl _) (Nat.le_refl _) rfl (Nat.le_of_ble_eq_true rfl) ⟨(zl hS 21 (by decide)), congrArg Prod.fst (sk hS 21 (by decide) rfl), by decide⟩ ?_
          refine q_if_eq (fun c_61 => ?_) (fun c_61 => ?_)
          · rw [if_pos c_61] at h
            exact (ih dp d hdp _ _ i1 i2 i3 i4 i5 _ _ _).2.2 h
          · rw [if_neg c_61] at h
            refine q_iconst (0) (by decide) ?_
            refine q_iload rfl ?_
            refine q_aload rfl ?_
            refine q_getI (c0 := 0) (j := 4) rfl rfl (zl hS 21 (by decide)) (sk hS 21 (by decide) rfl) (Or.inl rfl) (by decide) ?_
            obtain ⟨d_71, h⟩ := ite_some h
            refine q_min (Nat.le_of_ble_eq_true rfl) (Nat.le_trans d_71 hdp) (Nat.le_refl _) (Nat.le_refl _) ?_
            obtain ⟨d_74, h⟩ := ite_some h
            refine q_max (Nat.le_of_ble_eq_true rfl) (Nat.le_trans d_74 hdp) (Nat.le_refl _) (Nat.le_refl _) ?_
            cases h
            exact q_iret rfl (Nat.le_refl _) (Nat.le_refl _) ⟨rfl, rfl⟩
    · intro h
      rw [e_77_2] at h
      refine K_of b_77_78 h_77_78 ?_
      refine q_iinc (ls1 := [some (.ref 21), some (.int i1), some (.int i2), some (.int i3), some (.int i4), some (.int (i5 + Int32.ofInt (-1)))]) rfl rfl ?_
      refine q_goto ?_
      exact (ih dp d hdp _ _ i1 i2 i3 i4 (i5 + Int32.ofInt (-1)) _ _ _).2.1 h
theorem a_77 (X : GX) {z : Nat} {kd : Nat → Nat × Nat} {Rf : Nat → Nat → Option Nat} (hS : Sh z kd Rf) {n dp d : Nat} (hd : dp ≤ d) {I : (Nat → Nat → Int32)} {L : (Nat → Nat → Int64)} {i1 : Int32} {i2 : Int32} {i3 : Int32} {I1 : (Nat → Nat → Int32)} {L1 : (Nat → Nat → Int64)} {r : Int32} (h : g_77 n dp (z, kd, Rf) 0 I L i1 i2 i3 0 0 = some (r, I1, L1)) : Ct X d 77 0 0 [.ref 21, .int i1, .int i2, .int i3] (z, kd, I, L, Rf) (AI (fun x τ => x = r ∧ τ = (z, kd, I1, L1, Rf))) :=
  Ct_of mu_77 (Nat.le_of_ble_eq_true rfl) ((w_77 X hS n dp d hd I L i1 i2 i3 0 0 _ _ _).1 h)

/-! 78 CutFloor$Hall.wasteOf(II)I -/
set_option maxHeartbeats 4000000 in
set_option maxRecDepth 100000 in
def g_78 : Nat → Nat → EN → Nat → (Nat → Nat → Int32) → (Nat → Nat → Int64) → Int32 → Int32 → Int32 → Int32 →  Option (Int32 × (Nat → Nat → Int32) × (Nat → Nat → Int64))
  | 0, _, _, _, _, _, _, _, _, _ => none
  | n + 1, dp, e, lab, I, L, i1, i2, i3, i4 =>
    if lab = 0 then ((e.2.2 1 7).bind (fun b_2 => (if b_2 < e.1 ∧ (e.2.1 b_2).1 = 10 then ((e.2.2 b_2 5).bind (fun b_5 => (if (b_5 < e.1 ∧ (e.2.1 b_5).1 = 13 ∧ (e.2.1 b_5).2 < 2 ^ 31) ∧ 0 ≤ i1 ∧ (Int32.toNatClampNeg i1) < (e.2.1 b_5).2 then (if 1 ≤ dp then (g_72 n (dp - 1) e 0 I L (I b_5 (Int32.toNatClampNeg i1)) i2).bind (fun ⟨x0_11, I0_11, L0_11⟩ => (g_78 n dp e 1 I0_11 L0_11 i1 i2 x0_11 (0 : Int32))) else none) else none))) else none)))
    else if lab = 1 then (if (10 : Int32) ≤ i4 then (some (i3, I, L)) else ((e.2.2 1 7).bind (fun b_27 => (if b_27 < e.1 ∧ (e.2.1 b_27).1 = 10 then ((e.2.2 b_27 7).bind (fun b_30 => (if (b_30 < e.1 ∧ (e.2.1 b_30).1 = 13 ∧ (e.2.1 b_30).2 < 2 ^ 31) ∧ 0 ≤ ((i1 * (10 : Int32)) + i4) ∧ (Int32.toNatClampNeg ((i1 * (10 : Int32)) + i4)) < (e.2.1 b_30).2 then (if 1 ≤ dp then (g_72 n (dp - 1) e 0 I L i4 i2).bind (fun ⟨x0_45, I0_45, L0_45⟩ => (stI (i3 - ((I b_30 (Int32.toNatClampNeg ((i1 * (10 : Int32)) + i4))) * x0_45)) (fun v_50 => (g_78 n dp e 1 I0_45 L0_45 i1 i2 v_50 (i4 + Int32.ofInt (1)))))) else none) else none))) else none))))
    else none
set_option maxRecDepth 100000 in
theorem e_78_0 (n dp : Nat) (e : EN) (I : (Nat → Nat → Int32)) (L : (Nat → Nat → Int64)) (i1 : Int32) (i2 : Int32) (i3 : Int32) (i4 : Int32) : g_78 (n + 1) dp e 0 I L i1 i2 i3 i4 = ((e.2.2 1 7).bind (fun b_2 => (if b_2 < e.1 ∧ (e.2.1 b_2).1 = 10 then ((e.2.2 b_2 5).bind (fun b_5 => (if (b_5 < e.1 ∧ (e.2.1 b_5).1 = 13 ∧ (e.2.1 b_5).2 < 2 ^ 31) ∧ 0 ≤ i1 ∧ (Int32.toNatClampNeg i1) < (e.2.1 b_5).2 then (if 1 ≤ dp then (g_72 n (dp - 1) e 0 I L (I b_5 (Int32.toNatClampNeg i1)) i2).bind (fun ⟨x0_11, I0_11, L0_11⟩ => (g_78 n dp e 1 I0_11 L0_11 i1 i2 x0_11 (0 : Int32))) else none) else none))) else none))) := by rw [g_78.eq_2, if_pos (show (0 : Nat) = 0 from rfl)]
set_option maxRecDepth 100000 in
theorem e_78_1 (n dp : Nat) (e : EN) (I : (Nat → Nat → Int32)) (L : (Nat → Nat → Int64)) (i1 : Int32) (i2 : Int32) (i3 : Int32) (i4 : Int32) : g_78 (n + 1) dp e 1 I L i1 i2 i3 i4 = (if (10 : Int32) ≤ i4 then (some (i3, I, L)) else ((e.2.2 1 7).bind (fun b_27 => (if b_27 < e.1 ∧ (e.2.1 b_27).1 = 10 then ((e.2.2 b_27 7).bind (fun b_30 => (if (b_30 < e.1 ∧ (e.2.1 b_30).1 = 13 ∧ (e.2.1 b_30).2 < 2 ^ 31) ∧ 0 ≤ ((i1 * (10 : Int32)) + i4) ∧ (Int32.toNatClampNeg ((i1 * (10 : Int32)) + i4)) < (e.2.1 b_30).2 then (if 1 ≤ dp then (g_72 n (dp - 1) e 0 I L i4 i2).bind (fun ⟨x0_45, I0_45, L0_45⟩ => (stI (i3 - ((I b_30 (Int32.toNatClampNeg ((i1 * (10 : Int32)) + i4))) * x0_45)) (fun v_50 => (g_78 n dp e 1 I0_45 L0_45 i1 i2 v_50 (i4 + Int32.ofInt (1)))))) else none) else none))) else none)))) := by rw [g_78.eq_2, if_neg (show ¬ ((1 : Nat) = 0) by decide), if_pos (show (1 : Nat) = 1 from rfl)]
set_option maxHeartbeats 8000000 in
set_option maxRecDepth 100000 in
theorem w_78 (X : GX) {z : Nat} {kd : Nat → Nat × Nat} {Rf : Nat → Nat → Option Nat} (hS : Sh z kd Rf) : ∀ (n dp d : Nat), dp ≤ d → ∀ (I : (Nat → Nat → Int32)) (L : (Nat → Nat → Int64)) (i1 : Int32) (i2 : Int32) (i3 : Int32) (i4 : Int32) (r : Int32) (I1 : (Nat → Nat → Int32)) (L1 : (Nat → Nat → Int64)), (g_78 n dp (z, kd, Rf) 0 I L i1 i2 i3 i4 = some (r, I1, L1) → K X d 78 0 0 (AI (fun x τ => x = r ∧ τ = (z, kd, I1, L1, Rf))) 0 [some (.ref 1), some (.int i1), some (.int i2), none, none] [] (z, kd, I, L, Rf) 0 0) ∧
    (g_78 n dp (z, kd, Rf) 1 I L i1 i2 i3 i4 = some (r, I1, L1) → K X d 78 0 0 (AI (fun x τ => x = r ∧ τ = (z, kd, I1, L1, Rf))) 18 [some (.ref 1), some (.int i1), some (.int i2), some (.int i3), some (.int i4)] [] (z, kd, I, L, Rf) 0 0) := by
  intro n
  induction n with
  | zero => intro dp d hdp I L i1 i2 i3 i4 r I1 L1; exact ⟨(fun h => by cases h), (fun h => by cases h)⟩
  | succ n ih =>
    intro dp d hdp I L i1 i2 i3 i4 r I1 L1
    refine ⟨?_, ?_⟩
    · intro h
      rw [e_78_0] at h
      refine K_of b_78_0 h_78_0 ?_
      refine q_aload rfl ?_
      refine q_aload rfl ?_
      obtain ⟨b_2, r_2, h⟩ := Option.bind_eq_some_iff.mp h
      refine q_getRs (c0 := 3) (j := 7) rfl rfl (zl hS 1 (by decide)) (sk hS 1 (by decide) rfl) rfl (by decide) r_2 ?_
      obtain ⟨⟨z_5, k_5⟩, h⟩ := ite_some h
      obtain ⟨b_5, r_5, h⟩ := Option.bind_eq_some_iff.mp h
      refine q_getRs (c0 := 10) (j := 5) rfl rfl z_5 (fst_eq k_5) rfl (by decide) r_5 ?_
      refine q_iload rfl ?_
      obtain ⟨⟨⟨z_9, k_9, m_9⟩, u_9, v_9⟩, h⟩ := ite_some h
      refine q_ialN (Int32.toNatClampNeg i1) (nx u_9) z_9 (fst_eq k_9) v_9 m_9 ?_
      refine q_iload rfl ?_
      obtain ⟨d_11, h⟩ := ite_some h
      obtain ⟨⟨x0_11, I0_11, L0_11⟩, e_11, h⟩ := Option.bind_eq_some_iff.mp h
      dsimp only at h
      refine q_fv3I (a_72 X hS (d := d - 1) (by omega) e_11) (by omega) (Nat.le_refl _) (Nat.le_refl _) rfl (Nat.le_of_ble_eq_true rfl) ⟨(zl hS 1 (by decide)), congrArg Prod.fst (sk hS 1 (by decide) rfl), by decide⟩ ?_
      refine q_istore (ls1 := [some (.ref 1), some (.int i1), some (.int i2), some (.int x0_11), none]) (Nat.le_of_ble_eq_true rfl) rfl ?_
      refine q_iconst (0) (by decide) ?_
      refine q_istore (ls1 := [some (.ref 1), some (.int i1), some (.int i2), some (.int x0_11), some (.int (0 : Int32))]) (Nat.le_of_ble_eq_true rfl) rfl ?_
      refine q_end ?_
      exact (ih dp d hdp _ _ i1 i2 x0_11 (0 : Int32) _ _ _).2 h
    · intro h
      rw [e_78_1] at h
      refine K_of b_78_18 h_78_18 ?_
      refine q_iload rfl ?_
      refine q_iconst (10) (by decide) ?_
      refine q_icmp_ge (fun c_22 => ?_) (fun c_22 => ?_)
      · rw [if_pos c_22] at h
        refine K_of b_78_57 h_78_57 ?_
        refine q_iload rfl ?_
        cases h
        exact q_iret rfl (Nat.le_refl _) (Nat.le_refl _) ⟨rfl, rfl⟩
      · rw [if_neg c_22] at h
        refine q_iload rfl ?_
        refine q_aload rfl ?_
        obtain ⟨b_27, r_27, h⟩ := Option.bind_eq_some_iff.mp h
        refine q_getRs (c0 := 3) (j := 7) rfl rfl (zl hS 1 (by decide)) (sk hS 1 (by decide) rfl) rfl (by decide) r_27 ?_
        obtain ⟨⟨z_30, k_30⟩, h⟩ := ite_some h
        obtain ⟨b_30, r_30, h⟩ := Option.bind_eq_some_iff.mp h
        refine q_getRs (c0 := 10) (j := 7) rfl rfl z_30 (fst_eq k_30) rfl (by decide) r_30 ?_
        refine q_iload rfl ?_
        refine q_iconst (10) (by decide) ?_
        refine q_imul ?_
        refine q_iload rfl ?_
        refine q_iadd ?_
        obtain ⟨⟨⟨z_40, k_40, m_40⟩, u_40, v_40⟩, h⟩ := ite_some h
        refine q_ialN (Int32.toNatClampNeg ((i1 * (10 : Int32)) + i4)) (nx u_40) z_40 (fst_eq k_40) v_40 m_40 ?_
        refine q_aload rfl ?_
        refine q_iload rfl ?_
        refine q_iload rfl ?_
        obtain ⟨d_45, h⟩ := ite_some h
        obtain ⟨⟨x0_45, I0_45, L0_45⟩, e_45, h⟩ := Option.bind_eq_some_iff.mp h
        dsimp only at h
        refine q_fv3I (a_72 X hS (d := d - 1) (by omega) e_45) (by omega) (Nat.le_refl _) (Nat.le_refl _) rfl (Nat.le_of_ble_eq_true rfl) ⟨(zl hS 1 (by decide)), congrArg Prod.fst (sk hS 1 (by decide) rfl), by decide⟩ ?_
        refine q_imul ?_
        refine q_isub ?_
        obtain ⟨v_50, nv_50, h⟩ := stI_some h
        refine q_eqi nv_50.symm ?_
        refine q_istore (ls1 := [some (.ref 1), some (.int i1), some (.int i2), some (.int v_50), some (.int i4)]) (Nat.le_of_ble_eq_true rfl) rfl ?_
        refine q_iinc (ls1 := [some (.ref 1), some (.int i1), some (.int i2), some (.int v_50), some (.int (i4 + Int32.ofInt (1)))]) rfl rfl ?_
        refine q_goto ?_
        exact (ih dp d hdp _ _ i1 i2 v_50 (i4 + Int32.ofInt (1)) _ _ _).2 h
theorem a_78 (X : GX) {z : Nat} {kd : Nat → Nat × Nat} {Rf : Nat → Nat → Option Nat} (hS : Sh z kd Rf) {n dp d : Nat} (hd : dp ≤ d) {I : (Nat → Nat → Int32)} {L : (Nat → Nat → Int64)} {i1 : Int32} {i2 : Int32} {I1 : (Nat → Nat → Int32)} {L1 : (Nat → Nat → Int64)} {r : Int32} (h : g_78 n dp (z, kd, Rf) 0 I L i1 i2 0 0 = some (r, I1, L1)) : Ct X d 78 0 0 [.ref 1, .int i1, .int i2] (z, kd, I, L, Rf) (AI (fun x τ => x = r ∧ τ = (z, kd, I1, L1, Rf))) :=
  Ct_of mu_78 (Nat.le_of_ble_eq_true rfl) ((w_78 X hS n dp d hd I L i1 i2 0 0 _ _ _).1 h)

/-! 79 CutFloor$Hall.isOff(II)Z -/
set_option maxHeartbeats 4000000 in
set_option maxRecDepth 100000 in
def g_79 : Nat → Nat → EN → Nat → (Nat → Nat → Int32) → (Nat → Nat → Int64) → Int32 → Int32 → Int32 →  Option (Int32 × (Nat → Nat → Int32) × (Nat → Nat → Int64))
  | 0, _, _, _, _, _, _, _, _ => none
  | n + 1, dp, e, lab, I, L, i1, i2, i3 =>
    if lab = 0 then (if 1 ≤ dp then (g_78 n (dp - 1) e 0 I L i1 i2 0 0).bind (fun ⟨x0_3, I0_3, L0_3⟩ => (if x0_3 < 0 then (g_79 n dp e 1 I0_3 L0_3 i1 i2 x0_3) else ((e.2.2 1 7).bind (fun b_21 => (if b_21 < e.1 ∧ (e.2.1 b_21).1 = 10 then ((e.2.2 b_21 5).bind (fun b_24 => (if (b_24 < e.1 ∧ (e.2.1 b_24).1 = 13 ∧ (e.2.1 b_24).2 < 2 ^ 31) ∧ 0 ≤ i1 ∧ (Int32.toNatClampNeg i1) < (e.2.1 b_24).2 then (if 1 ≤ dp then (g_72 n (dp - 1) e 0 I0_3 L0_3 (I0_3 b_24 (Int32.toNatClampNeg i1)) i2).bind (fun ⟨x1_30, I1_30, L1_30⟩ => (if (x0_3 * (100 : Int32)) ≤ ((I0_3 1 12) * x1_30) then (some ((0 : Int32), I1_30, L1_30)) else (g_79 n dp e 1 I1_30 L1_30 i1 i2 x0_3))) else none) else none))) else none))))) else none)
    else if lab = 1 then (some ((1 : Int32), I, L))
    else none
set_option maxRecDepth 100000 in
theorem e_79_0 (n dp : Nat) (e : EN) (I : (Nat → Nat → Int32)) (L : (Nat → Nat → Int64)) (i1 : Int32) (i2 : Int32) (i3 : Int32) : g_79 (n + 1) dp e 0 I L i1 i2 i3 = (if 1 ≤ dp then (g_78 n (dp - 1) e 0 I L i1 i2 0 0).bind (fun ⟨x0_3, I0_3, L0_3⟩ => (if x0_3 < 0 then (g_79 n dp e 1 I0_3 L0_3 i1 i2 x0_3) else ((e.2.2 1 7).bind (fun b_21 => (if b_21 < e.1 ∧ (e.2.1 b_21).1 = 10 then ((e.2.2 b_21 5).bind (fun b_24 => (if (b_24 < e.1 ∧ (e.2.1 b_24).1 = 13 ∧ (e.2.1 b_24).2 < 2 ^ 31) ∧ 0 ≤ i1 ∧ (Int32.toNatClampNeg i1) < (e.2.1 b_24).2 then (if 1 ≤ dp then (g_72 n (dp - 1) e 0 I0_3 L0_3 (I0_3 b_24 (Int32.toNatClampNeg i1)) i2).bind (fun ⟨x1_30, I1_30, L1_30⟩ => (if (x0_3 * (100 : Int32)) ≤ ((I0_3 1 12) * x1_30) then (some ((0 : Int32), I1_30, L1_30)) else (g_79 n dp e 1 I1_30 L1_30 i1 i2 x0_3))) else none) else none))) else none))))) else none) := by rw [g_79.eq_2, if_pos (show (0 : Nat) = 0 from rfl)]
set_option maxRecDepth 100000 in
theorem e_79_1 (n dp : Nat) (e : EN) (I : (Nat → Nat → Int32)) (L : (Nat → Nat → Int64)) (i1 : Int32) (i2 : Int32) (i3 : Int32) : g_79 (n + 1) dp e 1 I L i1 i2 i3 = (some ((1 : Int32), I, L)) := by rw [g_79.eq_2, if_neg (show ¬ ((1 : Nat) = 0) by decide), if_pos (show (1 : Nat) = 1 from rfl)]
set_option maxHeartbeats 8000000 in
set_option maxRecDepth 100000 in
theorem w_79 (X : GX) {z : Nat} {kd : Nat → Nat × Nat} {Rf : Nat → Nat → Option Nat} (hS : Sh z kd Rf) : ∀ (n dp d : Nat), dp ≤ d → ∀ (I : (Nat → Nat → Int32)) (L : (Nat → Nat → Int64)) (i1 : Int32) (i2 : Int32) (i3 : Int32) (r : Int32) (I1 : (Nat → Nat → Int32)) (L1 : (Nat → Nat → Int64)), (g_79 n dp (z, kd, Rf) 0 I L i1 i2 i3 = some (r, I1, L1) → K X d 79 0 0 (AI (fun x τ => x = r ∧ τ = (z, kd, I1, L1, Rf))) 0 [some (.ref 1), some (.int i1), some (.int i2), none] [] (z, kd, I, L, Rf) 0 0) ∧
    (g_79 n dp (z, kd, Rf) 1 I L i1 i2 i3 = some (r, I1, L1) → K X d 79 0 0 (AI (fun x τ => x = r ∧ τ = (z, kd, I1, L1, Rf))) 37 [some (.ref 1), some (.int i1), some (.int i2), some (.int i3)] [] (z, kd, I, L, Rf) 0 0) := by
  intro n
  induction n with
  | zero => intro dp d hdp I L i1 i2 i3 r I1 L1; exact ⟨(fun h => by cases h), (fun h => by cases h)⟩
  | succ n ih =>
    intro dp d hdp I L i1 i2 i3 r I1 L1
    refine ⟨?_, ?_⟩
    · intro h
      rw [e_79_0] at h
      refine K_of b_79_0 h_79_0 ?_
      refine q_aload rfl ?_
      refine q_iload rfl ?_
      refine q_iload rfl ?_
      obtain ⟨d_3, h⟩ := ite_some h
      obtain ⟨⟨x0_3, I0_3, L0_3⟩, e_3, h⟩ := Option.bind_eq_some_iff.mp h
      dsimp only at h
      refine q_fv3I (a_78 X hS (d := d - 1) (by omega) e_3) (by omega) (Nat.le_refl _) (Nat.le_refl _) rfl (Nat.le_of_ble_eq_true rfl) ⟨(zl hS 1 (by decide)), congrArg Prod.fst (sk hS 1 (by decide) rfl), by decide⟩ ?_
      refine q_istore (ls1 := [some (.ref 1), some (.int i1), some (.int i2), some (.int x0_3)]) (Nat.le_of_ble_eq_true rfl) rfl ?_
      refine q_iload rfl ?_
      refine q_if_lt (fun c_8 => ?_) (fun c_8 => ?_)
      · rw [if_pos c_8] at h
        exact (ih dp d hdp _ _ i1 i2 x0_3 _ _ _).2 h
      · rw [if_neg c_8] at h
        refine q_iload rfl ?_
        refine q_iconst (100) (by decide) ?_
        refine q_imul ?_
        refine q_aload rfl ?_
        refine q_getI (c0 := 3) (j := 12) rfl rfl (zl hS 1 (by decide)) (sk hS 1 (by decide) rfl) (Or.inl rfl) (by decide) ?_
        refine q_aload rfl ?_
        refine q_aload rfl ?_
        obtain ⟨b_21, r_21, h⟩ := Option.bind_eq_some_iff.mp h
        refine q_getRs (c0 := 3) (j := 7) rfl rfl (zl hS 1 (by decide)) (sk hS 1 (by decide) rfl) rfl (by decide) r_21 ?_
        obtain ⟨⟨z_24, k_24⟩, h⟩ := ite_some h
        obtain ⟨b_24, r_24, h⟩ := Option.bind_eq_some_iff.mp h
        refine q_getRs (c0 := 10) (j := 5) rfl rfl z_24 (fst_eq k_24) rfl (by decide) r_24 ?_
        refine q_iload rfl ?_
        obtain ⟨⟨⟨z_28, k_28, m_28⟩, u_28, v_28⟩, h⟩ := ite_some h
        refine q_ialN (Int32.toNatClampNeg i1) (nx u_28) z_28 (fst_eq k_28) v_28 m_28 ?_
        refine q_iload rfl ?_
        obtain ⟨d_30, h⟩ := ite_some h
        obtain ⟨⟨x1_30, I1_30, L1_30⟩, e_30, h⟩ := Option.bind_eq_some_iff.mp h
        dsimp only at h
        refine q_fv3I (a_72 X hS (d := d - 1) (by omega) e_30) (by omega) (Nat.le_refl _) (Nat.le_refl _) rfl (Nat.le_of_ble_eq_true rfl) ⟨(zl hS 1 (by decide)), congrArg Prod.fst (sk hS 1 (by decide) rfl), by decide⟩ ?_
        refine q_imul ?_
        refine q_icmp_le (fun c_34 => ?_) (fun c_34 => ?_)
        · rw [if_pos c_34] at h
          refine K_of b_79_41 h_79_41 ?_
          refine q_iconst (0) (by decide) ?_
          refine q_end ?_
          refine K_of b_79_42 h_79_42 ?_
          cases h
          exact q_iret rfl (Nat.le_refl _) (Nat.le_refl _) ⟨rfl, rfl⟩
        · rw [if_neg c_34] at h
          refine q_end ?_
          exact (ih dp d hdp _ _ i1 i2 x0_3 _ _ _).2 h
    · intro h
      rw [e_79_1] at h
      refine K_of b_79_37 h_79_37 ?_
      refine q_iconst (1) (by decide) ?_
      refine q_goto ?_
      refine K_of b_79_42 h_79_42 ?_
      cases h
      exact q_iret rfl (Nat.le_refl _) (Nat.le_refl _) ⟨rfl, rfl⟩
theorem a_79 (X : GX) {z : Nat} {kd : Nat → Nat × Nat} {Rf : Nat → Nat → Option Nat} (hS : Sh z kd Rf) {n dp d : Nat} (hd : dp ≤ d) {I : (Nat → Nat → Int32)} {L : (Nat → Nat → Int64)} {i1 : Int32} {i2 : Int32} {I1 : (Nat → Nat → Int32)} {L1 : (Nat → Nat → Int64)} {r : Int32} (h : g_79 n dp (z, kd, Rf) 0 I L i1 i2 0 = some (r, I1, L1)) : Ct X d 79 0 0 [.ref 1, .int i1, .int i2] (z, kd, I, L, Rf) (AI (fun x τ => x = r ∧ τ = (z, kd, I1, L1, Rf))) :=
  Ct_of mu_79 (Nat.le_of_ble_eq_true rfl) ((w_79 X hS n dp d hd I L i1 i2 0 _ _ _).1 h)

/-! 69 CutFloor.goes(III)I -/
set_option maxHeartbeats 4000000 in
set_option maxRecDepth 100000 in
def g_69 : Nat → Nat → EN → Nat → (Nat → Nat → Int32) → (Nat → Nat → Int64) → Int32 → Int32 → Int32 →  Option (Int32 × (Nat → Nat → Int32) × (Nat → Nat → Int64))
  | 0, _, _, _, _, _, _, _, _ => none
  | n + 1, dp, e, lab, I, L, i1, i2, i3 =>
    if lab = 0 then ((e.2.2 1 7).bind (fun b_6 => (if b_6 < e.1 ∧ (e.2.1 b_6).1 = 10 then (if 1 ≤ dp then (g_14 n (dp - 1) e 0 I L i1 (0 : Int32) ((I b_6 11) - (1 : Int32))).bind (fun ⟨x0_14, I0_14, L0_14⟩ => (if x0_14 = 0 then (some ((-100000 : Int32), I0_14, L0_14)) else (if 1 ≤ dp then (g_14 n (dp - 1) e 0 I0_14 L0_14 i2 (0 : Int32) (2 : Int32)).bind (fun ⟨x1_23, I1_23, L1_23⟩ => (if x1_23 = 0 then (some ((-100000 : Int32), I1_23, L1_23)) else (if i3 = (0 : Int32) then (if 1 ≤ dp then (g_70 n (dp - 1) e 0 I1_23 L1_23 i1 i2).bind (fun ⟨x2_74, I2_74, L2_74⟩ => (if x2_74 = 0 then (some ((0 : Int32), I2_74, L2_74)) else (some ((1 : Int32), I2_74, L2_74)))) else none) else (if i3 = (1 : Int32) then (if 1 ≤ dp then (g_77 n (dp - 1) e 0 I1_23 L1_23 (1 : Int32) i1 i2 0 0).bind (fun ⟨x2_93, I2_93, L2_93⟩ => (some (x2_93, I2_93, L2_93))) else none) else (if i3 = (2 : Int32) then (if 1 ≤ dp then (g_77 n (dp - 1) e 0 I1_23 L1_23 (2 : Int32) i1 i2 0 0).bind (fun ⟨x2_104, I2_104, L2_104⟩ => (some (x2_104, I2_104, L2_104))) else none) else (if i3 = (3 : Int32) then (if 1 ≤ dp then (g_78 n (dp - 1) e 0 I1_23 L1_23 i1 i2 0 0).bind (fun ⟨x2_114, I2_114, L2_114⟩ => (some (x2_114, I2_114, L2_114))) else none) else (if i3 = (4 : Int32) then (if 1 ≤ dp then (g_79 n (dp - 1) e 0 I1_23 L1_23 i1 i2 0).bind (fun ⟨x2_124, I2_124, L2_124⟩ => (if x2_124 = 0 then (some ((0 : Int32), I2_124, L2_124)) else (some ((1 : Int32), I2_124, L2_124)))) else none) else (some ((-100000 : Int32), I1_23, L1_23))))))))) else none))) else none) else none)))
    else none
set_option maxRecDepth 100000 in
theorem e_69_0 (n dp : Nat) (e : EN) (I : (Nat → Nat → Int32)) (L : (Nat → Nat → Int64)) (i1 : Int32) (i2 : Int32) (i3 : Int32) : g_69 (n + 1) dp e 0 I L i1 i2 i3 = ((e.2.2 1 7).bind (fun b_6 => (if b_6 < e.1 ∧ (e.2.1 b_6).1 = 10 then (if 1 ≤ dp then (g_14 n (dp - 1) e 0 I L i1 (0 : Int32) ((I b_6 11) - (1 : Int32))).bind (fun ⟨x0_14, I0_14, L0_14⟩ => (if x0_14 = 0 then (some ((-100000 : Int32), I0_14, L0_14)) else (if 1 ≤ dp then (g_14 n (dp - 1) e 0 I0_14 L0_14 i2 (0 : Int32) (2 : Int32)).bind (fun ⟨x1_23, I1_23, L1_23⟩ => (if x1_23 = 0 then (some ((-100000 : Int32), I1_23, L1_23)) else (if i3 = (0 : Int32) then (if 1 ≤ dp then (g_70 n (dp - 1) e 0 I1_23 L1_23 i1 i2).bind (fun ⟨x2_74, I2_74, L2_74⟩ => (if x2_74 = 0 then (some ((0 : Int32), I2_74, L2_74)) else (some ((1 : Int32), I2_74, L2_74)))) else none) else (if i3 = (1 : Int32) then (if 1 ≤ dp then (g_77 n (dp - 1) e 0 I1_23 L1_23 (1 : Int32) i1 i2 0 0).bind (fun ⟨x2_93, I2_93, L2_93⟩ => (some (x2_93, I2_93, L2_93))) else none) else (if i3 = (2 : Int32) then (if 1 ≤ dp then (g_77 n (dp - 1) e 0 I1_23 L1_23 (2 : Int32) i1 i2 0 0).bind (fun ⟨x2_104, I2_104, L2_104⟩ => (some (x2_104, I2_104, L2_104))) else none) else (if i3 = (3 : Int32) then (if 1 ≤ dp then (g_78 n (dp - 1) e 0 I1_23 L1_23 i1 i2 0 0).bind (fun ⟨x2_114, I2_114, L2_114⟩ => (some (x2_114, I2_114, L2_114))) else none) else (if i3 = (4 : Int32) then (if 1 ≤ dp then (g_79 n (dp - 1) e 0 I1_23 L1_23 i1 i2 0).bind (fun ⟨x2_124, I2_124, L2_124⟩ => (if x2_124 = 0 then (some ((0 : Int32), I2_124, L2_124)) else (some ((1 : Int32), I2_124, L2_124)))) else none) else (some ((-100000 : Int32), I1_23, L1_23))))))))) else none))) else none) else none))) := by rw [g_69.eq_2, if_pos (show (0 : Nat) = 0 from rfl)]
set_option maxHeartbeats 8000000 in
set_option maxRecDepth 100000 in
theorem w_69 (X : GX) {z : Nat} {kd : Nat → Nat × Nat} {Rf : Nat → Nat → Option Nat} (hS : Sh z kd Rf) : ∀ (n dp d : Nat), dp ≤ d → ∀ (I : (Nat → Nat → Int32)) (L : (Nat → Nat → Int64)) (i1 : Int32) (i2 : Int32) (i3 : Int32) (r : Int32) (I1 : (Nat → Nat → Int32)) (L1 : (Nat → Nat → Int64)), (g_69 n dp (z, kd, Rf) 0 I L i1 i2 i3 = some (r, I1, L1) → K X d 69 0 0 (AI (fun x τ => x = r ∧ τ = (z, kd, I1, L1, Rf))) 0 [some (.ref 0), some (.int i1), some (.int i2), some (.int i3)] [] (z, kd, I, L, Rf) 0 0) := by
  intro n
  induction n with
  | zero => intro dp d hdp I L i1 i2 i3 r I1 L1; exact fun h => by cases h
  | succ n ih =>
    intro dp d hdp I L i1 i2 i3 r I1 L1
    · intro h
      rw [e_69_0] at h
      refine K_of b_69_0 h_69_0 ?_
      refine q_iload rfl ?_
      refine q_iconst (0) (by decide) ?_
      refine q_aload rfl ?_
      refine q_getRs (c0 := 11) (j := 0) rfl rfl (zl hS 0 (by decide)) (sk hS 0 (by decide) rfl) rfl (by decide) (r_0_0 hS) ?_
      obtain ⟨b_6, r_6, h⟩ := Option.bind_eq_some_iff.mp h
      refine q_getRs (c0 := 3) (j := 7) rfl rfl (zl hS 1 (by decide)) (sk hS 1 (by decide) rfl) rfl (by decide) r_6 ?_
      obtain ⟨⟨z_9, k_9⟩, h⟩ := ite_some h
      refine q_getI (c0 := 10) (j := 11) rfl rfl z_9 (fst_eq k_9) (Or.inl rfl) (by decide) ?_
      refine q_iconst (1) (by decide) ?_
      refine q_isub ?_
      obtain ⟨d_14, h⟩ := ite_some h
      obtain ⟨⟨x0_14, I0_14, L0_14⟩, e_14, h⟩ := Option.bind_eq_some_iff.mp h
      dsimp only at h
      refine q_fs3I (a_14 X hS (d := d - 1) (by omega) e_14) (by omega) (Nat.le_refl _) (Nat.le_refl _) rfl (Nat.le_of_ble_eq_true rfl) ?_
      refine q_if_eq (fun c_17 => ?_) (fun c_17 => ?_)
      · rw [if_pos c_17] at h
        refine K_of b_69_29 h_69_29 ?_
        refine q_iconst (-100000) (by decide) ?_
        cases h
        exact q_iret rfl (Nat.le_refl _) (Nat.le_refl _) ⟨rfl, rfl⟩
      · rw [if_neg c_17] at h
        refine q_iload rfl ?_
        refine q_iconst (0) (by decide) ?_
        refine q_iconst (2) (by decide) ?_
        obtain ⟨d_23, h⟩ := ite_some h
        obtain ⟨⟨x1_23, I1_23, L1_23⟩, e_23, h⟩ := Option.bind_eq_some_iff.mp h
        dsimp only at h
        refine q_fs3I (a_14 X hS (d := d - 1) (by omega) e_23) (by omega) (Nat.le_refl _) (Nat.le_refl _) rfl (Nat.le_of_ble_eq_true rfl) ?_
        refine q_if_ne (fun c_26 => ?_) (fun c_26 => ?_)
        · rw [if_neg c_26] at h
          refine K_of b_69_32 h_69_32 ?_
          refine q_iload rfl ?_
          refine q_tsw (fun c_33 => ?_) (fun j t c_33 ht => ?_)
          · rw [if_neg (sw_ne c_33 (by decide) (by decide)), if_neg (sw_ne c_33 (by decide) (by decide)), if_neg (sw_ne c_33 (by decide) (by decide)), if_neg (sw_ne c_33 (by decide) (by decide)), if_neg (sw_ne c_33 (by decide) (by decide))] at h
            refine K_of b_69_136 h_69_136 ?_
            refine q_iconst (-100000) (by decide) ?_
            cases h
            exact q_iret rfl (Nat.le_refl _) (Nat.le_refl _) ⟨rfl, rfl⟩
          · match j, ht with
            | 0, ht =>
              cases ht
              rw [if_pos (sw_eq c_33 (by decide))] at h
              refine K_of b_69_68 h_69_68 ?_
              refine q_aload rfl ?_
              refine q_getRs (c0 := 11) (j := 2) rfl rfl (zl hS 0 (by decide)) (sk hS 0 (by decide) rfl) rfl (by decide) (r_0_2 hS) ?_
              refine q_iload rfl ?_
              refine q_iload rfl ?_
              obtain ⟨d_74, h⟩ := ite_some h
              obtain ⟨⟨x2_74, I2_74, L2_74⟩, e_74, h⟩ := Option.bind_eq_some_iff.mp h
              dsimp only at h
              refine q_fv3I (a_70 X hS (d := d - 1) (by omega) e_74) (by omega) (Nat.le_refl _) (Nat.le_refl _) rfl (Nat.le_of_ble_eq_true rfl) ⟨(zl hS 21 (by decide)), congrArg Prod.fst (sk hS 21 (by decide) rfl), by decide⟩ ?_
              refine q_if_eq (fun c_77 => ?_) (fun c_77 => ?_)
              · rw [if_pos c_77] at h
                refine K_of b_69_84 h_69_84 ?_
                refine q_iconst (0) (by decide) ?_
                refine q_end ?_
                refine K_of b_69_85 h_69_85 ?_
                cases h
                exact q_iret rfl (Nat.le_refl _) (Nat.le_refl _) ⟨rfl, rfl⟩
              · rw [if_neg c_77] at h
                refine q_iconst (1) (by decide) ?_
                refine q_goto ?_
                refine K_of b_69_85 h_69_85 ?_
                cases h
                exact q_iret rfl (Nat.le_refl _) (Nat.le_refl _) ⟨rfl, rfl⟩
            | 1, ht =>
              cases ht
              rw [if_neg (sw_nq c_33 (by decide)), if_pos (sw_eq c_33 (by decide))] at h
              refine K_of b_69_86 h_69_86 ?_
              refine q_aload rfl ?_
              refine q_getRs (c0 := 11) (j := 2) rfl rfl (zl hS 0 (by decide)) (sk hS 0 (by decide) rfl) rfl (by decide) (r_0_2 hS) ?_
              refine q_iconst (1) (by decide) ?_
              refine q_iload rfl ?_
              refine q_iload rfl ?_
              obtain ⟨d_93, h⟩ := ite_some h
              obtain ⟨⟨x2_93, I2_93, L2_93⟩, e_93, h⟩ := Option.bind_eq_some_iff.mp h
              dsimp only at h
              refine q_fv4I (a_77 X hS (d := d - 1) (by omega) e_93) (by omega) (Nat.le_refl _) (Nat.le_refl _) rfl (Nat.le_of_ble_eq_true rfl) ⟨(zl hS 21 (by decide)), congrArg Prod.fst (sk hS 21 (by decide) rfl), by decide⟩ ?_
              cases h
              exact q_iret rfl (Nat.le_refl _) (Nat.le_refl _) ⟨rfl, rfl⟩
            | 2, ht =>
              cases ht
              rw [if_neg (sw_nq c_33 (by decide)), if_neg (sw_nq c_33 (by decide)), if_pos (sw_eq c_33 (by decide))] at h
              refine K_of b_69_97 h_69_97 ?_
              refine q_aload rfl ?_
              refine q_getRs (c0 := 11) (j := 2) rfl rfl (zl hS 0 (by decide)) (sk hS 0 (by decide) rfl) rfl (by decide) (r_0_2 hS) ?_
              refine q_iconst (2) (by decide) ?_
              refine q_iload rfl ?_
              refine q_iload rfl ?_
              obtain ⟨d_104, h⟩ := ite_some h
              obtain ⟨⟨x2_104, I2_104, L2_104⟩, e_104, h⟩ := Option.bind_eq_some_iff.mp h
              dsimp only at h
              refine q_fv4I (a_77 X hS (d := d - 1) (by omega) e_104) (by omega) (Nat.le_refl _) (Nat.le_refl _) rfl (Nat.le_of_ble_eq_true rfl) ⟨(zl hS 21 (by decide)), congrArg Prod.fst (sk hS 21 (by decide) rfl), by decide⟩ ?_
              cases h
              exact q_iret rfl (Nat.le_refl _) (Nat.le_refl _) ⟨rfl, rfl⟩
            | 3, ht =>
              cases ht
              rw [if_neg (sw_nq c_33 (by decide)), if_neg (sw_nq c_33 (by decide)), if_neg (sw_nq c_33 (by decide)), if_pos (sw_eq c_33 (by decide))] at h
              refine K_of b_69_108 h_69_108 ?_
              refine q_aload rfl ?_
              refine q_getRs (c0 := 11) (j := 0) rfl rfl (zl hS 0 (by decide)) (sk hS 0 (by decide) rfl) rfl (by decide) (r_0_0 hS) ?_
              refine q_iload rfl ?_
              refine q_iload rfl ?_
              obtain ⟨d_114, h⟩ := ite_some h
              obtain ⟨⟨x2_114, I2_114, L2_114⟩, e_114, h⟩ := Option.bind_eq_some_iff.mp h
              dsimp only at h
              refine q_fv3I (a_78 X hS (d := d - 1) (by omega) e_114) (by omega) (Nat.le_refl _) (Nat.le_refl _) rfl (Nat.le_of_ble_eq_true rfl) ⟨(zl hS 1 (by decide)), congrArg Prod.fst (sk hS 1 (by decide) rfl), by decide⟩ ?_
              cases h
              exact q_iret rfl (Nat.le_refl _) (Nat.le_refl _) ⟨rfl, rfl⟩
            | 4, ht =>
              cases ht
              rw [if_neg (sw_nq c_33 (by decide)), if_neg (sw_nq c_33 (by decide)), if_neg (sw_nq c_33 (by decide)), if_neg (sw_nq c_33 (by decide)), if_pos (sw_eq c_33 (by decide))] at h
              refine K_of b_69_118 h_69_118 ?_
              refine q_aload rfl ?_
              refine q_getRs (c0 := 11) (j := 0) rfl rfl (zl hS 0 (by decide)) (sk hS 0 (by decide) rfl) rfl (by decide) (r_0_0 hS) ?_
              refine q_iload rfl ?_
              refine q_iload rfl ?_
              obtain ⟨d_124, h⟩ := ite_some h
              obtain ⟨⟨x2_124, I2_124, L2_124⟩, e_124, h⟩ := Option.bind_eq_some_iff.mp h
              dsimp only at h
              refine q_fv3I (a_79 X hS (d := d - 1) (by omega) e_124) (by omega) (Nat.le_refl _) (Nat.le_refl _) rfl (Nat.le_of_ble_eq_true rfl) ⟨(zl hS 1 (by decide)), congrArg Prod.fst (sk hS 1 (by decide) rfl), by decide⟩ ?_
              refine q_if_eq (fun c_127 => ?_) (fun c_127 => ?_)
              · rw [if_pos c_127] at h
                refine K_of b_69_134 h_69_134 ?_
                refine q_iconst (0) (by decide) ?_
                refine q_end ?_
                refine K_of b_69_135 h_69_135 ?_
                cases h
                exact q_iret rfl (Nat.le_refl _) (Nat.le_refl _) ⟨rfl, rfl⟩
              · rw [if_neg c_127] at h
                refine q_iconst (1) (by decide) ?_
                refine q_goto ?_
                refine K_of b_69_135 h_69_135 ?_
                cases h
                exact q_iret rfl (Nat.le_refl _) (Nat.le_refl _) ⟨rfl, rfl⟩
            | j + 5, ht => simp at ht
        · rw [if_pos c_26] at h
          refine q_end ?_
          refine K_of b_69_29 h_69_29 ?_
          refine q_iconst (-100000) (by decide) ?_
          cases h
          exact q_iret rfl (Nat.le_refl _) (Nat.le_refl _) ⟨rfl, rfl⟩
theorem a_69 (X : GX) {z : Nat} {kd : Nat → Nat × Nat} {Rf : Nat → Nat → Option Nat} (hS : Sh z kd Rf) {n dp d : Nat} (hd : dp ≤ d) {I : (Nat → Nat → Int32)} {L : (Nat → Nat → Int64)} {i1 : Int32} {i2 : Int32} {i3 : Int32} {I1 : (Nat → Nat → Int32)} {L1 : (Nat → Nat → Int64)} {r : Int32} (h : g_69 n dp (z, kd, Rf) 0 I L i1 i2 i3 = some (r, I1, L1)) : Ct X d 69 0 0 [.ref 0, .int i1, .int i2, .int i3] (z, kd, I, L, Rf) (AI (fun x τ => x = r ∧ τ = (z, kd, I1, L1, Rf))) :=
  Ct_of mu_69 (Nat.le_of_ble_eq_true rfl) ((w_69 X hS n dp d hd I L i1 i2 i3 _ _ _) h)

