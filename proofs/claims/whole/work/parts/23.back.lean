theorem isR_rf (b : Option Nat) : isR (va_rf b) = true := by cases b <;> rfl
theorem q_aloadQ {X : GX} {d MC MS : Nat} {rt : Option FieldType} {J : JT} {RT : Option Value → PS → Nat → Nat → Prop} {en pc : Nat} {is : List (Nat × Instr)} {ls : LcT} {st : List Value} {σ : PS} {k n j : Nat} {b : Option Nat} (h : ls[j]? = some (some (va_rf b))) (g : wp X d MC MS rt J RT en is ls (va_rf b :: st) σ k n) : wp X d MC MS rt J RT en ((pc, .aload j) :: is) ls st σ k n := ⟨va_rf b, h, isR_rf b, g⟩
/-! 187 CutFloor.back(I)I -/
set_option maxHeartbeats 4000000 in
set_option maxRecDepth 100000 in
def g_187 : Nat → Nat → EN → Nat → (Nat → Nat → Int32) → (Nat → Nat → Int64) → Int32 →  Option (Int32 × (Nat → Nat → Int32) × (Nat → Nat → Int64))
  | 0, _, _, _, _, _, _ => none
  | n + 1, dp, e, lab, I, L, i1 =>
    if lab = 0 then (if 1 ≤ dp then (g_14 n (dp - 1) e 0 I L i1 (0 : Int32) (1 : Int32)).bind (fun ⟨x0_3, I0_3, L0_3⟩ => (if x0_3 = 0 then (if 1 ≤ dp then (g_15 n (dp - 1) e 0 I0_3 L0_3 (-1 : Int32)).bind (fun ⟨x1_11, I1_11, L1_11⟩ => (some (x1_11, I1_11, L1_11))) else none) else (if 0 ≤ i1 ∧ (Int32.toNatClampNeg i1) < 2 then stI (e.2.2 20 (Int32.toNatClampNeg i1)) (fun o_20 => (match o_20 with | none => (if 1 ≤ dp then (g_15 n (dp - 1) e 0 I0_3 L0_3 (-2 : Int32)).bind (fun ⟨x1_29, I1_29, L1_29⟩ => (some (x1_29, I1_29, L1_29))) else none) | some bb_23 => (if 1 ≤ dp then (g_185 n (dp - 1) e 0 I0_3 L0_3 1 bb_23).bind (fun ⟨I1_38, L1_38⟩ => (if 1 ≤ dp then (g_21 n (dp - 1) e 0 I1_38 L1_38).bind (fun ⟨I2_42, L2_42⟩ => (if 1 ≤ dp then (g_25 n (dp - 1) e 0 I2_42 L2_42).bind (fun ⟨I3_49, L3_49⟩ => (if 1 ≤ dp then (g_157 n (dp - 1) e 0 I3_49 L3_49).bind (fun ⟨I4_56, L4_56⟩ => (if 1 ≤ dp then (g_19 n (dp - 1) e 0 I4_56 L4_56 (0 : Int32)).bind (fun ⟨x5_61, I5_61, L5_61⟩ => (some (x5_61, I5_61, L5_61))) else none)) else none)) else none)) else none)) else none))) else none))) else none)
    else none
set_option maxRecDepth 100000 in
theorem e_187_0 (n dp : Nat) (e : EN) (I : (Nat → Nat → Int32)) (L : (Nat → Nat → Int64)) (i1 : Int32) : g_187 (n + 1) dp e 0 I L i1 = (if 1 ≤ dp then (g_14 n (dp - 1) e 0 I L i1 (0 : Int32) (1 : Int32)).bind (fun ⟨x0_3, I0_3, L0_3⟩ => (if x0_3 = 0 then (if 1 ≤ dp then (g_15 n (dp - 1) e 0 I0_3 L0_3 (-1 : Int32)).bind (fun ⟨x1_11, I1_11, L1_11⟩ => (some (x1_11, I1_11, L1_11))) else none) else (if 0 ≤ i1 ∧ (Int32.toNatClampNeg i1) < 2 then stI (e.2.2 20 (Int32.toNatClampNeg i1)) (fun o_20 => (match o_20 with | none => (if 1 ≤ dp then (g_15 n (dp - 1) e 0 I0_3 L0_3 (-2 : Int32)).bind (fun ⟨x1_29, I1_29, L1_29⟩ => (some (x1_29, I1_29, L1_29))) else none) | some bb_23 => (if 1 ≤ dp then (g_185 n (dp - 1) e 0 I0_3 L0_3 1 bb_23).bind (fun ⟨I1_38, L1_38⟩ => (if 1 ≤ dp then (g_21 n (dp - 1) e 0 I1_38 L1_38).bind (fun ⟨I2_42, L2_42⟩ => (if 1 ≤ dp then (g_25 n (dp - 1) e 0 I2_42 L2_42).bind (fun ⟨I3_49, L3_49⟩ => (if 1 ≤ dp then (g_157 n (dp - 1) e 0 I3_49 L3_49).bind (fun ⟨I4_56, L4_56⟩ => (if 1 ≤ dp then (g_19 n (dp - 1) e 0 I4_56 L4_56 (0 : Int32)).bind (fun ⟨x5_61, I5_61, L5_61⟩ => (some (x5_61, I5_61, L5_61))) else none)) else none)) else none)) else none)) else none))) else none))) else none) := by rw [g_187.eq_2, if_pos (show (0 : Nat) = 0 from rfl)]
set_option maxHeartbeats 8000000 in
set_option maxRecDepth 100000 in
theorem w_187 (X : GX) {z : Nat} {kd : Nat → Nat × Nat} {Rf : Nat → Nat → Option Nat} (hS : Sh z kd Rf) : ∀ (n dp d : Nat), dp ≤ d → ∀ (I : (Nat → Nat → Int32)) (L : (Nat → Nat → Int64)) (i1 : Int32) (r : Int32) (I1 : (Nat → Nat → Int32)) (L1 : (Nat → Nat → Int64)), (g_187 n dp (z, kd, Rf) 0 I L i1 = some (r, I1, L1) → K X d 187 0 0 (AI (fun x τ => x = r ∧ τ = (z, kd, I1, L1, Rf))) 0 [some (.ref 0), some (.int i1), none] [] (z, kd, I, L, Rf) 0 0) := by
  intro n
  induction n with
  | zero => intro dp d hdp I L i1 r I1 L1; exact fun h => by cases h
  | succ n ih =>
    intro dp d hdp I L i1 r I1 L1
    · intro h
      rw [e_187_0] at h
      refine K_of b_187_0 h_187_0 ?_
      refine q_iload rfl ?_
      refine q_iconst (0) (by decide) ?_
      refine q_iconst (1) (by decide) ?_
      obtain ⟨d_3, h⟩ := ite_some h
      obtain ⟨⟨x0_3, I0_3, L0_3⟩, e_3, h⟩ := Option.bind_eq_some_iff.mp h
      dsimp only at h
      refine q_fs3I (a_14 X hS (d := d - 1) (by omega) e_3) (by omega) (Nat.le_refl _) (Nat.le_refl _) rfl (Nat.le_of_ble_eq_true rfl) ?_
      refine q_if_ne (fun c_6 => ?_) (fun c_6 => ?_)
      · rw [if_neg c_6] at h
        refine K_of b_187_15 h_187_15 ?_
        refine q_aload rfl ?_
        refine q_getRs (c0 := 11) (j := 1) rfl rfl (zl hS 0 (by decide)) (sk hS 0 (by decide) rfl) rfl (by decide) (r_0_1 hS) ?_
        refine q_iload rfl ?_
        obtain ⟨⟨u_20, v_20⟩, h⟩ := ite_some h
        obtain ⟨o_20, n_20, h⟩ := stI_some h
        refine q_aald (zl hS 20 (by decide)) (sk hS 20 (by decide) rfl) (by decide) (in_of u_20 v_20) n_20.symm ?_
        refine q_astore (ls1 := [some (.ref 0), some (.int i1), some (va_rf o_20)]) (isR_rf _) (Nat.le_of_ble_eq_true rfl) rfl ?_
        refine q_aloadQ rfl ?_
        refine q_ifnn (fun c_23 => ?_) (fun bb_23 c_23 => ?_)
        · subst c_23
          dsimp only at h
          refine q_aload rfl ?_
          refine q_iconst (-2) (by decide) ?_
          obtain ⟨d_29, h⟩ := ite_some h
          obtain ⟨⟨x1_29, I1_29, L1_29⟩, e_29, h⟩ := Option.bind_eq_some_iff.mp h
          dsimp only at h
          refine q_fv2I (a_15 X hS (d := d - 1) (by omega) e_29) (by omega) (Nat.le_refl _) (Nat.le_refl _) rfl (Nat.le_of_ble_eq_true rfl) ⟨(zl hS 0 (by decide)), congrArg Prod.fst (sk hS 0 (by decide) rfl), by decide⟩ ?_
          cases h
          exact q_iret rfl (Nat.le_refl _) (Nat.le_refl _) ⟨rfl, rfl⟩
        · subst c_23
          dsimp only at h
          refine K_of b_187_33 h_187_33 ?_
          refine q_aload rfl ?_
          refine q_getRs (c0 := 11) (j := 0) rfl rfl (zl hS 0 (by decide)) (sk hS 0 (by decide) rfl) rfl (by decide) (r_0_0 hS) ?_
          refine q_aload rfl ?_
          obtain ⟨d_38, h⟩ := ite_some h
          obtain ⟨⟨I1_38, L1_38⟩, e_38, h⟩ := Option.bind_eq_some_iff.mp h
          dsimp only at h
          refine q_fv2V (a_185 X hS (d := d - 1) (by omega) e_38) (by omega) (Nat.le_refl _) (Nat.le_refl _) rfl (Nat.le_of_ble_eq_true rfl) ⟨(zl hS 1 (by decide)), congrArg Prod.fst (sk hS 1 (by decide) rfl), by decide⟩ ?_
          refine q_aload rfl ?_
          obtain ⟨d_42, h⟩ := ite_some h
          obtain ⟨⟨I2_42, L2_42⟩, e_42, h⟩ := Option.bind_eq_some_iff.mp h
          dsimp only at h
          refine q_fv1V (a_21 X hS (d := d - 1) (by omega) e_42) (by omega) (Nat.le_refl _) (Nat.le_refl _) rfl (Nat.le_of_ble_eq_true rfl) ⟨(zl hS 0 (by decide)), congrArg Prod.fst (sk hS 0 (by decide) rfl), by decide⟩ ?_
          refine q_aload rfl ?_
          refine q_getRs (c0 := 11) (j := 3) rfl rfl (zl hS 0 (by decide)) (sk hS 0 (by decide) rfl) rfl (by decide) (r_0_3 hS) ?_
          obtain ⟨d_49, h⟩ := ite_some h
          obtain ⟨⟨I3_49, L3_49⟩, e_49, h⟩ := Option.bind_eq_some_iff.mp h
          dsimp only at h
          refine q_fv1V (a_25 X hS (d := d - 1) (by omega) e_49) (by omega) (Nat.le_refl _) (Nat.le_refl _) rfl (Nat.le_of_ble_eq_true rfl) ⟨(zl hS 24 (by decide)), congrArg Prod.fst (sk hS 24 (by decide) rfl), by decide⟩ ?_
          refine q_aload rfl ?_
          refine q_getRs (c0 := 11) (j := 5) rfl rfl (zl hS 0 (by decide)) (sk hS 0 (by decide) rfl) rfl (by decide) (r_0_5 hS) ?_
          obtain ⟨d_56, h⟩ := ite_some h
          obtain ⟨⟨I4_56, L4_56⟩, e_56, h⟩ := Option.bind_eq_some_iff.mp h
          dsimp only at h
          refine q_fv1V (a_157 X hS (d := d - 1) (by omega) e_56) (by omega) (Nat.le_refl _) (Nat.le_refl _) rfl (Nat.le_of_ble_eq_true rfl) ⟨(zl hS 81 (by decide)), congrArg Prod.fst (sk hS 81 (by decide) rfl), by decide⟩ ?_
          refine q_aload rfl ?_
          refine q_iconst (0) (by decide) ?_
          obtain ⟨d_61, h⟩ := ite_some h
          obtain ⟨⟨x5_61, I5_61, L5_61⟩, e_61, h⟩ := Option.bind_eq_some_iff.mp h
          dsimp only at h
          refine q_fv2I (a_19 X hS (d := d - 1) (by omega) e_61) (by omega) (Nat.le_refl _) (Nat.le_refl _) rfl (Nat.le_of_ble_eq_true rfl) ⟨(zl hS 0 (by decide)), congrArg Prod.fst (sk hS 0 (by decide) rfl), by decide⟩ ?_
          cases h
          exact q_iret rfl (Nat.le_refl _) (Nat.le_refl _) ⟨rfl, rfl⟩
      · rw [if_pos c_6] at h
        refine q_aload rfl ?_
        refine q_iconst (-1) (by decide) ?_
        obtain ⟨d_11, h⟩ := ite_some h
        obtain ⟨⟨x1_11, I1_11, L1_11⟩, e_11, h⟩ := Option.bind_eq_some_iff.mp h
        dsimp only at h
        refine q_fv2I (a_15 X hS (d := d - 1) (by omega) e_11) (by omega) (Nat.le_refl _) (Nat.le_refl _) rfl (Nat.le_of_ble_eq_true rfl) ⟨(zl hS 0 (by decide)), congrArg Prod.fst (sk hS 0 (by decide) rfl), by decide⟩ ?_
        cases h
        exact q_iret rfl (Nat.le_refl _) (Nat.le_refl _) ⟨rfl, rfl⟩
theorem a_187 (X : GX) {z : Nat} {kd : Nat → Nat × Nat} {Rf : Nat → Nat → Option Nat} (hS : Sh z kd Rf) {n dp d : Nat} (hd : dp ≤ d) {I : (Nat → Nat → Int32)} {L : (Nat → Nat → Int64)} {i1 : Int32} {I1 : (Nat → Nat → Int32)} {L1 : (Nat → Nat → Int64)} {r : Int32} (h : g_187 n dp (z, kd, Rf) 0 I L i1 = some (r, I1, L1)) : Ct X d 187 0 0 [.ref 0, .int i1] (z, kd, I, L, Rf) (AI (fun x τ => x = r ∧ τ = (z, kd, I1, L1, Rf))) :=
  Ct_of mu_187 (Nat.le_of_ble_eq_true rfl) ((w_187 X hS n dp d hd I L i1 _ _ _) h)
