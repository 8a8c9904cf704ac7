/-! 272 CutFloorModel.lack(II)I -/
set_option maxHeartbeats 4000000 in
set_option maxRecDepth 100000 in
def g_272 : Nat → Nat → EN → Nat → (Nat → Nat → Int32) → (Nat → Nat → Int64) → Int32 → Int32 →  Option (Int32 × (Nat → Nat → Int32) × (Nat → Nat → Int64))
  | 0, _, _, _, _, _, _, _ => none
  | n + 1, dp, e, lab, I, L, i0, i1 =>
    if lab = 0 then (if i0 ≤ i1 then (some ((0 : Int32), I, L)) else (some ((i0 - i1), I, L)))
    else none
set_option maxRecDepth 100000 in
theorem e_272_0 (n dp : Nat) (e : EN) (I : (Nat → Nat → Int32)) (L : (Nat → Nat → Int64)) (i0 : Int32) (i1 : Int32) : g_272 (n + 1) dp e 0 I L i0 i1 = (if i0 ≤ i1 then (some ((0 : Int32), I, L)) else (some ((i0 - i1), I, L))) := by rw [g_272.eq_2, if_pos (show (0 : Nat) = 0 from rfl)]
set_option maxHeartbeats 8000000 in
set_option maxRecDepth 100000 in
theorem w_272 (X : GX) {z : Nat} {kd : Nat → Nat × Nat} {Rf : Nat → Nat → Option Nat} (hS : Sh z kd Rf) : ∀ (n dp d : Nat), dp ≤ d → ∀ (I : (Nat → Nat → Int32)) (L : (Nat → Nat → Int64)) (i0 : Int32) (i1 : Int32) (r : Int32) (I1 : (Nat → Nat → Int32)) (L1 : (Nat → Nat → Int64)), (g_272 n dp (z, kd, Rf) 0 I L i0 i1 = some (r, I1, L1) → K X d 272 0 0 (AI (fun x τ => x = r ∧ τ = (z, kd, I1, L1, Rf))) 0 [some (.int i0), some (.int i1)] [] (z, kd, I, L, Rf) 0 0) := by
  intro n
  induction n with
  | zero => intro dp d hdp I L i0 i1 r I1 L1; exact fun h => by cases h
  | succ n ih =>
    intro dp d hdp I L i0 i1 r I1 L1
    · intro h
      rw [e_272_0] at h
      refine K_of b_272_0 h_272_0 ?_
      refine q_iload rfl ?_
      refine q_iload rfl ?_
      refine q_icmp_le (fun c_2 => ?_) (fun c_2 => ?_)
      · rw [if_pos c_2] at h
        refine K_of b_272_11 h_272_11 ?_
        refine q_iconst (0) (by decide) ?_
        refine q_end ?_
        refine K_of b_272_12 h_272_12 ?_
        cases h
        exact q_iret rfl (Nat.le_refl _) (Nat.le_refl _) ⟨rfl, rfl⟩
      · rw [if_neg c_2] at h
        refine q_iload rfl ?_
        refine q_iload rfl ?_
        refine q_isub ?_
        refine q_goto ?_
        refine K_of b_272_12 h_272_12 ?_
        cases h
        exact q_iret rfl (Nat.le_refl _) (Nat.le_refl _) ⟨rfl, rfl⟩
theorem a_272 (X : GX) {z : Nat} {kd : Nat → Nat × Nat} {Rf : Nat → Nat → Option Nat} (hS : Sh z kd Rf) {n dp d : Nat} (hd : dp ≤ d) {I : (Nat → Nat → Int32)} {L : (Nat → Nat → Int64)} {i0 : Int32} {i1 : Int32} {I1 : (Nat → Nat → Int32)} {L1 : (Nat → Nat → Int64)} {r : Int32} (h : g_272 n dp (z, kd, Rf) 0 I L i0 i1 = some (r, I1, L1)) : Ct X d 272 0 0 [.int i0, .int i1] (z, kd, I, L, Rf) (AI (fun x τ => x = r ∧ τ = (z, kd, I1, L1, Rf))) :=
  Ct_of mu_272 (Nat.le_of_ble_eq_true rfl) ((w_272 X hS n dp d hd I L i0 i1 _ _ _) h)

/-! 271 CutFloorModel.made(II)I -/
set_option maxHeartbeats 4000000 in
set_option maxRecDepth 100000 in
def g_271 : Nat → Nat → EN → Nat → (Nat → Nat → Int32) → (Nat → Nat → Int64) → Int32 → Int32 →  Option (Int32 × (Nat → Nat → Int32) × (Nat → Nat → Int64))
  | 0, _, _, _, _, _, _, _ => none
  | n + 1, dp, e, lab, I, L, i1, i2 =>
    if lab = 0 then (stI (u2 I 105 0 (0 : Int32)) (fun I_2 => (if 1 ≤ dp then (g_202 n (dp - 1) e 0 I_2 L i1).bind (fun ⟨x0_6, I0_6, L0_6⟩ => (if x0_6 = 0 then (some ((-1 : Int32), I0_6, L0_6)) else (if 1 ≤ dp then (g_193 n (dp - 1) e 0 I0_6 L0_6 (Int32.toInt64 i2) (0 : Int64) (1 : Int64)).bind (fun ⟨x1_16, I1_16, L1_16⟩ => (if x1_16 = 0 then (some ((-1 : Int32), I1_16, L1_16)) else (if 1 ≤ dp then (g_261 n (dp - 1) e 0 I1_16 L1_16 0 0 0 0).bind (fun ⟨x2_23, I2_23, L2_23⟩ => (if x2_23 = 0 then (some ((-1 : Int32), I2_23, L2_23)) else (if i2 = 0 then (if 0 ≤ i1 ∧ (Int32.toNatClampNeg i1) < 10 then (some ((I2_23 135 (Int32.toNatClampNeg i1)), I2_23, L2_23)) else none) else (if 0 ≤ ((60 : Int32) + i1) ∧ (Int32.toNatClampNeg ((60 : Int32) + i1)) < 1570 then (if 0 ≤ i1 ∧ (Int32.toNatClampNeg i1) < 10 then (if 1 ≤ dp then (g_272 n (dp - 1) e 0 I2_23 L2_23 (I2_23 107 (Int32.toNatClampNeg ((60 : Int32) + i1))) (I2_23 135 (Int32.toNatClampNeg i1))).bind (fun ⟨x3_59, I3_59, L3_59⟩ => (some (x3_59, I3_59, L3_59))) else none) else none) else none)))) else none))) else none))) else none)))
    else none
set_option maxRecDepth 100000 in
theorem e_271_0 (n dp : Nat) (e : EN) (I : (Nat → Nat → Int32)) (L : (Nat → Nat → Int64)) (i1 : Int32) (i2 : Int32) : g_271 (n + 1) dp e 0 I L i1 i2 = (stI (u2 I 105 0 (0 : Int32)) (fun I_2 => (if 1 ≤ dp then (g_202 n (dp - 1) e 0 I_2 L i1).bind (fun ⟨x0_6, I0_6, L0_6⟩ => (if x0_6 = 0 then (some ((-1 : Int32), I0_6, L0_6)) else (if 1 ≤ dp then (g_193 n (dp - 1) e 0 I0_6 L0_6 (Int32.toInt64 i2) (0 : Int64) (1 : Int64)).bind (fun ⟨x1_16, I1_16, L1_16⟩ => (if x1_16 = 0 then (some ((-1 : Int32), I1_16, L1_16)) else (if 1 ≤ dp then (g_261 n (dp - 1) e 0 I1_16 L1_16 0 0 0 0).bind (fun ⟨x2_23, I2_23, L2_23⟩ => (if x2_23 = 0 then (some ((-1 : Int32), I2_23, L2_23)) else (if i2 = 0 then (if 0 ≤ i1 ∧ (Int32.toNatClampNeg i1) < 10 then (some ((I2_23 135 (Int32.toNatClampNeg i1)), I2_23, L2_23)) else none) else (if 0 ≤ ((60 : Int32) + i1) ∧ (Int32.toNatClampNeg ((60 : Int32) + i1)) < 1570 then (if 0 ≤ i1 ∧ (Int32.toNatClampNeg i1) < 10 then (if 1 ≤ dp then (g_272 n (dp - 1) e 0 I2_23 L2_23 (I2_23 107 (Int32.toNatClampNeg ((60 : Int32) + i1))) (I2_23 135 (Int32.toNatClampNeg i1))).bind (fun ⟨x3_59, I3_59, L3_59⟩ => (some (x3_59, I3_59, L3_59))) else none) else none) else none)))) else none))) else none))) else none))) := by rw [g_271.eq_2, if_pos (show (0 : Nat) = 0 from rfl)]
set_option maxHeartbeats 8000000 in
set_option maxRecDepth 100000 in
theorem w_271 (X : GX) {z : Nat} {kd : Nat → Nat × Nat} {Rf : Nat → Nat → Option Nat} (hS : Sh z kd Rf) : ∀ (n dp d : Nat), dp ≤ d → ∀ (I : (Nat → Nat → Int32)) (L : (Nat → Nat → Int64)) (i1 : Int32) (i2 : Int32) (r : Int32) (I1 : (Nat → Nat → Int32)) (L1 : (Nat → Nat → Int64)), (g_271 n dp (z, kd, Rf) 0 I L i1 i2 = some (r, I1, L1) → K X d 271 0 0 (AI (fun x τ => x = r ∧ τ = (z, kd, I1, L1, Rf))) 0 [some (.ref 105), some (.int i1), some (.int i2)] [] (z, kd, I, L, Rf) 0 0) := by
  intro n
  induction n with
  | zero => intro dp d hdp I L i1 i2 r I1 L1; exact fun h => by cases h
  | succ n ih =>
    intro dp d hdp I L i1 i2 r I1 L1
    · intro h
      rw [e_271_0] at h
      refine K_of b_271_0 h_271_0 ?_
      refine q_aload rfl ?_
      refine q_iconst (0) (by decide) ?_
      refine q_putI (c0 := 12) (j := 0) rfl rfl (zl hS 105 (by decide)) (sk hS 105 (by decide) rfl) rfl ?_
      obtain ⟨I_2, nI_2, h⟩ := stI_some h
      refine q_nI nI_2 ?_
      refine q_iload rfl ?_
      obtain ⟨d_6, h⟩ := ite_some h
      obtain ⟨⟨x0_6, I0_6, L0_6⟩, e_6, h⟩ := Option.bind_eq_some_iff.mp h
      dsimp only at h
      refine q_fs1I (a_202 X hS (d := d - 1) (by omega) e_6) (by omega) (Nat.le_refl _) (Nat.le_refl _) rfl (Nat.le_of_ble_eq_true rfl) ?_
      refine q_if_eq (fun c_9 => ?_) (fun c_9 => ?_)
      · rw [if_pos c_9] at h
        refine K_of b_271_29 h_271_29 ?_
        refine q_iconst (-1) (by decide) ?_
        cases h
        exact q_iret rfl (Nat.le_refl _) (Nat.le_refl _) ⟨rfl, rfl⟩
      · rw [if_neg c_9] at h
        refine q_iload rfl ?_
        refine q_i2l ?_
        refine q_lconst (0) (by decide) ?_
        refine q_lconst (1) (by decide) ?_
        obtain ⟨d_16, h⟩ := ite_some h
        obtain ⟨⟨x1_16, I1_16, L1_16⟩, e_16, h⟩ := Option.bind_eq_some_iff.mp h
        dsimp only at h
        refine q_fs3I (a_193 X hS (d := d - 1) (by omega) e_16) (by omega) (Nat.le_refl _) (Nat.le_refl _) rfl (Nat.le_of_ble_eq_true rfl) ?_
        refine q_if_eq (fun c_19 => ?_) (fun c_19 => ?_)
        · rw [if_pos c_19] at h
          refine K_of b_271_29 h_271_29 ?_
          refine q_iconst (-1) (by decide) ?_
          cases h
          exact q_iret rfl (Nat.le_refl _) (Nat.le_refl _) ⟨rfl, rfl⟩
        · rw [if_neg c_19] at h
          refine q_aload rfl ?_
          obtain ⟨d_23, h⟩ := ite_some h
          obtain ⟨⟨x2_23, I2_23, L2_23⟩, e_23, h⟩ := Option.bind_eq_some_iff.mp h
          dsimp only at h
          refine q_fv1I (a_261 X hS (d := d - 1) (by omega) e_23) (by omega) (Nat.le_refl _) (Nat.le_refl _) rfl (Nat.le_of_ble_eq_true rfl) ⟨(zl hS 105 (by decide)), congrArg Prod.fst (sk hS 105 (by decide) rfl), by decide⟩ ?_
          refine q_if_ne (fun c_26 => ?_) (fun c_26 => ?_)
          · rw [if_neg c_26] at h
            refine K_of b_271_31 h_271_31 ?_
            refine q_iload rfl ?_
            refine q_if_ne (fun c_32 => ?_) (fun c_32 => ?_)
            · rw [if_neg c_32] at h
              refine K_of b_271_44 h_271_44 ?_
              refine q_aload rfl ?_
              refine q_getRs (c0 := 12) (j := 3) rfl rfl (zl hS 105 (by decide)) (sk hS 105 (by decide) rfl) rfl (by decide) (r_105_3 hS) ?_
              refine q_iconst (60) (by decide) ?_
              refine q_iload rfl ?_
              refine q_iadd ?_
              obtain ⟨⟨u_52, v_52⟩, h⟩ := ite_some h
              refine q_ialN (Int32.toNatClampNeg ((60 : Int32) + i1)) (nx u_52) (zl hS 107 (by decide)) (sk hS 107 (by decide) rfl) v_52 (by decide) ?_
              refine q_aload rfl ?_
              refine q_getRs (c0 := 12) (j := 56) rfl rfl (zl hS 105 (by decide)) (sk hS 105 (by decide) rfl) rfl (by decide) (r_105_56 hS) ?_
              refine q_iload rfl ?_
              obtain ⟨⟨u_58, v_58⟩, h⟩ := ite_some h
              refine q_ialN (Int32.toNatClampNeg i1) (nx u_58) (zl hS 135 (by decide)) (sk hS 135 (by decide) rfl) v_58 (by decide) ?_
              obtain ⟨d_59, h⟩ := ite_some h
              obtain ⟨⟨x3_59, I3_59, L3_59⟩, e_59, h⟩ := Option.bind_eq_some_iff.mp h
              dsimp only at h
              refine q_fs2I (a_272 X hS (d := d - 1) (by omega) e_59) (by omega) (Nat.le_refl _) (Nat.le_refl _) rfl (Nat.le_of_ble_eq_true rfl) ?_
              refine q_end ?_
              refine K_of b_271_62 h_271_62 ?_
              cases h
              exact q_iret rfl (Nat.le_refl _) (Nat.le_refl _) ⟨rfl, rfl⟩
            · rw [if_pos c_32] at h
              refine q_aload rfl ?_
              refine q_getRs (c0 := 12) (j := 56) rfl rfl (zl hS 105 (by decide)) (sk hS 105 (by decide) rfl) rfl (by decide) (r_105_56 hS) ?_
              refine q_iload rfl ?_
              obtain ⟨⟨u_40, v_40⟩, h⟩ := ite_some h
              refine q_ialN (Int32.toNatClampNeg i1) (nx u_40) (zl hS 135 (by decide)) (sk hS 135 (by decide) rfl) v_40 (by decide) ?_
              refine q_goto ?_
              refine K_of b_271_62 h_271_62 ?_
              cases h
              exact q_iret rfl (Nat.le_refl _) (Nat.le_refl _) ⟨rfl, rfl⟩
          · rw [if_pos c_26] at h
            refine q_end ?_
            refine K_of b_271_29 h_271_29 ?_
            refine q_iconst (-1) (by decide) ?_
            cases h
            exact q_iret rfl (Nat.le_refl _) (Nat.le_refl _) ⟨rfl, rfl⟩
theorem a_271 (X : GX) {z : Nat} {kd : Nat → Nat × Nat} {Rf : Nat → Nat → Option Nat} (hS : Sh z kd Rf) {n dp d : Nat} (hd : dp ≤ d) {I : (Nat → Nat → Int32)} {L : (Nat → Nat → Int64)} {i1 : Int32} {i2 : Int32} {I1 : (Nat → Nat → Int32)} {L1 : (Nat → Nat → Int64)} {r : Int32} (h : g_271 n dp (z, kd, Rf) 0 I L i1 i2 = some (r, I1, L1)) : Ct X d 271 0 0 [.ref 105, .int i1, .int i2] (z, kd, I, L, Rf) (AI (fun x τ => x = r ∧ τ = (z, kd, I1, L1, Rf))) :=
  Ct_of mu_271 (Nat.le_of_ble_eq_true rfl) ((w_271 X hS n dp d hd I L i1 i2 _ _ _) h)

/-! 274 CutFloorModel.with(II)I -/
set_option maxHeartbeats 4000000 in
set_option maxRecDepth 100000 in
def g_274 : Nat → Nat → EN → Nat → (Nat → Nat → Int32) → (Nat → Nat → Int64) → Int32 → Int32 →  Option (Int32 × (Nat → Nat → Int32) × (Nat → Nat → Int64))
  | 0, _, _, _, _, _, _, _ => none
  | n + 1, dp, e, lab, I, L, i1, i2 =>
    if lab = 0 then (if i1 = 0 then (if i1 = (1 : Int32) then (if i1 = (2 : Int32) then (if 1 ≤ dp then (g_262 n (dp - 1) e 0 I L ((I 107 0) + i2) ((I 107 1) + i2) ((I 107 2) + i2) 0 0 0).bind (fun ⟨x0_51, I0_51, L0_51⟩ => (if x0_51 = 0 then (some ((-1 : Int32), I0_51, L0_51)) else (if 1 ≤ dp then (g_263 n (dp - 1) e 0 I0_51 L0_51 0 0 0).bind (fun ⟨x1_58, I1_58, L1_58⟩ => (some (x1_58, I1_58, L1_58))) else none))) else none) else (if 1 ≤ dp then (g_262 n (dp - 1) e 0 I L ((I 107 0) + i2) ((I 107 1) + i2) ((I 107 2) + (0 : Int32)) 0 0 0).bind (fun ⟨x0_51, I0_51, L0_51⟩ => (if x0_51 = 0 then (some ((-1 : Int32), I0_51, L0_51)) else (if 1 ≤ dp then (g_263 n (dp - 1) e 0 I0_51 L0_51 0 0 0).bind (fun ⟨x1_58, I1_58, L1_58⟩ => (some (x1_58, I1_58, L1_58))) else none))) else none)) else (if i1 = (2 : Int32) then (if 1 ≤ dp then (g_262 n (dp - 1) e 0 I L ((I 107 0) + i2) ((I 107 1) + (0 : Int32)) ((I 107 2) + i2) 0 0 0).bind (fun ⟨x0_51, I0_51, L0_51⟩ => (if x0_51 = 0 then (some ((-1 : Int32), I0_51, L0_51)) else (if 1 ≤ dp then (g_263 n (dp - 1) e 0 I0_51 L0_51 0 0 0).bind (fun ⟨x1_58, I1_58, L1_58⟩ => (some (x1_58, I1_58, L1_58))) else none))) else none) else (if 1 ≤ dp then (g_262 n (dp - 1) e 0 I L ((I 107 0) + i2) ((I 107 1) + (0 : Int32)) ((I 107 2) + (0 : Int32)) 0 0 0).bind (fun ⟨x0_51, I0_51, L0_51⟩ => (if x0_51 = 0 then (some ((-1 : Int32), I0_51, L0_51)) else (if 1 ≤ dp then (g_263 n (dp - 1) e 0 I0_51 L0_51 0 0 0).bind (fun ⟨x1_58, I1_58, L1_58⟩ => (some (x1_58, I1_58, L1_58))) else none))) else none))) else (if i1 = (1 : Int32) then (if i1 = (2 : Int32) then (if 1 ≤ dp then (g_262 n (dp - 1) e 0 I L ((I 107 0) + (0 : Int32)) ((I 107 1) + i2) ((I 107 2) + i2) 0 0 0).bind (fun ⟨x0_51, I0_51, L0_51⟩ => (if x0_51 = 0 then (some ((-1 : Int32), I0_51, L0_51)) else (if 1 ≤ dp then (g_263 n (dp - 1) e 0 I0_51 L0_51 0 0 0).bind (fun ⟨x1_58, I1_58, L1_58⟩ => (some (x1_58, I1_58, L1_58))) else none))) else none) else (if 1 ≤ dp then (g_262 n (dp - 1) e 0 I L ((I 107 0) + (0 : Int32)) ((I 107 1) + i2) ((I 107 2) + (0 : Int32)) 0 0 0).bind (fun ⟨x0_51, I0_51, L0_51⟩ => (if x0_51 = 0 then (some ((-1 : Int32), I0_51, L0_51)) else (if 1 ≤ dp then (g_263 n (dp - 1) e 0 I0_51 L0_51 0 0 0).bind (fun ⟨x1_58, I1_58, L1_58⟩ => (some (x1_58, I1_58, L1_58))) else none))) else none)) else (if i1 = (2 : Int32) then (if 1 ≤ dp then (g_262 n (dp - 1) e 0 I L ((I 107 0) + (0 : Int32)) ((I 107 1) + (0 : Int32)) ((I 107 2) + i2) 0 0 0).bind (fun ⟨x0_51, I0_51, L0_51⟩ => (if x0_51 = 0 then (some ((-1 : Int32), I0_51, L0_51)) else (if 1 ≤ dp then (g_263 n (dp - 1) e 0 I0_51 L0_51 0 0 0).bind (fun ⟨x1_58, I1_58, L1_58⟩ => (some (x1_58, I1_58, L1_58))) else none))) else none) else (if 1 ≤ dp then (g_262 n (dp - 1) e 0 I L ((I 107 0) + (0 : Int32)) ((I 107 1) + (0 : Int32)) ((I 107 2) + (0 : Int32)) 0 0 0).bind (fun ⟨x0_51, I0_51, L0_51⟩ => (if x0_51 = 0 then (some ((-1 : Int32), I0_51, L0_51)) else (if 1 ≤ dp then (g_263 n (dp - 1) e 0 I0_51 L0_51 0 0 0).bind (fun ⟨x1_58, I1_58, L1_58⟩ => (some (x1_58, I1_58, L1_58))) else none))) else none))))
    else none
set_option maxRecDepth 100000 in
theorem e_274_0 (n dp : Nat) (e : EN) (I : (Nat → Nat → Int32)) (L : (Nat → Nat → Int64)) (i1 : Int32) (i2 : Int32) : g_274 (n + 1) dp e 0 I L i1 i2 = (if i1 = 0 then (if i1 = (1 : Int32) then (if i1 = (2 : Int32) then (if 1 ≤ dp then (g_262 n (dp - 1) e 0 I L ((I 107 0) + i2) ((I 107 1) + i2) ((I 107 2) + i2) 0 0 0).bind (fun ⟨x0_51, I0_51, L0_51⟩ => (if x0_51 = 0 then (some ((-1 : Int32), I0_51, L0_51)) else (if 1 ≤ dp then (g_263 n (dp - 1) e 0 I0_51 L0_51 0 0 0).bind (fun ⟨x1_58, I1_58, L1_58⟩ => (some (x1_58, I1_58, L1_58))) else none))) else none) else (if 1 ≤ dp then (g_262 n (dp - 1) e 0 I L ((I 107 0) + i2) ((I 107 1) + i2) ((I 107 2) + (0 : Int32)) 0 0 0).bind (fun ⟨x0_51, I0_51, L0_51⟩ => (if x0_51 = 0 then (some ((-1 : Int32), I0_51, L0_51)) else (if 1 ≤ dp then (g_263 n (dp - 1) e 0 I0_51 L0_51 0 0 0).bind (fun ⟨x1_58, I1_58, L1_58⟩ => (some (x1_58, I1_58, L1_58))) else none))) else none)) else (if i1 = (2 : Int32) then (if 1 ≤ dp then (g_262 n (dp - 1) e 0 I L ((I 107 0) + i2) ((I 107 1) + (0 : Int32)) ((I 107 2) + i2) 0 0 0).bind (fun ⟨x0_51, I0_51, L0_51⟩ => (if x0_51 = 0 then (some ((-1 : Int32), I0_51, L0_51)) else (if 1 ≤ dp then (g_263 n (dp - 1) e 0 I0_51 L0_51 0 0 0).bind (fun ⟨x1_58, I1_58, L1_58⟩ => (some (x1_58, I1_58, L1_58))) else none))) else none) else (if 1 ≤ dp then (g_262 n (dp - 1) e 0 I L ((I 107 0) + i2) ((I 107 1) + (0 : Int32)) ((I 107 2) + (0 : Int32)) 0 0 0).bind (fun ⟨x0_51, I0_51, L0_51⟩ => (if x0_51 = 0 then (some ((-1 : Int32), I0_51, L0_51)) else (if 1 ≤ dp then (g_263 n (dp - 1) e 0 I0_51 L0_51 0 0 0).bind (fun ⟨x1_58, I1_58, L1_58⟩ => (some (x1_58, I1_58, L1_58))) else none))) else none))) else (if i1 = (1 : Int32) then (if i1 = (2 : Int32) then (if 1 ≤ dp then (g_262 n (dp - 1) e 0 I L ((I 107 0) + (0 : Int32)) ((I 107 1) + i2) ((I 107 2) + i2) 0 0 0).bind (fun ⟨x0_51, I0_51, L0_51⟩ => (if x0_51 = 0 then (some ((-1 : Int32), I0_51, L0_51)) else (if 1 ≤ dp then (g_263 n (dp - 1) e 0 I0_51 L0_51 0 0 0).bind (fun ⟨x1_58, I1_58, L1_58⟩ => (some (x1_58, I1_58, L1_58))) else none))) else none) else (if 1 ≤ dp then (g_262 n (dp - 1) e 0 I L ((I 107 0) + (0 : Int32)) ((I 107 1) + i2) ((I 107 2) + (0 : Int32)) 0 0 0).bind (fun ⟨x0_51, I0_51, L0_51⟩ => (if x0_51 = 0 then (some ((-1 : Int32), I0_51, L0_51)) else (if 1 ≤ dp then (g_263 n (dp - 1) e 0 I0_51 L0_51 0 0 0).bind (fun ⟨x1_58, I1_58, L1_58⟩ => (some (x1_58, I1_58, L1_58))) else none))) else none)) else (if i1 = (2 : Int32) then (if 1 ≤ dp then (g_262 n (dp - 1) e 0 I L ((I 107 0) + (0 : Int32)) ((I 107 1) + (0 : Int32)) ((I 107 2) + i2) 0 0 0).bind (fun ⟨x0_51, I0_51, L0_51⟩ => (if x0_51 = 0 then (some ((-1 : Int32), I0_51, L0_51)) else (if 1 ≤ dp then (g_263 n (dp - 1) e 0 I0_51 L0_51 0 0 0).bind (fun ⟨x1_58, I1_58, L1_58⟩ => (some (x1_58, I1_58, L1_58))) else none))) else none) else (if 1 ≤ dp then (g_262 n (dp - 1) e 0 I L ((I 107 0) + (0 : Int32)) ((I 107 1) + (0 : Int32)) ((I 107 2) + (0 : Int32)) 0 0 0).bind (fun ⟨x0_51, I0_51, L0_51⟩ => (if x0_51 = 0 then (some ((-1 : Int32), I0_51, L0_51)) else (if 1 ≤ dp then (g_263 n (dp - 1) e 0 I0_51 L0_51 0 0 0).bind (fun ⟨x1_58, I1_58, L1_58⟩ => (some (x1_58, I1_58, L1_58))) else none))) else none)))) := by rw [g_274.eq_2, if_pos (show (0 : Nat) = 0 from rfl)]
set_option maxHeartbeats 8000000 in
set_option maxRecDepth 100000 in
theorem w_274 (X : GX) {z : Nat} {kd : Nat → Nat × Nat} {Rf : Nat → Nat → Option Nat} (hS : Sh z kd Rf) : ∀ (n dp d : Nat), dp ≤ d → ∀ (I : (Nat → Nat → Int32)) (L : (Nat → Nat → Int64)) (i1 : Int32) (i2 : Int32) (r : Int32) (I1 : (Nat → Nat → Int32)) (L1 : (Nat → Nat → Int64)), (g_274 n dp (z, kd, Rf) 0 I L i1 i2 = some (r, I1, L1) → K X d 274 0 0 (AI (fun x τ => x = r ∧ τ = (z, kd, I1, L1, Rf))) 0 [some (.ref 105), some (.int i1), some (.int i2)] [] (z, kd, I, L, Rf) 0 0) := by
  intro n
  induction n with
  | zero => intro dp d hdp I L i1 i2 r I1 L1; exact fun h => by cases h
  | succ n ih =>
    intro dp d hdp I L i1 i2 r I1 L1
    · intro h
      rw [e_274_0] at h
      refine K_of b_274_0 h_274_0 ?_
      refine q_aload rfl ?_
      refine q_aload rfl ?_
      refine q_getRs (c0 := 12) (j := 3) rfl rfl (zl hS 105 (by decide)) (sk hS 105 (by decide) rfl) rfl (by decide) (r_105_3 hS) ?_
      refine q_iconst (0) (by decide) ?_
      refine q_ialN (0) rfl (zl hS 107 (by decide)) (sk hS 107 (by decide) rfl) (by decide) (by decide) ?_
      refine q_iload rfl ?_
      refine q_if_ne (fun c_8 => ?_) (fun c_8 => ?_)
      · rw [if_neg c_8] at h
        refine K_of b_274_15 h_274_15 ?_
        refine q_iconst (0) (by decide) ?_
        refine q_end ?_
        refine K_of b_274_16 h_274_16 ?_
        refine q_iadd ?_
        refine q_aload rfl ?_
        refine q_getRs (c0 := 12) (j := 3) rfl rfl (zl hS 105 (by decide)) (sk hS 105 (by decide) rfl) rfl (by decide) (r_105_3 hS) ?_
        refine q_iconst (1) (by decide) ?_
        refine q_ialN (1) rfl (zl hS 107 (by decide)) (sk hS 107 (by decide) rfl) (by decide) (by decide) ?_
        refine q_iload rfl ?_
        refine q_iconst (1) (by decide) ?_
        refine q_icmp_ne (fun c_25 => ?_) (fun c_25 => ?_)
        · rw [if_neg c_25] at h
          refine K_of b_274_32 h_274_32 ?_
          refine q_iconst (0) (by decide) ?_
          refine q_end ?_
          refine K_of b_274_33 h_274_33 ?_
          refine q_iadd ?_
          refine q_aload rfl ?_
          refine q_getRs (c0 := 12) (j := 3) rfl rfl (zl hS 105 (by decide)) (sk hS 105 (by decide) rfl) rfl (by decide) (r_105_3 hS) ?_
          refine q_iconst (2) (by decide) ?_
          refine q_ialN (2) rfl (zl hS 107 (by decide)) (sk hS 107 (by decide) rfl) (by decide) (by decide) ?_
          refine q_iload rfl ?_
          refine q_iconst (2) (by decide) ?_
          refine q_icmp_ne (fun c_42 => ?_) (fun c_42 => ?_)
          · rw [if_neg c_42] at h
            refine K_of b_274_49 h_274_49 ?_
            refine q_iconst (0) (by decide) ?_
            refine q_end ?_
            refine K_of b_274_50 h_274_50 ?_
            refine q_iadd ?_
            obtain ⟨d_51, h⟩ := ite_some h
            obtain ⟨⟨x0_51, I0_51, L0_51⟩, e_51, h⟩ := Option.bind_eq_some_iff.mp h
            dsimp only at h
            refine q_fv4I (a_262 X hS (d := d - 1) (by omega) e_51) (by omega) (Nat.le_refl _) (Nat.le_refl _) rfl (Nat.le_of_ble_eq_true rfl) ⟨(zl hS 105 (by decide)), congrArg Prod.fst (sk hS 105 (by decide) rfl), by decide⟩ ?_
            refine q_if_eq (fun c_54 => ?_) (fun c_54 => ?_)
            · rw [if_pos c_54] at h
              refine K_of b_274_64 h_274_64 ?_
              refine q_iconst (-1) (by decide) ?_
              refine q_end ?_
              refine K_of b_274_65 h_274_65 ?_
              cases h
              exact q_iret rfl (Nat.le_refl _) (Nat.le_refl _) ⟨rfl, rfl⟩
            · rw [if_neg c_54] at h
              refine q_aload rfl ?_
              obtain ⟨d_58, h⟩ := ite_some h
              obtain ⟨⟨x1_58, I1_58, L1_58⟩, e_58, h⟩ := Option.bind_eq_some_iff.mp h
              dsimp only at h
              refine q_fv1I (a_263 X hS (d := d - 1) (by omega) e_58) (by omega) (Nat.le_refl _) (Nat.le_refl _) rfl (Nat.le_of_ble_eq_true rfl) ⟨(zl hS 105 (by decide)), congrArg Prod.fst (sk hS 105 (by decide) rfl), by decide⟩ ?_
              refine q_goto ?_
              refine K_of b_274_65 h_274_65 ?_
              cases h
              exact q_iret rfl (Nat.le_refl _) (Nat.le_refl _) ⟨rfl, rfl⟩
          · rw [if_pos c_42] at h
            refine q_iload rfl ?_
            refine q_goto ?_
            refine K_of b_274_50 h_274_50 ?_
            refine q_iadd ?_
            obtain ⟨d_51, h⟩ := ite_some h
            obtain ⟨⟨x0_51, I0_51, L0_51⟩, e_51, h⟩ := Option.bind_eq_some_iff.mp h
            dsimp only at h
            refine q_fv4I (a_262 X hS (d := d - 1) (by omega) e_51) (by omega) (Nat.le_refl _) (Nat.le_refl _) rfl (Nat.le_of_ble_eq_true rfl) ⟨(zl hS 105 (by decide)), congrArg Prod.fst (sk hS 105 (by decide) rfl), by decide⟩ ?_
            refine q_if_eq (fun c_54 => ?_) (fun c_54 => ?_)
            · rw [if_pos c_54] at h
              refine K_of b_274_64 h_274_64 ?_
              refine q_iconst (-1) (by decide) ?_
              refine q_end ?_
              refine K_of b_274_65 h_274_65 ?_
              cases h
              exact q_iret rfl (Nat.le_refl _) (Nat.le_refl _) ⟨rfl, rfl⟩
            · rw [if_neg c_54] at h
              refine q_aload rfl ?_
              obtain ⟨d_58, h⟩ := ite_some h
              obtain ⟨⟨x1_58, I1_58, L1_58⟩, e_58, h⟩ := Option.bind_eq_some_iff.mp h
              dsimp only at h
              refine q_fv1I (a_263 X hS (d := d - 1) (by omega) e_58) (by omega) (Nat.le_refl _) (Nat.le_refl _) rfl (Nat.le_of_ble_eq_true rfl) ⟨(zl hS 105 (by decide)), congrArg Prod.fst (sk hS 105 (by decide) rfl), by decide⟩ ?_
              refine q_goto ?_
              refine K_of b_274_65 h_274_65 ?_
              cases h
              exact q_iret rfl (Nat.le_refl _) (Nat.le_refl _) ⟨rfl, rfl⟩
        · rw [if_pos c_25] at h
          refine q_iload rfl ?_
          refine q_goto ?_
          refine K_of b_274_33 h_274_33 ?_
          refine q_iadd ?_
          refine q_aload rfl ?_
          refine q_getRs (c0 := 12) (j := 3) rfl rfl (zl hS 105 (by decide)) (sk hS 105 (by decide) rfl) rfl (by decide) (r_105_3 hS) ?_
          refine q_iconst (2) (by decide) ?_
          refine q_ialN (2) rfl (zl hS 107 (by decide)) (sk hS 107 (by decide) rfl) (by decide) (by decide) ?_
          refine q_iload rfl ?_
          refine q_iconst (2) (by decide) ?_
          refine q_icmp_ne (fun c_42 => ?_) (fun c_42 => ?_)
          · rw [if_neg c_42] at h
            refine K_of b_274_49 h_274_49 ?_
            refine q_iconst (0) (by decide) ?_
            refine q_end ?_
            refine K_of b_274_50 h_274_50 ?_
            refine q_iadd ?_
            obtain ⟨d_51, h⟩ := ite_some h
            obtain ⟨⟨x0_51, I0_51, L0_51⟩, e_51, h⟩ := Option.bind_eq_some_iff.mp h
            dsimp only at h
            refine q_fv4I (a_262 X hS (d := d - 1) (by omega) e_51) (by omega) (Nat.le_refl _) (Nat.le_refl _) rfl (Nat.le_of_ble_eq_true rfl) ⟨(zl hS 105 (by decide)), congrArg Prod.fst (sk hS 105 (by decide) rfl), by decide⟩ ?_
            refine q_if_eq (fun c_54 => ?_) (fun c_54 => ?_)
            · rw [if_pos c_54] at h
              refine K_of b_274_64 h_274_64 ?_
              refine q_iconst (-1) (by decide) ?_
              refine q_end ?_
              refine K_of b_274_65 h_274_65 ?_
              cases h
              exact q_iret rfl (Nat.le_refl _) (Nat.le_refl _) ⟨rfl, rfl⟩
            · rw [if_neg c_54] at h
              refine q_aload rfl ?_
              obtain ⟨d_58, h⟩ := ite_some h
              obtain ⟨⟨x1_58, I1_58, L1_58⟩, e_58, h⟩ := Option.bind_eq_some_iff.mp h
              dsimp only at h
              refine q_fv1I (a_263 X hS (d := d - 1) (by omega) e_58) (by omega) (Nat.le_refl _) (Nat.le_refl _) rfl (Nat.le_of_ble_eq_true rfl) ⟨(zl hS 105 (by decide)), congrArg Prod.fst (sk hS 105 (by decide) rfl), by decide⟩ ?_
              refine q_goto ?_
              refine K_of b_274_65 h_274_65 ?_
              cases h
              exact q_iret rfl (Nat.le_refl _) (Nat.le_refl _) ⟨rfl, rfl⟩
          · rw [if_pos c_42] at h
            refine q_iload rfl ?_
            refine q_goto ?_
            refine K_of b_274_50 h_274_50 ?_
            refine q_iadd ?_
            obtain ⟨d_51, h⟩ := ite_some h
            obtain ⟨⟨x0_51, I0_51, L0_51⟩, e_51, h⟩ := Option.bind_eq_some_iff.mp h
            dsimp only at h
            refine q_fv4I (a_262 X hS (d := d - 1) (by omega) e_51) (by omega) (Nat.le_refl _) (Nat.le_refl _) rfl (Nat.le_of_ble_eq_true rfl) ⟨(zl hS 105 (by decide)), congrArg Prod.fst (sk hS 105 (by decide) rfl), by decide⟩ ?_
            refine q_if_eq (fun c_54 => ?_) (fun c_54 => ?_)
            · rw [if_pos c_54] at h
              refine K_of b_274_64 h_274_64 ?_
              refine q_iconst (-1) (by decide) ?_
              refine q_end ?_
              refine K_of b_274_65 h_274_65 ?_
              cases h
              exact q_iret rfl (Nat.le_refl _) (Nat.le_refl _) ⟨rfl, rfl⟩
            · rw [if_neg c_54] at h
              refine q_aload rfl ?_
              obtain ⟨d_58, h⟩ := ite_some h
              obtain ⟨⟨x1_58, I1_58, L1_58⟩, e_58, h⟩ := Option.bind_eq_some_iff.mp h
              dsimp only at h
              refine q_fv1I (a_263 X hS (d := d - 1) (by omega) e_58) (by omega) (Nat.le_refl _) (Nat.le_refl _) rfl (Nat.le_of_ble_eq_true rfl) ⟨(zl hS 105 (by decide)), congrArg Prod.fst (sk hS 105 (by decide) rfl), by decide⟩ ?_
              refine q_goto ?_
              refine K_of b_274_65 h_274_65 ?_
              cases h
              exact q_iret rfl (Nat.le_refl _) (Nat.le_refl _) ⟨rfl, rfl⟩
      · rw [if_pos c_8] at h
        refine q_iload rfl ?_
        refine q_goto ?_
        refine K_of b_274_16 h_274_16 ?_
        refine q_iadd ?_
        refine q_aload rfl ?_
        refine q_getRs (c0 := 12) (j := 3) rfl rfl (zl hS 105 (by decide)) (sk hS 105 (by decide) rfl) rfl (by decide) (r_105_3 hS) ?_
        refine q_iconst (1) (by decide) ?_
        refine q_ialN (1) rfl (zl hS 107 (by decide)) (sk hS 107 (by decide) rfl) (by decide) (by decide) ?_
        refine q_iload rfl ?_
        refine q_iconst (1) (by decide) ?_
        refine q_icmp_ne (fun c_25 => ?_) (fun c_25 => ?_)
        · rw [if_neg c_25] at h
          refine K_of b_274_32 h_274_32 ?_
          refine q_iconst (0) (by decide) ?_
          refine q_end ?_
          refine K_of b_274_33 h_274_33 ?_
          refine q_iadd ?_
          refine q_aload rfl ?_
          refine q_getRs (c0 := 12) (j := 3) rfl rfl (zl hS 105 (by decide)) (sk hS 105 (by decide) rfl) rfl (by decide) (r_105_3 hS) ?_
          refine q_iconst (2) (by decide) ?_
          refine q_ialN (2) rfl (zl hS 107 (by decide)) (sk hS 107 (by decide) rfl) (by decide) (by decide) ?_
          refine q_iload rfl ?_
          refine q_iconst (2) (by decide) ?_
          refine q_icmp_ne (fun c_42 => ?_) (fun c_42 => ?_)
          · rw [if_neg c_42] at h
            refine K_of b_274_49 h_274_49 ?_
            refine q_iconst (0) (by decide) ?_
            refine q_end ?_
            refine K_of b_274_50 h_274_50 ?_
            refine q_iadd ?_
            obtain ⟨d_51, h⟩ := ite_some h
            obtain ⟨⟨x0_51, I0_51, L0_51⟩, e_51, h⟩ := Option.bind_eq_some_iff.mp h
            dsimp only at h
            refine q_fv4I (a_262 X hS (d := d - 1) (by omega) e_51) (by omega) (Nat.le_refl _) (Nat.le_refl _) rfl (Nat.le_of_ble_eq_true rfl) ⟨(zl hS 105 (by decide)), congrArg Prod.fst (sk hS 105 (by decide) rfl), by decide⟩ ?_
            refine q_if_eq (fun c_54 => ?_) (fun c_54 => ?_)
            · rw [if_pos c_54] at h
              refine K_of b_274_64 h_274_64 ?_
              refine q_iconst (-1) (by decide) ?_
              refine q_end ?_
              refine K_of b_274_65 h_274_65 ?_
              cases h
              exact q_iret rfl (Nat.le_refl _) (Nat.le_refl _) ⟨rfl, rfl⟩
            · rw [if_neg c_54] at h
              refine q_aload rfl ?_
              obtain ⟨d_58, h⟩ := ite_some h
              obtain ⟨⟨x1_58, I1_58, L1_58⟩, e_58, h⟩ := Option.bind_eq_some_iff.mp h
              dsimp only at h
              refine q_fv1I (a_263 X hS (d := d - 1) (by omega) e_58) (by omega) (Nat.le_refl _) (Nat.le_refl _) rfl (Nat.le_of_ble_eq_true rfl) ⟨(zl hS 105 (by decide)), congrArg Prod.fst (sk hS 105 (by decide) rfl), by decide⟩ ?_
              refine q_goto ?_
              refine K_of b_274_65 h_274_65 ?_
              cases h
              exact q_iret rfl (Nat.le_refl _) (Nat.le_refl _) ⟨rfl, rfl⟩
          · rw [if_pos c_42] at h
            refine q_iload rfl ?_
            refine q_goto ?_
            refine K_of b_274_50 h_274_50 ?_
            refine q_iadd ?_
            obtain ⟨d_51, h⟩ := ite_some h
            obtain ⟨⟨x0_51, I0_51, L0_51⟩, e_51, h⟩ := Option.bind_eq_some_iff.mp h
            dsimp only at h
            refine q_fv4I (a_262 X hS (d := d - 1) (by omega) e_51) (by omega) (Nat.le_refl _) (Nat.le_refl _) rfl (Nat.le_of_ble_eq_true rfl) ⟨(zl hS 105 (by decide)), congrArg Prod.fst (sk hS 105 (by decide) rfl), by decide⟩ ?_
            refine q_if_eq (fun c_54 => ?_) (fun c_54 => ?_)
            · rw [if_pos c_54] at h
              refine K_of b_274_64 h_274_64 ?_
              refine q_iconst (-1) (by decide) ?_
              refine q_end ?_
              refine K_of b_274_65 h_274_65 ?_
              cases h
              exact q_iret rfl (Nat.le_refl _) (Nat.le_refl _) ⟨rfl, rfl⟩
            · rw [if_neg c_54] at h
              refine q_aload rfl ?_
              obtain ⟨d_58, h⟩ := ite_some h
              obtain ⟨⟨x1_58, I1_58, L1_58⟩, e_58, h⟩ := Option.bind_eq_some_iff.mp h
              dsimp only at h
              refine q_fv1I (a_263 X hS (d := d - 1) (by omega) e_58) (by omega) (Nat.le_refl _) (Nat.le_refl _) rfl (Nat.le_of_ble_eq_true rfl) ⟨(zl hS 105 (by decide)), congrArg Prod.fst (sk hS 105 (by decide) rfl), by decide⟩ ?_
              refine q_goto ?_
              refine K_of b_274_65 h_274_65 ?_
              cases h
              exact q_iret rfl (Nat.le_refl _) (Nat.le_refl _) ⟨rfl, rfl⟩
        · rw [if_pos c_25] at h
          refine q_iload rfl ?_
          refine q_goto ?_
          refine K_of b_274_33 h_274_33 ?_
          refine q_iadd ?_
          refine q_aload rfl ?_
          refine q_getRs (c0 := 12) (j := 3) rfl rfl (zl hS 105 (by decide)) (sk hS 105 (by decide) rfl) rfl (by decide) (r_105_3 hS) ?_
          refine q_iconst (2) (by decide) ?_
          refine q_ialN (2) rfl (zl hS 107 (by decide)) (sk hS 107 (by decide) rfl) (by decide) (by decide) ?_
          refine q_iload rfl ?_
          refine q_iconst (2) (by decide) ?_
          refine q_icmp_ne (fun c_42 => ?_) (fun c_42 => ?_)
          · rw [if_neg c_42] at h
            refine K_of b_274_49 h_274_49 ?_
            refine q_iconst (0) (by decide) ?_
            refine q_end ?_
            refine K_of b_274_50 h_274_50 ?_
            refine q_iadd ?_
            obtain ⟨d_51, h⟩ := ite_some h
            obtain ⟨⟨x0_51, I0_51, L0_51⟩, e_51, h⟩ := Option.bind_eq_some_iff.mp h
            dsimp only at h
            refine q_fv4I (a_262 X hS (d := d - 1) (by omega) e_51) (by omega) (Nat.le_refl _) (Nat.le_refl _) rfl (Nat.le_of_ble_eq_true rfl) ⟨(zl hS 105 (by decide)), congrArg Prod.fst (sk hS 105 (by decide) rfl), by decide⟩ ?_
            refine q_if_eq (fun c_54 => ?_) (fun c_54 => ?_)
            · rw [if_pos c_54] at h
              refine K_of b_274_64 h_274_64 ?_
              refine q_iconst (-1) (by decide) ?_
              refine q_end ?_
              refine K_of b_274_65 h_274_65 ?_
              cases h
              exact q_iret rfl (Nat.le_refl _) (Nat.le_refl _) ⟨rfl, rfl⟩
            · rw [if_neg c_54] at h
              refine q_aload rfl ?_
              obtain ⟨d_58, h⟩ := ite_some h
              obtain ⟨⟨x1_58, I1_58, L1_58⟩, e_58, h⟩ := Option.bind_eq_some_iff.mp h
              dsimp only at h
              refine q_fv1I (a_263 X hS (d := d - 1) (by omega) e_58) (by omega) (Nat.le_refl _) (Nat.le_refl _) rfl (Nat.le_of_ble_eq_true rfl) ⟨(zl hS 105 (by decide)), congrArg Prod.fst (sk hS 105 (by decide) rfl), by decide⟩ ?_
              refine q_goto ?_
              refine K_of b_274_65 h_274_65 ?_
              cases h
              exact q_iret rfl (Nat.le_refl _) (Nat.le_refl _) ⟨rfl, rfl⟩
          · rw [if_pos c_42] at h
            refine q_iload rfl ?_
            refine q_goto ?_
            refine K_of b_274_50 h_274_50 ?_
            refine q_iadd ?_
            obtain ⟨d_51, h⟩ := ite_some h
            obtain ⟨⟨x0_51, I0_51, L0_51⟩, e_51, h⟩ := Option.bind_eq_some_iff.mp h
            dsimp only at h
            refine q_fv4I (a_262 X hS (d := d - 1) (by omega) e_51) (by omega) (Nat.le_refl _) (Nat.le_refl _) rfl (Nat.le_of_ble_eq_true rfl) ⟨(zl hS 105 (by decide)), congrArg Prod.fst (sk hS 105 (by decide) rfl), by decide⟩ ?_
            refine q_if_eq (fun c_54 => ?_) (fun c_54 => ?_)
            · rw [if_pos c_54] at h
              refine K_of b_274_64 h_274_64 ?_
              refine q_iconst (-1) (by decide) ?_
              refine q_end ?_
              refine K_of b_274_65 h_274_65 ?_
              cases h
              exact q_iret rfl (Nat.le_refl _) (Nat.le_refl _) ⟨rfl, rfl⟩
            · rw [if_neg c_54] at h
              refine q_aload rfl ?_
              obtain ⟨d_58, h⟩ := ite_some h
              obtain ⟨⟨x1_58, I1_58, L1_58⟩, e_58, h⟩ := Option.bind_eq_some_iff.mp h
              dsimp only at h
              refine q_fv1I (a_263 X hS (d := d - 1) (by omega) e_58) (by omega) (Nat.le_refl _) (Nat.le_refl _) rfl (Nat.le_of_ble_eq_true rfl) ⟨(zl hS 105 (by decide)), congrArg Prod.fst (sk hS 105 (by decide) rfl), by decide⟩ ?_
              refine q_goto ?_
              refine K_of b_274_65 h_274_65 ?_
              cases h
              exact q_iret rfl (Nat.le_refl _) (Nat.le_refl _) ⟨rfl, rfl⟩
theorem a_274 (X : GX) {z : Nat} {kd : Nat → Nat × Nat} {Rf : Nat → Nat → Option Nat} (hS : Sh z kd Rf) {n dp d : Nat} (hd : dp ≤ d) {I : (Nat → Nat → Int32)} {L : (Nat → Nat → Int64)} {i1 : Int32} {i2 : Int32} {I1 : (Nat → Nat → Int32)} {L1 : (Nat → Nat → Int64)} {r : Int32} (h : g_274 n dp (z, kd, Rf) 0 I L i1 i2 = some (r, I1, L1)) : Ct X d 274 0 0 [.ref 105, .int i1, .int i2] (z, kd, I, L, Rf) (AI (fun x τ => x = r ∧ τ = (z, kd, I1, L1, Rf))) :=
  Ct_of mu_274 (Nat.le_of_ble_eq_true rfl) ((w_274 X hS n dp d hd I L i1 i2 _ _ _) h)

/-! 273 CutFloorModel.value(I)I -/
set_option maxHeartbeats 4000000 in
set_option maxRecDepth 100000 in
def g_273 : Nat → Nat → EN → Nat → (Nat → Nat → Int32) → (Nat → Nat → Int64) → Int32 →  Option (Int32 × (Nat → Nat → Int32) × (Nat → Nat → Int64))
  | 0, _, _, _, _, _, _ => none
  | n + 1, dp, e, lab, I, L, i1 =>
    if lab = 0 then (stI (u2 I 105 0 (0 : Int32)) (fun I_2 => (if 1 ≤ dp then (g_197 n (dp - 1) e 0 I_2 L i1).bind (fun ⟨x0_6, I0_6, L0_6⟩ => (if x0_6 = 0 then (some ((-1 : Int32), I0_6, L0_6)) else (if 1 ≤ dp then (g_261 n (dp - 1) e 0 I0_6 L0_6 0 0 0 0).bind (fun ⟨x1_13, I1_13, L1_13⟩ => (if x1_13 = 0 then (some ((-1 : Int32), I1_13, L1_13)) else (if 1 ≤ dp then (g_198 n (dp - 1) e 0 I1_13 L1_13).bind (fun ⟨x2_20, I2_20, L2_20⟩ => (if x2_20 = (8 : Int32) then (some ((-1 : Int32), I2_20, L2_20)) else (if 1 ≤ dp then (g_274 n (dp - 1) e 0 I2_20 L2_20 i1 (1 : Int32)).bind (fun ⟨x3_33, I3_33, L3_33⟩ => (if x3_33 = (-1 : Int32) then (some ((-1 : Int32), I3_33, L3_33)) else (some ((x3_33 - (I3_33 105 53)), I3_33, L3_33)))) else none))) else none))) else none))) else none)))
    else none
set_option maxRecDepth 100000 in
theorem e_273_0 (n dp : Nat) (e : EN) (I : (Nat → Nat → Int32)) (L : (Nat → Nat → Int64)) (i1 : Int32) : g_273 (n + 1) dp e 0 I L i1 = (stI (u2 I 105 0 (0 : Int32)) (fun I_2 => (if 1 ≤ dp then (g_197 n (dp - 1) e 0 I_2 L i1).bind (fun ⟨x0_6, I0_6, L0_6⟩ => (if x0_6 = 0 then (some ((-1 : Int32), I0_6, L0_6)) else (if 1 ≤ dp then (g_261 n (dp - 1) e 0 I0_6 L0_6 0 0 0 0).bind (fun ⟨x1_13, I1_13, L1_13⟩ => (if x1_13 = 0 then (some ((-1 : Int32), I1_13, L1_13)) else (if 1 ≤ dp then (g_198 n (dp - 1) e 0 I1_13 L1_13).bind (fun ⟨x2_20, I2_20, L2_20⟩ => (if x2_20 = (8 : Int32) then (some ((-1 : Int32), I2_20, L2_20)) else (if 1 ≤ dp then (g_274 n (dp - 1) e 0 I2_20 L2_20 i1 (1 : Int32)).bind (fun ⟨x3_33, I3_33, L3_33⟩ => (if x3_33 = (-1 : Int32) then (some ((-1 : Int32), I3_33, L3_33)) else (some ((x3_33 - (I3_33 105 53)), I3_33, L3_33)))) else none))) else none))) else none))) else none))) := by rw [g_273.eq_2, if_pos (show (0 : Nat) = 0 from rfl)]
set_option maxHeartbeats 8000000 in
set_option maxRecDepth 100000 in
theorem w_273 (X : GX) {z : Nat} {kd : Nat → Nat × Nat} {Rf : Nat → Nat → Option Nat} (hS : Sh z kd Rf) : ∀ (n dp d : Nat), dp ≤ d → ∀ (I : (Nat → Nat → Int32)) (L : (Nat → Nat → Int64)) (i1 : Int32) (r : Int32) (I1 : (Nat → Nat → Int32)) (L1 : (Nat → Nat → Int64)), (g_273 n dp (z, kd, Rf) 0 I L i1 = some (r, I1, L1) → K X d 273 0 0 (AI (fun x τ => x = r ∧ τ = (z, kd, I1, L1, Rf))) 0 [some (.ref 105), some (.int i1), none] [] (z, kd, I, L, Rf) 0 0) := by
  intro n
  induction n with
  | zero => intro dp d hdp I L i1 r I1 L1; exact fun h => by cases h
  | succ n ih =>
    intro dp d hdp I L i1 r I1 L1
    · intro h
      rw [e_273_0] at h
      refine K_of b_273_0 h_273_0 ?_
      refine q_aload rfl ?_
      refine q_iconst (0) (by decide) ?_
      refine q_putI (c0 := 12) (j := 0) rfl rfl (zl hS 105 (by decide)) (sk hS 105 (by decide) rfl) rfl ?_
      obtain ⟨I_2, nI_2, h⟩ := stI_some h
      refine q_nI nI_2 ?_
      refine q_iload rfl ?_
      obtain ⟨d_6, h⟩ := ite_some h
      obtain ⟨⟨x0_6, I0_6, L0_6⟩, e_6, h⟩ := Option.bind_eq_some_iff.mp h
      dsimp only at h
      refine q_fs1I (a_197 X hS (d := d - 1) (by omega) e_6) (by omega) (Nat.le_refl _) (Nat.le_refl _) rfl (Nat.le_of_ble_eq_true rfl) ?_
      refine q_if_eq (fun c_9 => ?_) (fun c_9 => ?_)
      · rw [if_pos c_9] at h
        refine K_of b_273_28 h_273_28 ?_
        refine q_iconst (-1) (by decide) ?_
        cases h
        exact q_iret rfl (Nat.le_refl _) (Nat.le_refl _) ⟨rfl, rfl⟩
      · rw [if_neg c_9] at h
        refine q_aload rfl ?_
        obtain ⟨d_13, h⟩ := ite_some h
        obtain ⟨⟨x1_13, I1_13, L1_13⟩, e_13, h⟩ := Option.bind_eq_some_iff.mp h
        dsimp only at h
        refine q_fv1I (a_261 X hS (d := d - 1) (by omega) e_13) (by omega) (Nat.le_refl _) (Nat.le_refl _) rfl (Nat.le_of_ble_eq_true rfl) ⟨(zl hS 105 (by decide)), congrArg Prod.fst (sk hS 105 (by decide) rfl), by decide⟩ ?_
        refine q_if_eq (fun c_16 => ?_) (fun c_16 => ?_)
        · rw [if_pos c_16] at h
          refine K_of b_273_28 h_273_28 ?_
          refine q_iconst (-1) (by decide) ?_
          cases h
          exact q_iret rfl (Nat.le_refl _) (Nat.le_refl _) ⟨rfl, rfl⟩
        · rw [if_neg c_16] at h
          refine q_aload rfl ?_
          obtain ⟨d_20, h⟩ := ite_some h
          obtain ⟨⟨x2_20, I2_20, L2_20⟩, e_20, h⟩ := Option.bind_eq_some_iff.mp h
          dsimp only at h
          refine q_fv1I (a_198 X hS (d := d - 1) (by omega) e_20) (by omega) (Nat.le_refl _) (Nat.le_refl _) rfl (Nat.le_of_ble_eq_true rfl) ⟨(zl hS 105 (by decide)), congrArg Prod.fst (sk hS 105 (by decide) rfl), by decide⟩ ?_
          refine q_iconst (8) (by decide) ?_
          refine q_icmp_ne (fun c_25 => ?_) (fun c_25 => ?_)
          · rw [if_neg c_25] at h
            refine K_of b_273_30 h_273_30 ?_
            refine q_aload rfl ?_
            refine q_iload rfl ?_
            refine q_iconst (1) (by decide) ?_
            obtain ⟨d_33, h⟩ := ite_some h
            obtain ⟨⟨x3_33, I3_33, L3_33⟩, e_33, h⟩ := Option.bind_eq_some_iff.mp h
            dsimp only at h
            refine q_fv3I (a_274 X hS (d := d - 1) (by omega) e_33) (by omega) (Nat.le_refl _) (Nat.le_refl _) rfl (Nat.le_of_ble_eq_true rfl) ⟨(zl hS 105 (by decide)), congrArg Prod.fst (sk hS 105 (by decide) rfl), by decide⟩ ?_
            refine q_istore (ls1 := [some (.ref 105), some (.int i1), some (.int x3_33)]) (Nat.le_of_ble_eq_true rfl) rfl ?_
            refine q_iload rfl ?_
            refine q_iconst (-1) (by decide) ?_
            refine q_icmp_ne (fun c_39 => ?_) (fun c_39 => ?_)
            · rw [if_neg c_39] at h
              refine K_of b_273_46 h_273_46 ?_
              refine q_iload rfl ?_
              refine q_aload rfl ?_
              refine q_getI (c0 := 12) (j := 53) rfl rfl (zl hS 105 (by decide)) (sk hS 105 (by decide) rfl) (Or.inl rfl) (by decide) ?_
              refine q_isub ?_
              refine q_end ?_
              refine K_of b_273_52 h_273_52 ?_
              cases h
              exact q_iret rfl (Nat.le_refl _) (Nat.le_refl _) ⟨rfl, rfl⟩
            · rw [if_pos c_39] at h
              refine q_iconst (-1) (by decide) ?_
              refine q_goto ?_
              refine K_of b_273_52 h_273_52 ?_
              cases h
              exact q_iret rfl (Nat.le_refl _) (Nat.le_refl _) ⟨rfl, rfl⟩
          · rw [if_pos c_25] at h
            refine q_end ?_
            refine K_of b_273_28 h_273_28 ?_
            refine q_iconst (-1) (by decide) ?_
            cases h
            exact q_iret rfl (Nat.le_refl _) (Nat.le_refl _) ⟨rfl, rfl⟩
theorem a_273 (X : GX) {z : Nat} {kd : Nat → Nat × Nat} {Rf : Nat → Nat → Option Nat} (hS : Sh z kd Rf) {n dp d : Nat} (hd : dp ≤ d) {I : (Nat → Nat → Int32)} {L : (Nat → Nat → Int64)} {i1 : Int32} {I1 : (Nat → Nat → Int32)} {L1 : (Nat → Nat → Int64)} {r : Int32} (h : g_273 n dp (z, kd, Rf) 0 I L i1 = some (r, I1, L1)) : Ct X d 273 0 0 [.ref 105, .int i1] (z, kd, I, L, Rf) (AI (fun x τ => x = r ∧ τ = (z, kd, I1, L1, Rf))) :=
  Ct_of mu_273 (Nat.le_of_ble_eq_true rfl) ((w_273 X hS n dp d hd I L i1 _ _ _) h)

/-! 275 CutFloorModel.shorts(I)I -/
set_option maxHeartbeats 4000000 in
set_option maxRecDepth 100000 in
def g_275 : Nat → Nat → EN → Nat → (Nat → Nat → Int32) → (Nat → Nat → Int64) → Int32 →  Option (Int32 × (Nat → Nat → Int32) × (Nat → Nat → Int64))
  | 0, _, _, _, _, _, _ => none
  | n + 1, dp, e, lab, I, L, i1 =>
    if lab = 0 then (stI (u2 I 105 0 (0 : Int32)) (fun I_2 => (if 1 ≤ dp then (g_197 n (dp - 1) e 0 I_2 L i1).bind (fun ⟨x0_6, I0_6, L0_6⟩ => (if x0_6 = 0 then (some ((-100000 : Int32), I0_6, L0_6)) else (if 1 ≤ dp then (g_261 n (dp - 1) e 0 I0_6 L0_6 0 0 0 0).bind (fun ⟨x1_13, I1_13, L1_13⟩ => (if x1_13 = 0 then (some ((-100000 : Int32), I1_13, L1_13)) else (if 1 ≤ dp then (g_197 n (dp - 1) e 0 I1_13 L1_13 i1).bind (fun ⟨x2_25, I2_25, L2_25⟩ => (if x2_25 = 0 then (if 0 ≤ ((0 : Int32) + (0 : Int32)) ∧ (Int32.toNatClampNeg ((0 : Int32) + (0 : Int32))) < 1570 then (if (I2_25 107 (Int32.toNatClampNeg ((0 : Int32) + (0 : Int32)))) = 0 then (some ((-100000 : Int32), I2_25, L2_25)) else (if 1 ≤ dp then (g_274 n (dp - 1) e 0 I2_25 L2_25 i1 (-1 : Int32)).bind (fun ⟨x3_52, I3_52, L3_52⟩ => (some (((I2_25 105 53) - x3_52), I3_52, L3_52))) else none)) else none) else (if 0 ≤ ((0 : Int32) + i1) ∧ (Int32.toNatClampNeg ((0 : Int32) + i1)) < 1570 then (if (I2_25 107 (Int32.toNatClampNeg ((0 : Int32) + i1))) = 0 then (some ((-100000 : Int32), I2_25, L2_25)) else (if 1 ≤ dp then (g_274 n (dp - 1) e 0 I2_25 L2_25 i1 (-1 : Int32)).bind (fun ⟨x3_52, I3_52, L3_52⟩ => (some (((I2_25 105 53) - x3_52), I3_52, L3_52))) else none)) else none))) else none))) else none))) else none)))
    else none
set_option maxRecDepth 100000 in
theorem e_275_0 (n dp : Nat) (e : EN) (I : (Nat → Nat → Int32)) (L : (Nat → Nat → Int64)) (i1 : Int32) : g_275 (n + 1) dp e 0 I L i1 = (stI (u2 I 105 0 (0 : Int32)) (fun I_2 => (if 1 ≤ dp then (g_197 n (dp - 1) e 0 I_2 L i1).bind (fun ⟨x0_6, I0_6, L0_6⟩ => (if x0_6 = 0 then (some ((-100000 : Int32), I0_6, L0_6)) else (if 1 ≤ dp then (g_261 n (dp - 1) e 0 I0_6 L0_6 0 0 0 0).bind (fun ⟨x1_13, I1_13, L1_13⟩ => (if x1_13 = 0 then (some ((-100000 : Int32), I1_13, L1_13)) else (if 1 ≤ dp then (g_197 n (dp - 1) e 0 I1_13 L1_13 i1).bind (fun ⟨x2_25, I2_25, L2_25⟩ => (if x2_25 = 0 then (if 0 ≤ ((0 : Int32) + (0 : Int32)) ∧ (Int32.toNatClampNeg ((0 : Int32) + (0 : Int32))) < 1570 then (if (I2_25 107 (Int32.toNatClampNeg ((0 : Int32) + (0 : Int32)))) = 0 then (some ((-100000 : Int32), I2_25, L2_25)) else (if 1 ≤ dp then (g_274 n (dp - 1) e 0 I2_25 L2_25 i1 (-1 : Int32)).bind (fun ⟨x3_52, I3_52, L3_52⟩ => (some (((I2_25 105 53) - x3_52), I3_52, L3_52))) else none)) else none) else (if 0 ≤ ((0 : Int32) + i1) ∧ (Int32.toNatClampNeg ((0 : Int32) + i1)) < 1570 then (if (I2_25 107 (Int32.toNatClampNeg ((0 : Int32) + i1))) = 0 then (some ((-100000 : Int32), I2_25, L2_25)) else (if 1 ≤ dp then (g_274 n (dp - 1) e 0 I2_25 L2_25 i1 (-1 : Int32)).bind (fun ⟨x3_52, I3_52, L3_52⟩ => (some (((I2_25 105 53) - x3_52), I3_52, L3_52))) else none)) else none))) else none))) else none))) else none))) := by rw [g_275.eq_2, if_pos (show (0 : Nat) = 0 from rfl)]
set_option maxHeartbeats 8000000 in
set_option maxRecDepth 100000 in
theorem w_275 (X : GX) {z : Nat} {kd : Nat → Nat × Nat} {Rf : Nat → Nat → Option Nat} (hS : Sh z kd Rf) : ∀ (n dp d : Nat), dp ≤ d → ∀ (I : (Nat → Nat → Int32)) (L : (Nat → Nat → Int64)) (i1 : Int32) (r : Int32) (I1 : (Nat → Nat → Int32)) (L1 : (Nat → Nat → Int64)), (g_275 n dp (z, kd, Rf) 0 I L i1 = some (r, I1, L1) → K X d 275 0 0 (AI (fun x τ => x = r ∧ τ = (z, kd, I1, L1, Rf))) 0 [some (.ref 105), some (.int i1)] [] (z, kd, I, L, Rf) 0 0) := by
  intro n
  induction n with
  | zero => intro dp d hdp I L i1 r I1 L1; exact fun h => by cases h
  | succ n ih =>
    intro dp d hdp I L i1 r I1 L1
    · intro h
      rw [e_275_0] at h
      refine K_of b_275_0 h_275_0 ?_
      refine q_aload rfl ?_
      refine q_iconst (0) (by decide) ?_
      refine q_putI (c0 := 12) (j := 0) rfl rfl (zl hS 105 (by decide)) (sk hS 105 (by decide) rfl) rfl ?_
      obtain ⟨I_2, nI_2, h⟩ := stI_some h
      refine q_nI nI_2 ?_
      refine q_iload rfl ?_
      obtain ⟨d_6, h⟩ := ite_some h
      obtain ⟨⟨x0_6, I0_6, L0_6⟩, e_6, h⟩ := Option.bind_eq_some_iff.mp h
      dsimp only at h
      refine q_fs1I (a_197 X hS (d := d - 1) (by omega) e_6) (by omega) (Nat.le_refl _) (Nat.le_refl _) rfl (Nat.le_of_ble_eq_true rfl) ?_
      refine q_if_eq (fun c_9 => ?_) (fun c_9 => ?_)
      · rw [if_pos c_9] at h
        refine K_of b_275_41 h_275_41 ?_
        refine q_iconst (-100000) (by decide) ?_
        cases h
        exact q_iret rfl (Nat.le_refl _) (Nat.le_refl _) ⟨rfl, rfl⟩
      · rw [if_neg c_9] at h
        refine q_aload rfl ?_
        obtain ⟨d_13, h⟩ := ite_some h
        obtain ⟨⟨x1_13, I1_13, L1_13⟩, e_13, h⟩ := Option.bind_eq_some_iff.mp h
        dsimp only at h
        refine q_fv1I (a_261 X hS (d := d - 1) (by omega) e_13) (by omega) (Nat.le_refl _) (Nat.le_refl _) rfl (Nat.le_of_ble_eq_true rfl) ⟨(zl hS 105 (by decide)), congrArg Prod.fst (sk hS 105 (by decide) rfl), by decide⟩ ?_
        refine q_if_eq (fun c_16 => ?_) (fun c_16 => ?_)
        · rw [if_pos c_16] at h
          refine K_of b_275_41 h_275_41 ?_
          refine q_iconst (-100000) (by decide) ?_
          cases h
          exact q_iret rfl (Nat.le_refl _) (Nat.le_refl _) ⟨rfl, rfl⟩
        · rw [if_neg c_16] at h
          refine q_aload rfl ?_
          refine q_getRs (c0 := 12) (j := 3) rfl rfl (zl hS 105 (by decide)) (sk hS 105 (by decide) rfl) rfl (by decide) (r_105_3 hS) ?_
          refine q_iconst (0) (by decide) ?_
          refine q_iload rfl ?_
          obtain ⟨d_25, h⟩ := ite_some h
          obtain ⟨⟨x2_25, I2_25, L2_25⟩, e_25, h⟩ := Option.bind_eq_some_iff.mp h
          dsimp only at h
          refine q_fs1I (a_197 X hS (d := d - 1) (by omega) e_25) (by omega) (Nat.le_refl _) (Nat.le_refl _) rfl (Nat.le_of_ble_eq_true rfl) ?_
          refine q_if_eq (fun c_28 => ?_) (fun c_28 => ?_)
          · rw [if_pos c_28] at h
            refine K_of b_275_35 h_275_35 ?_
            refine q_iconst (0) (by decide) ?_
            refine q_end ?_
            refine K_of b_275_36 h_275_36 ?_
            refine q_iadd ?_
            obtain ⟨⟨u_37, v_37⟩, h⟩ := ite_some h
            refine q_ialN (Int32.toNatClampNeg ((0 : Int32) + (0 : Int32))) (nx u_37) (zl hS 107 (by decide)) (sk hS 107 (by decide) rfl) v_37 (by decide) ?_
            refine q_if_ne (fun c_38 => ?_) (fun c_38 => ?_)
            · rw [if_neg c_38] at h
              refine K_of b_275_45 h_275_45 ?_
              refine q_aload rfl ?_
              refine q_getI (c0 := 12) (j := 53) rfl rfl (zl hS 105 (by decide)) (sk hS 105 (by decide) rfl) (Or.inl rfl) (by decide) ?_
              refine q_aload rfl ?_
              refine q_iload rfl ?_
              refine q_iconst (-1) (by decide) ?_
              obtain ⟨d_52, h⟩ := ite_some h
              obtain ⟨⟨x3_52, I3_52, L3_52⟩, e_52, h⟩ := Option.bind_eq_some_iff.mp h
              dsimp only at h
              refine q_fv3I (a_274 X hS (d := d - 1) (by omega) e_52) (by omega) (Nat.le_refl _) (Nat.le_refl _) rfl (Nat.le_of_ble_eq_true rfl) ⟨(zl hS 105 (by decide)), congrArg Prod.fst (sk hS 105 (by decide) rfl), by decide⟩ ?_
              refine q_isub ?_
              cases h
              exact q_iret rfl (Nat.le_refl _) (Nat.le_refl _) ⟨rfl, rfl⟩
            · rw [if_pos c_38] at h
              refine q_end ?_
              refine K_of b_275_41 h_275_41 ?_
              refine q_iconst (-100000) (by decide) ?_
              cases h
              exact q_iret rfl (Nat.le_refl _) (Nat.le_refl _) ⟨rfl, rfl⟩
          · rw [if_neg c_28] at h
            refine q_iload rfl ?_
            refine q_goto ?_
            refine K_of b_275_36 h_275_36 ?_
            refine q_iadd ?_
            obtain ⟨⟨u_37, v_37⟩, h⟩ := ite_some h
            refine q_ialN (Int32.toNatClampNeg ((0 : Int32) + i1)) (nx u_37) (zl hS 107 (by decide)) (sk hS 107 (by decide) rfl) v_37 (by decide) ?_
            refine q_if_ne (fun c_38 => ?_) (fun c_38 => ?_)
            · rw [if_neg c_38] at h
              refine K_of b_275_45 h_275_45 ?_
              refine q_aload rfl ?_
              refine q_getI (c0 := 12) (j := 53) rfl rfl (zl hS 105 (by decide)) (sk hS 105 (by decide) rfl) (Or.inl rfl) (by decide) ?_
              refine q_aload rfl ?_
              refine q_iload rfl ?_
              refine q_iconst (-1) (by decide) ?_
              obtain ⟨d_52, h⟩ := ite_some h
              obtain ⟨⟨x3_52, I3_52, L3_52⟩, e_52, h⟩ := Option.bind_eq_some_iff.mp h
              dsimp only at h
              refine q_fv3I (a_274 X hS (d := d - 1) (by omega) e_52) (by omega) (Nat.le_refl _) (Nat.le_refl _) rfl (Nat.le_of_ble_eq_true rfl) ⟨(zl hS 105 (by decide)), congrArg Prod.fst (sk hS 105 (by decide) rfl), by decide⟩ ?_
              refine q_isub ?_
              cases h
              exact q_iret rfl (Nat.le_refl _) (Nat.le_refl _) ⟨rfl, rfl⟩
            · rw [if_pos c_38] at h
              refine q_end ?_
              refine K_of b_275_41 h_275_41 ?_
              refine q_iconst (-100000) (by decide) ?_
              cases h
              exact q_iret rfl (Nat.le_refl _) (Nat.le_refl _) ⟨rfl, rfl⟩
theorem a_275 (X : GX) {z : Nat} {kd : Nat → Nat × Nat} {Rf : Nat → Nat → Option Nat} (hS : Sh z kd Rf) {n dp d : Nat} (hd : dp ≤ d) {I : (Nat → Nat → Int32)} {L : (Nat → Nat → Int64)} {i1 : Int32} {I1 : (Nat → Nat → Int32)} {L1 : (Nat → Nat → Int64)} {r : Int32} (h : g_275 n dp (z, kd, Rf) 0 I L i1 = some (r, I1, L1)) : Ct X d 275 0 0 [.ref 105, .int i1] (z, kd, I, L, Rf) (AI (fun x τ => x = r ∧ τ = (z, kd, I1, L1, Rf))) :=
  Ct_of mu_275 (Nat.le_of_ble_eq_true rfl) ((w_275 X hS n dp d hd I L i1 _ _ _) h)

/-! 276 CutFloorModel.worth(I)I -/
set_option maxHeartbeats 4000000 in
set_option maxRecDepth 100000 in
def g_276 : Nat → Nat → EN → Nat → (Nat → Nat → Int32) → (Nat → Nat → Int64) → Int32 → Int32 →  Option (Int32 × (Nat → Nat → Int32) × (Nat → Nat → Int64))
  | 0, _, _, _, _, _, _, _ => none
  | n + 1, dp, e, lab, I, L, i1, i2 =>
    if lab = 0 then (stI (u2 I 105 0 (0 : Int32)) (fun I_2 => (if 1 ≤ dp then (g_202 n (dp - 1) e 0 I_2 L i1).bind (fun ⟨x0_6, I0_6, L0_6⟩ => (if x0_6 = 0 then (some ((-1 : Int32), I0_6, L0_6)) else (if 1 ≤ dp then (g_261 n (dp - 1) e 0 I0_6 L0_6 0 0 0 0).bind (fun ⟨x1_13, I1_13, L1_13⟩ => (if x1_13 = 0 then (some ((-1 : Int32), I1_13, L1_13)) else (if 0 ≤ ((60 : Int32) + i1) ∧ (Int32.toNatClampNeg ((60 : Int32) + i1)) < 1570 then (stI (I1_13 107 (Int32.toNatClampNeg ((60 : Int32) + i1))) (fun v_30 => (if v_30 = (8 : Int32) then (some ((-1 : Int32), I1_13, L1_13)) else (if v_30 = 0 then (if 1 ≤ dp then (g_204 n (dp - 1) e 0 I1_13 L1_13 0 0).bind (fun ⟨x2_42, I2_42, L2_42⟩ => (if x2_42 = (5 : Int32) then (some ((-1 : Int32), I2_42, L2_42)) else (g_276 n dp e 1 I2_42 L2_42 i1 v_30))) else none) else (g_276 n dp e 1 I1_13 L1_13 i1 v_30))))) else none))) else none))) else none)))
    else if lab = 1 then (if 1 ≤ dp then (g_262 n (dp - 1) e 0 I L (I 107 0) (I 107 1) (I 107 2) 0 0 0).bind (fun ⟨x0_70, I0_70, L0_70⟩ => (if 0 ≤ i1 ∧ (Int32.toNatClampNeg i1) < 10 then (stI (u2 I0_70 127 (Int32.toNatClampNeg i1) (i2 + (1 : Int32))) (fun I_82 => (if x0_70 = 0 then (some ((-1 : Int32), I_82, L0_70)) else (if 1 ≤ dp then (g_263 n (dp - 1) e 0 I_82 L0_70 0 0 0).bind (fun ⟨x1_88, I1_88, L1_88⟩ => (some ((x1_88 - (I1_88 105 53)), I1_88, L1_88))) else none)))) else none)) else none)
    else none
set_option maxRecDepth 100000 in
theorem e_276_0 (n dp : Nat) (e : EN) (I : (Nat → Nat → Int32)) (L : (Nat → Nat → Int64)) (i1 : Int32) (i2 : Int32) : g_276 (n + 1) dp e 0 I L i1 i2 = (stI (u2 I 105 0 (0 : Int32)) (fun I_2 => (if 1 ≤ dp then (g_202 n (dp - 1) e 0 I_2 L i1).bind (fun ⟨x0_6, I0_6, L0_6⟩ => (if x0_6 = 0 then (some ((-1 : Int32), I0_6, L0_6)) else (if 1 ≤ dp then (g_261 n (dp - 1) e 0 I0_6 L0_6 0 0 0 0).bind (fun ⟨x1_13, I1_13, L1_13⟩ => (if x1_13 = 0 then (some ((-1 : Int32), I1_13, L1_13)) else (if 0 ≤ ((60 : Int32) + i1) ∧ (Int32.toNatClampNeg ((60 : Int32) + i1)) < 1570 then (stI (I1_13 107 (Int32.toNatClampNeg ((60 : Int32) + i1))) (fun v_30 => (if v_30 = (8 : Int32) then (some ((-1 : Int32), I1_13, L1_13)) else (if v_30 = 0 then (if 1 ≤ dp then (g_204 n (dp - 1) e 0 I1_13 L1_13 0 0).bind (fun ⟨x2_42, I2_42, L2_42⟩ => (if x2_42 = (5 : Int32) then (some ((-1 : Int32), I2_42, L2_42)) else (g_276 n dp e 1 I2_42 L2_42 i1 v_30))) else none) else (g_276 n dp e 1 I1_13 L1_13 i1 v_30))))) else none))) else none))) else none))) := by rw [g_276.eq_2, if_pos (show (0 : Nat) = 0 from rfl)]
set_option maxRecDepth 100000 in
theorem e_276_1 (n dp : Nat) (e : EN) (I : (Nat → Nat → Int32)) (L : (Nat → Nat → Int64)) (i1 : Int32) (i2 : Int32) : g_276 (n + 1) dp e 1 I L i1 i2 = (if 1 ≤ dp then (g_262 n (dp - 1) e 0 I L (I 107 0) (I 107 1) (I 107 2) 0 0 0).bind (fun ⟨x0_70, I0_70, L0_70⟩ => (if 0 ≤ i1 ∧ (Int32.toNatClampNeg i1) < 10 then (stI (u2 I0_70 127 (Int32.toNatClampNeg i1) (i2 + (1 : Int32))) (fun I_82 => (if x0_70 = 0 then (some ((-1 : Int32), I_82, L0_70)) else (if 1 ≤ dp then (g_263 n (dp - 1) e 0 I_82 L0_70 0 0 0).bind (fun ⟨x1_88, I1_88, L1_88⟩ => (some ((x1_88 - (I1_88 105 53)), I1_88, L1_88))) else none)))) else none)) else none) := by rw [g_276.eq_2, if_neg (show ¬ ((1 : Nat) = 0) by decide), if_pos (show (1 : Nat) = 1 from rfl)]
set_option maxHeartbeats 8000000 in
set_option maxRecDepth 100000 in
theorem w_276 (X : GX) {z : Nat} {kd : Nat → Nat × Nat} {Rf : Nat → Nat → Option Nat} (hS : Sh z kd Rf) : ∀ (n dp d : Nat), dp ≤ d → ∀ (I : (Nat → Nat → Int32)) (L : (Nat → Nat → Int64)) (i1 : Int32) (i2 : Int32) (r : Int32) (I1 : (Nat → Nat → Int32)) (L1 : (Nat → Nat → Int64)), (g_276 n dp (z, kd, Rf) 0 I L i1 i2 = some (r, I1, L1) → K X d 276 0 0 (AI (fun x τ => x = r ∧ τ = (z, kd, I1, L1, Rf))) 0 [some (.ref 105), some (.int i1), none, none] [] (z, kd, I, L, Rf) 0 0) ∧
    (g_276 n dp (z, kd, Rf) 1 I L i1 i2 = some (r, I1, L1) → K X d 276 0 0 (AI (fun x τ => x = r ∧ τ = (z, kd, I1, L1, Rf))) 51 [some (.ref 105), some (.int i1), some (.int i2), none] [] (z, kd, I, L, Rf) 0 0) := by
  intro n
  induction n with
  | zero => intro dp d hdp I L i1 i2 r I1 L1; exact ⟨(fun h => by cases h), (fun h => by cases h)⟩
  | succ n ih =>
    intro dp d hdp I L i1 i2 r I1 L1
    refine ⟨?_, ?_⟩
    · intro h
      rw [e_276_0] at h
      refine K_of b_276_0 h_276_0 ?_
      refine q_aload rfl ?_
      refine q_iconst (0) (by decide) ?_
      refine q_putI (c0 := 12) (j := 0) rfl rfl (zl hS 105 (by decide)) (sk hS 105 (by decide) rfl) rfl ?_
      obtain ⟨I_2, nI_2, h⟩ := stI_some h
      refine q_nI nI_2 ?_
      refine q_iload rfl ?_
      obtain ⟨d_6, h⟩ := ite_some h
      obtain ⟨⟨x0_6, I0_6, L0_6⟩, e_6, h⟩ := Option.bind_eq_some_iff.mp h
      dsimp only at h
      refine q_fs1I (a_202 X hS (d := d - 1) (by omega) e_6) (by omega) (Nat.le_refl _) (Nat.le_refl _) rfl (Nat.le_of_ble_eq_true rfl) ?_
      refine q_if_eq (fun c_9 => ?_) (fun c_9 => ?_)
      · rw [if_pos c_9] at h
        refine K_of b_276_19 h_276_19 ?_
        refine q_iconst (-1) (by decide) ?_
        cases h
        exact q_iret rfl (Nat.le_refl _) (Nat.le_refl _) ⟨rfl, rfl⟩
      · rw [if_neg c_9] at h
        refine q_aload rfl ?_
        obtain ⟨d_13, h⟩ := ite_some h
        obtain ⟨⟨x1_13, I1_13, L1_13⟩, e_13, h⟩ := Option.bind_eq_some_iff.mp h
        dsimp only at h
        refine q_fv1I (a_261 X hS (d := d - 1) (by omega) e_13) (by omega) (Nat.le_refl _) (Nat.le_refl _) rfl (Nat.le_of_ble_eq_true rfl) ⟨(zl hS 105 (by decide)), congrArg Prod.fst (sk hS 105 (by decide) rfl), by decide⟩ ?_
        refine q_if_ne (fun c_16 => ?_) (fun c_16 => ?_)
        · rw [if_neg c_16] at h
          refine K_of b_276_21 h_276_21 ?_
          refine q_aload rfl ?_
          refine q_getRs (c0 := 12) (j := 3) rfl rfl (zl hS 105 (by decide)) (sk hS 105 (by decide) rfl) rfl (by decide) (r_105_3 hS) ?_
          refine q_iconst (60) (by decide) ?_
          refine q_iload rfl ?_
          refine q_iadd ?_
          obtain ⟨⟨u_29, v_29⟩, h⟩ := ite_some h
          refine q_ialN (Int32.toNatClampNeg ((60 : Int32) + i1)) (nx u_29) (zl hS 107 (by decide)) (sk hS 107 (by decide) rfl) v_29 (by decide) ?_
          obtain ⟨v_30, nv_30, h⟩ := stI_some h
          refine q_eqi nv_30.symm ?_
          refine q_istore (ls1 := [some (.ref 105), some (.int i1), some (.int v_30), none]) (Nat.le_of_ble_eq_true rfl) rfl ?_
          refine q_iload rfl ?_
          refine q_iconst (8) (by decide) ?_
          refine q_icmp_eq (fun c_34 => ?_) (fun c_34 => ?_)
          · rw [if_pos c_34] at h
            refine K_of b_276_49 h_276_49 ?_
            refine q_iconst (-1) (by decide) ?_
            cases h
            exact q_iret rfl (Nat.le_refl _) (Nat.le_refl _) ⟨rfl, rfl⟩
          · rw [if_neg c_34] at h
            refine q_iload rfl ?_
            refine q_if_ne (fun c_38 => ?_) (fun c_38 => ?_)
            · rw [if_neg c_38] at h
              exact (ih dp d hdp _ _ i1 v_30 _ _ _).2 h
            · rw [if_pos c_38] at h
              refine q_aload rfl ?_
              obtain ⟨d_42, h⟩ := ite_some h
              obtain ⟨⟨x2_42, I2_42, L2_42⟩, e_42, h⟩ := Option.bind_eq_some_iff.mp h
              dsimp only at h
              refine q_fv1I (a_204 X hS (d := d - 1) (by omega) e_42) (by omega) (Nat.le_refl _) (Nat.le_refl _) rfl (Nat.le_of_ble_eq_true rfl) ⟨(zl hS 105 (by decide)), congrArg Prod.fst (sk hS 105 (by decide) rfl), by decide⟩ ?_
              refine q_iconst (5) (by decide) ?_
              refine q_icmp_ne (fun c_46 => ?_) (fun c_46 => ?_)
              · rw [if_neg c_46] at h
                exact (ih dp d hdp _ _ i1 v_30 _ _ _).2 h
              · rw [if_pos c_46] at h
                refine q_end ?_
                refine K_of b_276_49 h_276_49 ?_
                refine q_iconst (-1) (by decide) ?_
                cases h
                exact q_iret rfl (Nat.le_refl _) (Nat.le_refl _) ⟨rfl, rfl⟩
        · rw [if_pos c_16] at h
          refine q_end ?_
          refine K_of b_276_19 h_276_19 ?_
          refine q_iconst (-1) (by decide) ?_
          cases h
          exact q_iret rfl (Nat.le_refl _) (Nat.le_refl _) ⟨rfl, rfl⟩
    · intro h
      rw [e_276_1] at h
      refine K_of b_276_51 h_276_51 ?_
      refine q_aload rfl ?_
      refine q_aload rfl ?_
      refine q_getRs (c0 := 12) (j := 3) rfl rfl (zl hS 105 (by decide)) (sk hS 105 (by decide) rfl) rfl (by decide) (r_105_3 hS) ?_
      refine q_iconst (0) (by decide) ?_
      refine q_ialN (0) rfl (zl hS 107 (by decide)) (sk hS 107 (by decide) rfl) (by decide) (by decide) ?_
      refine q_aload rfl ?_
      refine q_getRs (c0 := 12) (j := 3) rfl rfl (zl hS 105 (by decide)) (sk hS 105 (by decide) rfl) rfl (by decide) (r_105_3 hS) ?_
      refine q_iconst (1) (by decide) ?_
      refine q_ialN (1) rfl (zl hS 107 (by decide)) (sk hS 107 (by decide) rfl) (by decide) (by decide) ?_
      refine q_aload rfl ?_
      refine q_getRs (c0 := 12) (j := 3) rfl rfl (zl hS 105 (by decide)) (sk hS 105 (by decide) rfl) rfl (by decide) (r_105_3 hS) ?_
      refine q_iconst (2) (by decide) ?_
      refine q_ialN (2) rfl (zl hS 107 (by decide)) (sk hS 107 (by decide) rfl) (by decide) (by decide) ?_
      obtain ⟨d_70, h⟩ := ite_some h
      obtain ⟨⟨x0_70, I0_70, L0_70⟩, e_70, h⟩ := Option.bind_eq_some_iff.mp h
      dsimp only at h
      refine q_fv4I (a_262 X hS (d := d - 1) (by omega) e_70) (by omega) (Nat.le_refl _) (Nat.le_refl _) rfl (Nat.le_of_ble_eq_true rfl) ⟨(zl hS 105 (by decide)), congrArg Prod.fst (sk hS 105 (by decide) rfl), by decide⟩ ?_
      refine q_istore (ls1 := [some (.ref 105), some (.int i1), some (.int i2), some (.int x0_70)]) (Nat.le_of_ble_eq_true rfl) rfl ?_
      refine q_aload rfl ?_
      refine q_getRs (c0 := 12) (j := 41) rfl rfl (zl hS 105 (by decide)) (sk hS 105 (by decide) rfl) rfl (by decide) (r_105_41 hS) ?_
      refine q_iload rfl ?_
      refine q_iload rfl ?_
      refine q_iconst (1) (by decide) ?_
      refine q_iadd ?_
      obtain ⟨⟨u_82, v_82⟩, h⟩ := ite_some h
      refine q_iasN (Int32.toNatClampNeg i1) (nx u_82) (zl hS 127 (by decide)) (sk hS 127 (by decide) rfl) v_82 (by decide) ?_
      obtain ⟨I_82, nI_82, h⟩ := stI_some h
      refine q_nI nI_82 ?_
      refine q_iload rfl ?_
      refine q_if_eq (fun c_84 => ?_) (fun c_84 => ?_)
      · rw [if_pos c_84] at h
        refine K_of b_276_99 h_276_99 ?_
        refine q_iconst (-1) (by decide) ?_
        refine q_end ?_
        refine K_of b_276_100 h_276_100 ?_
        cases h
        exact q_iret rfl (Nat.le_refl _) (Nat.le_refl _) ⟨rfl, rfl⟩
      · rw [if_neg c_84] at h
        refine q_aload rfl ?_
        obtain ⟨d_88, h⟩ := ite_some h
        obtain ⟨⟨x1_88, I1_88, L1_88⟩, e_88, h⟩ := Option.bind_eq_some_iff.mp h
        dsimp only at h
        refine q_fv1I (a_263 X hS (d := d - 1) (by omega) e_88) (by omega) (Nat.le_refl _) (Nat.le_refl _) rfl (Nat.le_of_ble_eq_true rfl) ⟨(zl hS 105 (by decide)), congrArg Prod.fst (sk hS 105 (by decide) rfl), by decide⟩ ?_
        refine q_aload rfl ?_
        refine q_getI (c0 := 12) (j := 53) rfl rfl (zl hS 105 (by decide)) (sk hS 105 (by decide) rfl) (Or.inl rfl) (by decide) ?_
        refine q_isub ?_
        refine q_goto ?_
        refine K_of b_276_100 h_276_100 ?_
        cases h
        exact q_iret rfl (Nat.le_refl _) (Nat.le_refl _) ⟨rfl, rfl⟩
theorem a_276 (X : GX) {z : Nat} {kd : Nat → Nat × Nat} {Rf : Nat → Nat → Option Nat} (hS : Sh z kd Rf) {n dp d : Nat} (hd : dp ≤ d) {I : (Nat → Nat → Int32)} {L : (Nat → Nat → Int64)} {i1 : Int32} {I1 : (Nat → Nat → Int32)} {L1 : (Nat → Nat → Int64)} {r : Int32} (h : g_276 n dp (z, kd, Rf) 0 I L i1 0 = some (r, I1, L1)) : Ct X d 276 0 0 [.ref 105, .int i1] (z, kd, I, L, Rf) (AI (fun x τ => x = r ∧ τ = (z, kd, I1, L1, Rf))) :=
  Ct_of mu_276 (Nat.le_of_ble_eq_true rfl) ((w_276 X hS n dp d hd I L i1 0 _ _ _).1 h)

/-! 277 CutFloorModel.change(II)I -/
set_option maxHeartbeats 4000000 in
set_option maxRecDepth 100000 in
def g_277 : Nat → Nat → EN → Nat → (Nat → Nat → Int32) → (Nat → Nat → Int64) → Int32 → Int32 → Int32 → Int32 → Int32 →  Option (Int32 × (Nat → Nat → Int32) × (Nat → Nat → Int64))
  | 0, _, _, _, _, _, _, _, _, _, _ => none
  | n + 1, dp, e, lab, I, L, i1, i2, i3, i4, i5 =>
    if lab = 0 then (stI (u2 I 105 0 (0 : Int32)) (fun I_2 => (if 1 ≤ dp then (g_197 n (dp - 1) e 0 I_2 L i1).bind (fun ⟨x0_6, I0_6, L0_6⟩ => (if x0_6 = 0 then (some ((-1 : Int32), I0_6, L0_6)) else (if 1 ≤ dp then (g_193 n (dp - 1) e 0 I0_6 L0_6 (Int32.toInt64 i2) (0 : Int64) (1 : Int64)).bind (fun ⟨x1_16, I1_16, L1_16⟩ => (if x1_16 = 0 then (some ((-1 : Int32), I1_16, L1_16)) else (if 1 ≤ dp then (g_261 n (dp - 1) e 0 I1_16 L1_16 0 0 0 0).bind (fun ⟨x2_23, I2_23, L2_23⟩ => (if x2_23 = 0 then (some ((-1 : Int32), I2_23, L2_23)) else (if 1 ≤ dp then (g_197 n (dp - 1) e 0 I2_23 L2_23 i1).bind (fun ⟨x3_35, I3_35, L3_35⟩ => (if x3_35 = 0 then (if 0 ≤ ((0 : Int32) + (0 : Int32)) ∧ (Int32.toNatClampNeg ((0 : Int32) + (0 : Int32))) < 1570 then (if (I3_35 107 (Int32.toNatClampNeg ((0 : Int32) + (0 : Int32)))) = 0 then (some ((-1 : Int32), I3_35, L3_35)) else (if i1 ≤ 0 then (if i1 ≤ (1 : Int32) then (stI ((((I3_35 107 0) + (0 : Int32)) + (0 : Int32)) - (1 : Int32)) (fun v_92 => (g_277 n dp e 1 I3_35 L3_35 i1 i2 v_92 (0 : Int32) (0 : Int32)))) else (stI ((((I3_35 107 0) + (0 : Int32)) + (I3_35 107 2)) - (1 : Int32)) (fun v_92 => (g_277 n dp e 1 I3_35 L3_35 i1 i2 v_92 (0 : Int32) (0 : Int32))))) else (if i1 ≤ (1 : Int32) then (stI ((((I3_35 107 0) + (I3_35 107 1)) + (0 : Int32)) - (1 : Int32)) (fun v_92 => (g_277 n dp e 1 I3_35 L3_35 i1 i2 v_92 (0 : Int32) (0 : Int32)))) else (stI ((((I3_35 107 0) + (I3_35 107 1)) + (I3_35 107 2)) - (1 : Int32)) (fun v_92 => (g_277 n dp e 1 I3_35 L3_35 i1 i2 v_92 (0 : Int32) (0 : Int32))))))) else none) else (if 0 ≤ ((0 : Int32) + i1) ∧ (Int32.toNatClampNeg ((0 : Int32) + i1)) < 1570 then (if (I3_35 107 (Int32.toNatClampNeg ((0 : Int32) + i1))) = 0 then (some ((-1 : Int32), I3_35, L3_35)) else (if i1 ≤ 0 then (if i1 ≤ (1 : Int32) then (stI ((((I3_35 107 0) + (0 : Int32)) + (0 : Int32)) - (1 : Int32)) (fun v_92 => (g_277 n dp e 1 I3_35 L3_35 i1 i2 v_92 (0 : Int32) (0 : Int32)))) else (stI ((((I3_35 107 0) + (0 : Int32)) + (I3_35 107 2)) - (1 : Int32)) (fun v_92 => (g_277 n dp e 1 I3_35 L3_35 i1 i2 v_92 (0 : Int32) (0 : Int32))))) else (if i1 ≤ (1 : Int32) then (stI ((((I3_35 107 0) + (I3_35 107 1)) + (0 : Int32)) - (1 : Int32)) (fun v_92 => (g_277 n dp e 1 I3_35 L3_35 i1 i2 v_92 (0 : Int32) (0 : Int32)))) else (stI ((((I3_35 107 0) + (I3_35 107 1)) + (I3_35 107 2)) - (1 : Int32)) (fun v_92 => (g_277 n dp e 1 I3_35 L3_35 i1 i2 v_92 (0 : Int32) (0 : Int32))))))) else none))) else none))) else none))) else none))) else none)))
    else if lab = 1 then (if 1 ≤ dp then (g_198 n (dp - 1) e 0 I L).bind (fun ⟨x0_102, I0_102, L0_102⟩ => (if x0_102 ≤ i5 then (if i1 = 0 then (if i1 = (1 : Int32) then (if i1 = (2 : Int32) then (if 1 ≤ dp then (g_262 n (dp - 1) e 0 I0_102 L0_102 ((I0_102 107 0) - (1 : Int32)) ((I0_102 107 1) - (1 : Int32)) ((I0_102 107 2) - (1 : Int32)) 0 0 0).bind (fun ⟨x1_188, I1_188, L1_188⟩ => (if x1_188 = 0 then (some ((-1 : Int32), I1_188, L1_188)) else (stI (u2 I1_188 105 48 (16 : Int32)) (fun I_199 => (if 1 ≤ dp then (g_263 n (dp - 1) e 0 I_199 L1_188 0 0 0).bind (fun ⟨x2_203, I2_203, L2_203⟩ => (stI ((x2_203 + (15 : Int32)) / (16 : Int32)) (fun v_216 => (if i2 = 0 then (some ((((16 : Int32) * v_216) - x2_203), I2_203, L2_203)) else (some (v_216, I2_203, L2_203)))))) else none))))) else none) else (if 1 ≤ dp then (g_262 n (dp - 1) e 0 I0_102 L0_102 ((I0_102 107 0) - (1 : Int32)) ((I0_102 107 1) - (1 : Int32)) ((I0_102 107 2) - (0 : Int32)) 0 0 0).bind (fun ⟨x1_188, I1_188, L1_188⟩ => (if x1_188 = 0 then (some ((-1 : Int32), I1_188, L1_188)) else (stI (u2 I1_188 105 48 (16 : Int32)) (fun I_199 => (if 1 ≤ dp then (g_263 n (dp - 1) e 0 I_199 L1_188 0 0 0).bind (fun ⟨x2_203, I2_203, L2_203⟩ => (stI ((x2_203 + (15 : Int32)) / (16 : Int32)) (fun v_216 => (if i2 = 0 then (some ((((16 : Int32) * v_216) - x2_203), I2_203, L2_203)) else (some (v_216, I2_203, L2_203)))))) else none))))) else none)) else (if i1 = (2 : Int32) then (if 1 ≤ dp then (g_262 n (dp - 1) e 0 I0_102 L0_102 ((I0_102 107 0) - (1 : Int32)) ((I0_102 107 1) - (0 : Int32)) ((I0_102 107 2) - (1 : Int32)) 0 0 0).bind (fun ⟨x1_188, I1_188, L1_188⟩ => (if x1_188 = 0 then (some ((-1 : Int32), I1_188, L1_188)) else (stI (u2 I1_188 105 48 (16 : Int32)) (fun I_199 => (if 1 ≤ dp then (g_263 n (dp - 1) e 0 I_199 L1_188 0 0 0).bind (fun ⟨x2_203, I2_203, L2_203⟩ => (stI ((x2_203 + (15 : Int32)) / (16 : Int32)) (fun v_216 => (if i2 = 0 then (some ((((16 : Int32) * v_216) - x2_203), I2_203, L2_203)) else (some (v_216, I2_203, L2_203)))))) else none))))) else none) else (if 1 ≤ dp then (g_262 n (dp - 1) e 0 I0_102 L0_102 ((I0_102 107 0) - (1 : Int32)) ((I0_102 107 1) - (0 : Int32)) ((I0_102 107 2) - (0 : Int32)) 0 0 0).bind (fun ⟨x1_188, I1_188, L1_188⟩ => (if x1_188 = 0 then (some ((-1 : Int32), I1_188, L1_188)) else (stI (u2 I1_188 105 48 (16 : Int32)) (fun I_199 => (if 1 ≤ dp then (g_263 n (dp - 1) e 0 I_199 L1_188 0 0 0).bind (fun ⟨x2_203, I2_203, L2_203⟩ => (stI ((x2_203 + (15 : Int32)) / (16 : Int32)) (fun v_216 => (if i2 = 0 then (some ((((16 : Int32) * v_216) - x2_203), I2_203, L2_203)) else (some (v_216, I2_203, L2_203)))))) else none))))) else none))) else (if i1 = (1 : Int32) then (if i1 = (2 : Int32) then (if 1 ≤ dp then (g_262 n (dp - 1) e 0 I0_102 L0_102 ((I0_102 107 0) - (0 : Int32)) ((I0_102 107 1) - (1 : Int32)) ((I0_102 107 2) - (1 : Int32)) 0 0 0).bind (fun ⟨x1_188, I1_188, L1_188⟩ => (if x1_188 = 0 then (some ((-1 : Int32), I1_188, L1_188)) else (stI (u2 I1_188 105 48 (16 : Int32)) (fun I_199 => (if 1 ≤ dp then (g_263 n (dp - 1) e 0 I_199 L1_188 0 0 0).bind (fun ⟨x2_203, I2_203, L2_203⟩ => (stI ((x2_203 + (15 : Int32)) / (16 : Int32)) (fun v_216 => (if i2 = 0 then (some ((((16 : Int32) * v_216) - x2_203), I2_203, L2_203)) else (some (v_216, I2_203, L2_203)))))) else none))))) else none) else (if 1 ≤ dp then (g_262 n (dp - 1) e 0 I0_102 L0_102 ((I0_102 107 0) - (0 : Int32)) ((I0_102 107 1) - (1 : Int32)) ((I0_102 107 2) - (0 : Int32)) 0 0 0).bind (fun ⟨x1_188, I1_188, L1_188⟩ => (if x1_188 = 0 then (some ((-1 : Int32), I1_188, L1_188)) else (stI (u2 I1_188 105 48 (16 : Int32)) (fun I_199 => (if 1 ≤ dp then (g_263 n (dp - 1) e 0 I_199 L1_188 0 0 0).bind (fun ⟨x2_203, I2_203, L2_203⟩ => (stI ((x2_203 + (15 : Int32)) / (16 : Int32)) (fun v_216 => (if i2 = 0 then (some ((((16 : Int32) * v_216) - x2_203), I2_203, L2_203)) else (some (v_216, I2_203, L2_203)))))) else none))))) else none)) else (if i1 = (2 : Int32) then (if 1 ≤ dp then (g_262 n (dp - 1) e 0 I0_102 L0_102 ((I0_102 107 0) - (0 : Int32)) ((I0_102 107 1) - (0 : Int32)) ((I0_102 107 2) - (1 : Int32)) 0 0 0).bind (fun ⟨x1_188, I1_188, L1_188⟩ => (if x1_188 = 0 then (some ((-1 : Int32), I1_188, L1_188)) else (stI (u2 I1_188 105 48 (16 : Int32)) (fun I_199 => (if 1 ≤ dp then (g_263 n (dp - 1) e 0 I_199 L1_188 0 0 0).bind (fun ⟨x2_203, I2_203, L2_203⟩ => (stI ((x2_203 + (15 : Int32)) / (16 : Int32)) (fun v_216 => (if i2 = 0 then (some ((((16 : Int32) * v_216) - x2_203), I2_203, L2_203)) else (some (v_216, I2_203, L2_203)))))) else none))))) else none) else (if 1 ≤ dp then (g_262 n (dp - 1) e 0 I0_102 L0_102 ((I0_102 107 0) - (0 : Int32)) ((I0_102 107 1) - (0 : Int32)) ((I0_102 107 2) - (0 : Int32)) 0 0 0).bind (fun ⟨x1_188, I1_188, L1_188⟩ => (if x1_188 = 0 then (some ((-1 : Int32), I1_188, L1_188)) else (stI (u2 I1_188 105 48 (16 : Int32)) (fun I_199 => (if 1 ≤ dp then (g_263 n (dp - 1) e 0 I_199 L1_188 0 0 0).bind (fun ⟨x2_203, I2_203, L2_203⟩ => (stI ((x2_203 + (15 : Int32)) / (16 : Int32)) (fun v_216 => (if i2 = 0 then (some ((((16 : Int32) * v_216) - x2_203), I2_203, L2_203)) else (some (v_216, I2_203, L2_203)))))) else none))))) else none)))) else (if i5 = i3 then (g_277 n dp e 2 I0_102 L0_102 i1 i2 i3 i4 i5) else (if 0 ≤ i5 ∧ (Int32.toNatClampNeg i5) < 8 then (if 0 ≤ i4 ∧ (Int32.toNatClampNeg i4) < 8 then (stI (u2 I0_102 132 (Int32.toNatClampNeg i4) (I0_102 134 (Int32.toNatClampNeg i5))) (fun I_127 => (g_277 n dp e 2 I_127 L0_102 i1 i2 i3 (i4 + Int32.ofInt (1)) i5))) else none) else none)))) else none)
    else if lab = 2 then (g_277 n dp e 1 I L i1 i2 i3 i4 (i5 + Int32.ofInt (1)))
    else none
set_option maxRecDepth 100000 in
theorem e_277_0 (n dp : Nat) (e : EN) (I : (Nat → Nat → Int32)) (L : (Nat → Nat → Int64)) (i1 : Int32) (i2 : Int32) (i3 : Int32) (i4 : Int32) (i5 : Int32) : g_277 (n + 1) dp e 0 I L i1 i2 i3 i4 i5 = (stI (u2 I 105 0 (0 : Int32)) (fun I_2 => (if 1 ≤ dp then (g_197 n (dp - 1) e 0 I_2 L i1).bind (fun ⟨x0_6, I0_6, L0_6⟩ => (if x0_6 = 0 then (some ((-1 : Int32), I0_6, L0_6)) else (if 1 ≤ dp then (g_193 n (dp - 1) e 0 I0_6 L0_6 (Int32.toInt64 i2) (0 : Int64) (1 : Int64)).bind (fun ⟨x1_16, I1_16, L1_16⟩ => (if x1_16 = 0 then (some ((-1 : Int32), I1_16, L1_16)) else (if 1 ≤ dp then (g_261 n (dp - 1) e 0 I1_16 L1_16 0 0 0 0).bind (fun ⟨x2_23, I2_23, L2_23⟩ => (if x2_23 = 0 then (some ((-1 : Int32), I2_23, L2_23)) else (if 1 ≤ dp then (g_197 n (dp - 1) e 0 I2_23 L2_23 i1).bind (fun ⟨x3_35, I3_35, L3_35⟩ => (if x3_35 = 0 then (if 0 ≤ ((0 : Int32) + (0 : Int32)) ∧ (Int32.toNatClampNeg ((0 : Int32) + (0 : Int32))) < 1570 then (if (I3_35 107 (Int32.toNatClampNeg ((0 : Int32) + (0 : Int32)))) = 0 then (some ((-1 : Int32), I3_35, L3_35)) else (if i1 ≤ 0 then (if i1 ≤ (1 : Int32) then (stI ((((I3_35 107 0) + (0 : Int32)) + (0 : Int32)) - (1 : Int32)) (fun v_92 => (g_277 n dp e 1 I3_35 L3_35 i1 i2 v_92 (0 : Int32) (0 : Int32)))) else (stI ((((I3_35 107 0) + (0 : Int32)) + (I3_35 107 2)) - (1 : Int32)) (fun v_92 => (g_277 n dp e 1 I3_35 L3_35 i1 i2 v_92 (0 : Int32) (0 : Int32))))) else (if i1 ≤ (1 : Int32) then (stI ((((I3_35 107 0) + (I3_35 107 1)) + (0 : Int32)) - (1 : Int32)) (fun v_92 => (g_277 n dp e 1 I3_35 L3_35 i1 i2 v_92 (0 : Int32) (0 : Int32)))) else (stI ((((I3_35 107 0) + (I3_35 107 1)) + (I3_35 107 2)) - (1 : Int32)) (fun v_92 => (g_277 n dp e 1 I3_35 L3_35 i1 i2 v_92 (0 : Int32) (0 : Int32))))))) else none) else (if 0 ≤ ((0 : Int32) + i1) ∧ (Int32.toNatClampNeg ((0 : Int32) + i1)) < 1570 then (if (I3_35 107 (Int32.toNatClampNeg ((0 : Int32) + i1))) = 0 then (some ((-1 : Int32), I3_35, L3_35)) else (if i1 ≤ 0 then (if i1 ≤ (1 : Int32) then (stI ((((I3_35 107 0) + (0 : Int32)) + (0 : Int32)) - (1 : Int32)) (fun v_92 => (g_277 n dp e 1 I3_35 L3_35 i1 i2 v_92 (0 : Int32) (0 : Int32)))) else (stI ((((I3_35 107 0) + (0 : Int32)) + (I3_35 107 2)) - (1 : Int32)) (fun v_92 => (g_277 n dp e 1 I3_35 L3_35 i1 i2 v_92 (0 : Int32) (0 : Int32))))) else (if i1 ≤ (1 : Int32) then (stI ((((I3_35 107 0) + (I3_35 107 1)) + (0 : Int32)) - (1 : Int32)) (fun v_92 => (g_277 n dp e 1 I3_35 L3_35 i1 i2 v_92 (0 : Int32) (0 : Int32)))) else (stI ((((I3_35 107 0) + (I3_35 107 1)) + (I3_35 107 2)) - (1 : Int32)) (fun v_92 => (g_277 n dp e 1 I3_35 L3_35 i1 i2 v_92 (0 : Int32) (0 : Int32))))))) else none))) else none))) else none))) else none))) else none))) := by rw [g_277.eq_2, if_pos (show (0 : Nat) = 0 from rfl)]
set_option maxRecDepth 100000 in
theorem e_277_1 (n dp : Nat) (e : EN) (I : (Nat → Nat → Int32)) (L : (Nat → Nat → Int64)) (i1 : Int32) (i2 : Int32) (i3 : Int32) (i4 : Int32) (i5 : Int32) : g_277 (n + 1) dp e 1 I L i1 i2 i3 i4 i5 = (if 1 ≤ dp then (g_198 n (dp - 1) e 0 I L).bind (fun ⟨x0_102, I0_102, L0_102⟩ => (if x0_102 ≤ i5 then (if i1 = 0 then (if i1 = (1 : Int32) then (if i1 = (2 : Int32) then (if 1 ≤ dp then (g_262 n (dp - 1) e 0 I0_102 L0_102 ((I0_102 107 0) - (1 : Int32)) ((I0_102 107 1) - (1 : Int32)) ((I0_102 107 2) - (1 : Int32)) 0 0 0).bind (fun ⟨x1_188, I1_188, L1_188⟩ => (if x1_188 = 0 then (some ((-1 : Int32), I1_188, L1_188)) else (stI (u2 I1_188 105 48 (16 : Int32)) (fun I_199 => (if 1 ≤ dp then (g_263 n (dp - 1) e 0 I_199 L1_188 0 0 0).bind (fun ⟨x2_203, I2_203, L2_203⟩ => (stI ((x2_203 + (15 : Int32)) / (16 : Int32)) (fun v_216 => (if i2 = 0 then (some ((((16 : Int32) * v_216) - x2_203), I2_203, L2_203)) else (some (v_216, I2_203, L2_203)))))) else none))))) else none) else (if 1 ≤ dp then (g_262 n (dp - 1) e 0 I0_102 L0_102 ((I0_102 107 0) - (1 : Int32)) ((I0_102 107 1) - (1 : Int32)) ((I0_102 107 2) - (0 : Int32)) 0 0 0).bind (fun ⟨x1_188, I1_188, L1_188⟩ => (if x1_188 = 0 then (some ((-1 : Int32), I1_188, L1_188)) else (stI (u2 I1_188 105 48 (16 : Int32)) (fun I_199 => (if 1 ≤ dp then (g_263 n (dp - 1) e 0 I_199 L1_188 0 0 0).bind (fun ⟨x2_203, I2_203, L2_203⟩ => (stI ((x2_203 + (15 : Int32)) / (16 : Int32)) (fun v_216 => (if i2 = 0 then (some ((((16 : Int32) * v_216) - x2_203), I2_203, L2_203)) else (some (v_216, I2_203, L2_203)))))) else none))))) else none)) else (if i1 = (2 : Int32) then (if 1 ≤ dp then (g_262 n (dp - 1) e 0 I0_102 L0_102 ((I0_102 107 0) - (1 : Int32)) ((I0_102 107 1) - (0 : Int32)) ((I0_102 107 2) - (1 : Int32)) 0 0 0).bind (fun ⟨x1_188, I1_188, L1_188⟩ => (if x1_188 = 0 then (some ((-1 : Int32), I1_188, L1_188)) else (stI (u2 I1_188 105 48 (16 : Int32)) (fun I_199 => (if 1 ≤ dp then (g_263 n (dp - 1) e 0 I_199 L1_188 0 0 0).bind (fun ⟨x2_203, I2_203, L2_203⟩ => (stI ((x2_203 + (15 : Int32)) / (16 : Int32)) (fun v_216 => (if i2 = 0 then (some ((((16 : Int32) * v_216) - x2_203), I2_203, L2_203)) else (some (v_216, I2_203, L2_203)))))) else none))))) else none) else (if 1 ≤ dp then (g_262 n (dp - 1) e 0 I0_102 L0_102 ((I0_102 107 0) - (1 : Int32)) ((I0_102 107 1) - (0 : Int32)) ((I0_102 107 2) - (0 : Int32)) 0 0 0).bind (fun ⟨x1_188, I1_188, L1_188⟩ => (if x1_188 = 0 then (some ((-1 : Int32), I1_188, L1_188)) else (stI (u2 I1_188 105 48 (16 : Int32)) (fun I_199 => (if 1 ≤ dp then (g_263 n (dp - 1) e 0 I_199 L1_188 0 0 0).bind (fun ⟨x2_203, I2_203, L2_203⟩ => (stI ((x2_203 + (15 : Int32)) / (16 : Int32)) (fun v_216 => (if i2 = 0 then (some ((((16 : Int32) * v_216) - x2_203), I2_203, L2_203)) else (some (v_216, I2_203, L2_203)))))) else none))))) else none))) else (if i1 = (1 : Int32) then (if i1 = (2 : Int32) then (if 1 ≤ dp then (g_262 n (dp - 1) e 0 I0_102 L0_102 ((I0_102 107 0) - (0 : Int32)) ((I0_102 107 1) - (1 : Int32)) ((I0_102 107 2) - (1 : Int32)) 0 0 0).bind (fun ⟨x1_188, I1_188, L1_188⟩ => (if x1_188 = 0 then (some ((-1 : Int32), I1_188, L1_188)) else (stI (u2 I1_188 105 48 (16 : Int32)) (fun I_199 => (if 1 ≤ dp then (g_263 n (dp - 1) e 0 I_199 L1_188 0 0 0).bind (fun ⟨x2_203, I2_203, L2_203⟩ => (stI ((x2_203 + (15 : Int32)) / (16 : Int32)) (fun v_216 => (if i2 = 0 then (some ((((16 : Int32) * v_216) - x2_203), I2_203, L2_203)) else (some (v_216, I2_203, L2_203)))))) else none))))) else none) else (if 1 ≤ dp then (g_262 n (dp - 1) e 0 I0_102 L0_102 ((I0_102 107 0) - (0 : Int32)) ((I0_102 107 1) - (1 : Int32)) ((I0_102 107 2) - (0 : Int32)) 0 0 0).bind (fun ⟨x1_188, I1_188, L1_188⟩ => (if x1_188 = 0 then (some ((-1 : Int32), I1_188, L1_188)) else (stI (u2 I1_188 105 48 (16 : Int32)) (fun I_199 => (if 1 ≤ dp then (g_263 n (dp - 1) e 0 I_199 L1_188 0 0 0).bind (fun ⟨x2_203, I2_203, L2_203⟩ => (stI ((x2_203 + (15 : Int32)) / (16 : Int32)) (fun v_216 => (if i2 = 0 then (some ((((16 : Int32) * v_216) - x2_203), I2_203, L2_203)) else (some (v_216, I2_203, L2_203)))))) else none))))) else none)) else (if i1 = (2 : Int32) then (if 1 ≤ dp then (g_262 n (dp - 1) e 0 I0_102 L0_102 ((I0_102 107 0) - (0 : Int32)) ((I0_102 107 1) - (0 : Int32)) ((I0_102 107 2) - (1 : Int32)) 0 0 0).bind (fun ⟨x1_188, I1_188, L1_188⟩ => (if x1_188 = 0 then (some ((-1 : Int32), I1_188, L1_188)) else (stI (u2 I1_188 105 48 (16 : Int32)) (fun I_199 => (if 1 ≤ dp then (g_263 n (dp - 1) e 0 I_199 L1_188 0 0 0).bind (fun ⟨x2_203, I2_203, L2_203⟩ => (stI ((x2_203 + (15 : Int32)) / (16 : Int32)) (fun v_216 => (if i2 = 0 then (some ((((16 : Int32) * v_216) - x2_203), I2_203, L2_203)) else (some (v_216, I2_203, L2_203)))))) else none))))) else none) else (if 1 ≤ dp then (g_262 n (dp - 1) e 0 I0_102 L0_102 ((I0_102 107 0) - (0 : Int32)) ((I0_102 107 1) - (0 : Int32)) ((I0_102 107 2) - (0 : Int32)) 0 0 0).bind (fun ⟨x1_188, I1_188, L1_188⟩ => (if x1_188 = 0 then (some ((-1 : Int32), I1_188, L1_188)) else (stI (u2 I1_188 105 48 (16 : Int32)) (fun I_199 => (if 1 ≤ dp then (g_263 n (dp - 1) e 0 I_199 L1_188 0 0 0).bind (fun ⟨x2_203, I2_203, L2_203⟩ => (stI ((x2_203 + (15 : Int32)) / (16 : Int32)) (fun v_216 => (if i2 = 0 then (some ((((16 : Int32) * v_216) - x2_203), I2_203, L2_203)) else (some (v_216, I2_203, L2_203)))))) else none))))) else none)))) else (if i5 = i3 then (g_277 n dp e 2 I0_102 L0_102 i1 i2 i3 i4 i5) else (if 0 ≤ i5 ∧ (Int32.toNatClampNeg i5) < 8 then (if 0 ≤ i4 ∧ (Int32.toNatClampNeg i4) < 8 then (stI (u2 I0_102 132 (Int32.toNatClampNeg i4) (I0_102 134 (Int32.toNatClampNeg i5))) (fun I_127 => (g_277 n dp e 2 I_127 L0_102 i1 i2 i3 (i4 + Int32.ofInt (1)) i5))) else none) else none)))) else none) := by rw [g_277.eq_2, if_neg (show ¬ ((1 : Nat) = 0) by decide), if_pos (show (1 : Nat) = 1 from rfl)]
set_option maxRecDepth 100000 in
theorem e_277_2 (n dp : Nat) (e : EN) (I : (Nat → Nat → Int32)) (L : (Nat → Nat → Int64)) (i1 : Int32) (i2 : Int32) (i3 : Int32) (i4 : Int32) (i5 : Int32) : g_277 (n + 1) dp e 2 I L i1 i2 i3 i4 i5 = (g_277 n dp e 1 I L i1 i2 i3 i4 (i5 + Int32.ofInt (1))) := by rw [g_277.eq_2, if_neg (show ¬ ((2 : Nat) = 0) by decide), if_neg (show ¬ ((2 : Nat) = 1) by decide), if_pos (show (2 : Nat) = 2 from rfl)]
set_option maxHeartbeats 8000000 in
set_option maxRecDepth 100000 in
theorem w_277 (X : GX) {z : Nat} {kd : Nat → Nat × Nat} {Rf : Nat → Nat → Option Nat} (hS : Sh z kd Rf) : ∀ (n dp d : Nat), dp ≤ d → ∀ (I : (Nat → Nat → Int32)) (L : (Nat → Nat → Int64)) (i1 : Int32) (i2 : Int32) (i3 : Int32) (i4 : Int32) (i5 : Int32) (r : Int32) (I1 : (Nat → Nat → Int32)) (L1 : (Nat → Nat → Int64)), (g_277 n dp (z, kd, Rf) 0 I L i1 i2 i3 i4 i5 = some (r, I1, L1) → K X d 277 0 0 (AI (fun x τ => x = r ∧ τ = (z, kd, I1, L1, Rf))) 0 [some (.ref 105), some (.int i1), some (.int i2), none, none, none, none] [] (z, kd, I, L, Rf) 0 0) ∧
    (g_277 n dp (z, kd, Rf) 1 I L i1 i2 i3 i4 i5 = some (r, I1, L1) → K X d 277 0 0 (AI (fun x τ => x = r ∧ τ = (z, kd, I1, L1, Rf))) 99 [some (.ref 105), some (.int i1), some (.int i2), some (.int i3), some (.int i4), some (.int i5), none] [] (z, kd, I, L, Rf) 0 0) ∧
    (g_277 n dp (z, kd, Rf) 2 I L i1 i2 i3 i4 i5 = some (r, I1, L1) → K X d 277 0 0 (AI (fun x τ => x = r ∧ τ = (z, kd, I1, L1, Rf))) 131 [some (.ref 105), some (.int i1), some (.int i2), some (.int i3), some (.int i4), some (.int i5), none] [] (z, kd, I, L, Rf) 0 0) := by
  intro n
  induction n with
  | zero => intro dp d hdp I L i1 i2 i3 i4 i5 r I1 L1; exact ⟨(fun h => by cases h), (fun h => by cases h), (fun h => by cases h)⟩
  | succ n ih =>
    intro dp d hdp I L i1 i2 i3 i4 i5 r I1 L1
    refine ⟨?_, ?_, ?_⟩
    · intro h
      rw [e_277_0] at h
      refine K_of b_277_0 h_277_0 ?_
      refine q_aload rfl ?_
      refine q_iconst (0) (by decide) ?_
      refine q_putI (c0 := 12) (j := 0) rfl rfl (zl hS 105 (by decide)) (sk hS 105 (by decide) rfl) rfl ?_
      obtain ⟨I_2, nI_2, h⟩ := stI_some h
      refine q_nI nI_2 ?_
      refine q_iload rfl ?_
      obtain ⟨d_6, h⟩ := ite_some h
      obtain ⟨⟨x0_6, I0_6, L0_6⟩, e_6, h⟩ := Option.bind_eq_some_iff.mp h
      dsimp only at h
      refine q_fs1I (a_197 X hS (d := d - 1) (by omega) e_6) (by omega) (Nat.le_refl _) (Nat.le_refl _) rfl (Nat.le_of_ble_eq_true rfl) ?_
      refine q_if_eq (fun c_9 => ?_) (fun c_9 => ?_)
      · rw [if_pos c_9] at h
        refine K_of b_277_51 h_277_51 ?_
        refine q_iconst (-1) (by decide) ?_
        cases h
        exact q_iret rfl (Nat.le_refl _) (Nat.le_refl _) ⟨rfl, rfl⟩
      · rw [if_neg c_9] at h
        refine q_iload rfl ?_
        refine q_i2l ?_
        refine q_lconst (0) (by decide) ?_
        refine q_lconst (1) (by decide) ?_
        obtain ⟨d_16, h⟩ := ite_some h
        obtain ⟨⟨x1_16, I1_16, L1_16⟩, e_16, h⟩ := Option.bind_eq_some_iff.mp h
        dsimp only at h
        refine q_fs3I (a_193 X hS (d := d - 1) (by omega) e_16) (by omega) (Nat.le_refl _) (Nat.le_refl _) rfl (Nat.le_of_ble_eq_true rfl) ?_
        refine q_if_eq (fun c_19 => ?_) (fun c_19 => ?_)
        · rw [if_pos c_19] at h
          refine K_of b_277_51 h_277_51 ?_
          refine q_iconst (-1) (by decide) ?_
          cases h
          exact q_iret rfl (Nat.le_refl _) (Nat.le_refl _) ⟨rfl, rfl⟩
        · rw [if_neg c_19] at h
          refine q_aload rfl ?_
          obtain ⟨d_23, h⟩ := ite_some h
          obtain ⟨⟨x2_23, I2_23, L2_23⟩, e_23, h⟩ := Option.bind_eq_some_iff.mp h
          dsimp only at h
          refine q_fv1I (a_261 X hS (d := d - 1) (by omega) e_23) (by omega) (Nat.le_refl _) (Nat.le_refl _) rfl (Nat.le_of_ble_eq_true rfl) ⟨(zl hS 105 (by decide)), congrArg Prod.fst (sk hS 105 (by decide) rfl), by decide⟩ ?_
          refine q_if_eq (fun c_26 => ?_) (fun c_26 => ?_)
          · rw [if_pos c_26] at h
            refine K_of b_277_51 h_277_51 ?_
            refine q_iconst (-1) (by decide) ?_
            cases h
            exact q_iret rfl (Nat.le_refl _) (Nat.le_refl _) ⟨rfl, rfl⟩
          · rw [if_neg c_26] at h
            refine q_aload rfl ?_
            refine q_getRs (c0 := 12) (j := 3) rfl rfl (zl hS 105 (by decide)) (sk hS 105 (by decide) rfl) rfl (by decide) (r_105_3 hS) ?_
            refine q_iconst (0) (by decide) ?_
            refine q_iload rfl ?_
            obtain ⟨d_35, h⟩ := ite_some h
            obtain ⟨⟨x3_35, I3_35, L3_35⟩, e_35, h⟩ := Option.bind_eq_some_iff.mp h
            dsimp only at h
            refine q_fs1I (a_197 X hS (d := d - 1) (by omega) e_35) (by omega) (Nat.le_refl _) (Nat.le_refl _) rfl (Nat.le_of_ble_eq_true rfl) ?_
            refine q_if_eq (fun c_38 => ?_) (fun c_38 => ?_)
            · rw [if_pos c_38] at h
              refine K_of b_277_45 h_277_45 ?_
              refine q_iconst (0) (by decide) ?_
              refine q_end ?_
              refine K_of b_277_46 h_277_46 ?_
              refine q_iadd ?_
              obtain ⟨⟨u_47, v_47⟩, h⟩ := ite_some h
              refine q_ialN (Int32.toNatClampNeg ((0 : Int32) + (0 : Int32))) (nx u_47) (zl hS 107 (by decide)) (sk hS 107 (by decide) rfl) v_47 (by decide) ?_
              refine q_if_ne (fun c_48 => ?_) (fun c_48 => ?_)
              · rw [if_neg c_48] at h
                refine K_of b_277_53 h_277_53 ?_
                refine q_aload rfl ?_
                refine q_getRs (c0 := 12) (j := 3) rfl rfl (zl hS 105 (by decide)) (sk hS 105 (by decide) rfl) rfl (by decide) (r_105_3 hS) ?_
                refine q_iconst (0) (by decide) ?_
                refine q_ialN (0) rfl (zl hS 107 (by decide)) (sk hS 107 (by decide) rfl) (by decide) (by decide) ?_
                refine q_iload rfl ?_
                refine q_if_le (fun c_60 => ?_) (fun c_60 => ?_)
                · rw [if_pos c_60] at h
                  refine K_of b_277_72 h_277_72 ?_
                  refine q_iconst (0) (by decide) ?_
                  refine q_end ?_
                  refine K_of b_277_73 h_277_73 ?_
                  refine q_iadd ?_
                  refine q_iload rfl ?_
                  refine q_iconst (1) (by decide) ?_
                  refine q_icmp_le (fun c_76 => ?_) (fun c_76 => ?_)
                  · rw [if_pos c_76] at h
                    refine K_of b_277_88 h_277_88 ?_
                    refine q_iconst (0) (by decide) ?_
                    refine q_end ?_
                    refine K_of b_277_89 h_277_89 ?_
                    refine q_iadd ?_
                    refine q_iconst (1) (by decide) ?_
                    refine q_isub ?_
                    obtain ⟨v_92, nv_92, h⟩ := stI_some h
                    refine q_eqi nv_92.symm ?_
                    refine q_istore (ls1 := [some (.ref 105), some (.int i1), some (.int i2), some (.int v_92), none, none, none]) (Nat.le_of_ble_eq_true rfl) rfl ?_
                    refine q_iconst (0) (by decide) ?_
                    refine q_istore (ls1 := [some (.ref 105), some (.int i1), some (.int i2), some (.int v_92), some (.int (0 : Int32)), none, none]) (Nat.le_of_ble_eq_true rfl) rfl ?_
                    refine q_iconst (0) (by decide) ?_
                    refine q_istore (ls1 := [some (.ref 105), some (.int i1), some (.int i2), some (.int v_92), some (.int (0 : Int32)), some (.int (0 : Int32)), none]) (Nat.le_of_ble_eq_true rfl) rfl ?_
                    refine q_end ?_
                    exact (ih dp d hdp _ _ i1 i2 v_92 (0 : Int32) (0 : Int32) _ _ _).2.1 h
                  · rw [if_neg c_76] at h
                    refine q_aload rfl ?_
                    refine q_getRs (c0 := 12) (j := 3) rfl rfl (zl hS 105 (by decide)) (sk hS 105 (by decide) rfl) rfl (by decide) (r_105_3 hS) ?_
                    refine q_iconst (2) (by decide) ?_
                    refine q_ialN (2) rfl (zl hS 107 (by decide)) (sk hS 107 (by decide) rfl) (by decide) (by decide) ?_
                    refine q_goto ?_
                    refine K_of b_277_89 h_277_89 ?_
                    refine q_iadd ?_
                    refine q_iconst (1) (by decide) ?_
                    refine q_isub ?_
                    obtain ⟨v_92, nv_92, h⟩ := stI_some h
                    refine q_eqi nv_92.symm ?_
                    refine q_istore (ls1 := [some (.ref 105), some (.int i1), some (.int i2), some (.int v_92), none, none, none]) (Nat.le_of_ble_eq_true rfl) rfl ?_
                    refine q_iconst (0) (by decide) ?_
                    refine q_istore (ls1 := [some (.ref 105), some (.int i1), some (.int i2), some (.int v_92), some (.int (0 : Int32)), none, none]) (Nat.le_of_ble_eq_true rfl) rfl ?_
                    refine q_iconst (0) (by decide) ?_
                    refine q_istore (ls1 := [some (.ref 105), some (.int i1), some (.int i2), some (.int v_92), some (.int (0 : Int32)), some (.int (0 : Int32)), none]) (Nat.le_of_ble_eq_true rfl) rfl ?_
                    refine q_end ?_
                    exact (ih dp d hdp _ _ i1 i2 v_92 (0 : Int32) (0 : Int32) _ _ _).2.1 h
                · rw [if_neg c_60] at h
                  refine q_aload rfl ?_
                  refine q_getRs (c0 := 12) (j := 3) rfl rfl (zl hS 105 (by decide)) (sk hS 105 (by decide) rfl) rfl (by decide) (r_105_3 hS) ?_
                  refine q_iconst (1) (by decide) ?_
                  refine q_ialN (1) rfl (zl hS 107 (by decide)) (sk hS 107 (by decide) rfl) (by decide) (by decide) ?_
                  refine q_goto ?_
                  refine K_of b_277_73 h_277_73 ?_
                  refine q_iadd ?_
                  refine q_iload rfl ?_
                  refine q_iconst (1) (by decide) ?_
                  refine q_icmp_le (fun c_76 => ?_) (fun c_76 => ?_)
                  · rw [if_pos c_76] at h
                    refine K_of b_277_88 h_277_88 ?_
                    refine q_iconst (0) (by decide) ?_
                    refine q_end ?_
                    refine K_of b_277_89 h_277_89 ?_
                    refine q_iadd ?_
                    refine q_iconst (1) (by decide) ?_
                    refine q_isub ?_
                    obtain ⟨v_92, nv_92, h⟩ := stI_some h
                    refine q_eqi nv_92.symm ?_
                    refine q_istore (ls1 := [some (.ref 105), some (.int i1), some (.int i2), some (.int v_92), none, none, none]) (Nat.le_of_ble_eq_true rfl) rfl ?_
                    refine q_iconst (0) (by decide) ?_
                    refine q_istore (ls1 := [some (.ref 105), some (.int i1), some (.int i2), some (.int v_92), some (.int (0 : Int32)), none, none]) (Nat.le_of_ble_eq_true rfl) rfl ?_
                    refine q_iconst (0) (by decide) ?_
                    refine q_istore (ls1 := [some (.ref 105), some (.int i1), some (.int i2), some (.int v_92), some (.int (0 : Int32)), some (.int (0 : Int32)), none]) (Nat.le_of_ble_eq_true rfl) rfl ?_
                    refine q_end ?_
                    exact (ih dp d hdp _ _ i1 i2 v_92 (0 : Int32) (0 : Int32) _ _ _).2.1 h
                  · rw [if_neg c_76] at h
                    refine q_aload rfl ?_
                    refine q_getRs (c0 := 12) (j := 3) rfl rfl (zl hS 105 (by decide)) (sk hS 105 (by decide) rfl) rfl (by decide) (r_105_3 hS) ?_
                    refine q_iconst (2) (by decide) ?_
                    refine q_ialN (2) rfl (zl hS 107 (by decide)) (sk hS 107 (by decide) rfl) (by decide) (by decide) ?_
                    refine q_goto ?_
                    refine K_of b_277_89 h_277_89 ?_
                    refine q_iadd ?_
                    refine q_iconst (1) (by decide) ?_
                    refine q_isub ?_
                    obtain ⟨v_92, nv_92, h⟩ := stI_some h
                    refine q_eqi nv_92.symm ?_
                    refine q_istore (ls1 := [some (.ref 105), some (.int i1), some (.int i2), some (.int v_92), none, none, none]) (Nat.le_of_ble_eq_true rfl) rfl ?_
                    refine q_iconst (0) (by decide) ?_
                    refine q_istore (ls1 := [some (.ref 105), some (.int i1), some (.int i2), some (.int v_92), some (.int (0 : Int32)), none, none]) (Nat.le_of_ble_eq_true rfl) rfl ?_
                    refine q_iconst (0) (by decide) ?_
                    refine q_istore (ls1 := [some (.ref 105), some (.int i1), some (.int i2), some (.int v_92), some (.int (0 : Int32)), some (.int (0 : Int32)), none]) (Nat.le_of_ble_eq_true rfl) rfl ?_
                    refine q_end ?_
                    exact (ih dp d hdp _ _ i1 i2 v_92 (0 : Int32) (0 : Int32) _ _ _).2.1 h
              · rw [if_pos c_48] at h
                refine q_end ?_
                refine K_of b_277_51 h_277_51 ?_
                refine q_iconst (-1) (by decide) ?_
                cases h
                exact q_iret rfl (Nat.le_refl _) (Nat.le_refl _) ⟨rfl, rfl⟩
            · rw [if_neg c_38] at h
              refine q_iload rfl ?_
              refine q_goto ?_
              refine K_of b_277_46 h_277_46 ?_
              refine q_iadd ?_
              obtain ⟨⟨u_47, v_47⟩, h⟩ := ite_some h
              refine q_ialN (Int32.toNatClampNeg ((0 : Int32) + i1)) (nx u_47) (zl hS 107 (by decide)) (sk hS 107 (by decide) rfl) v_47 (by decide) ?_
              refine q_if_ne (fun c_48 => ?_) (fun c_48 => ?_)
              · rw [if_neg c_48] at h
                refine K_of b_277_53 h_277_53 ?_
                refine q_aload rfl ?_
                refine q_getRs (c0 := 12) (j := 3) rfl rfl (zl hS 105 (by decide)) (sk hS 105 (by decide) rfl) rfl (by decide) (r_105_3 hS) ?_
                refine q_iconst (0) (by decide) ?_
                refine q_ialN (0) rfl (zl hS 107 (by decide)) (sk hS 107 (by decide) rfl) (by decide) (by decide) ?_
                refine q_iload rfl ?_
                refine q_if_le (fun c_60 => ?_) (fun c_60 => ?_)
                · rw [if_pos c_60] at h
                  refine K_of b_277_72 h_277_72 ?_
                  refine q_iconst (0) (by decide) ?_
                  refine q_end ?_
                  refine K_of b_277_73 h_277_73 ?_
                  refine q_iadd ?_
                  refine q_iload rfl ?_
                  refine q_iconst (1) (by decide) ?_
                  refine q_icmp_le (fun c_76 => ?_) (fun c_76 => ?_)
                  · rw [if_pos c_76] at h
                    refine K_of b_277_88 h_277_88 ?_
                    refine q_iconst (0) (by decide) ?_
                    refine q_end ?_
                    refine K_of b_277_89 h_277_89 ?_
                    refine q_iadd ?_
                    refine q_iconst (1) (by decide) ?_
                    refine q_isub ?_
                    obtain ⟨v_92, nv_92, h⟩ := stI_some h
                    refine q_eqi nv_92.symm ?_
                    refine q_istore (ls1 := [some (.ref 105), some (.int i1), some (.int i2), some (.int v_92), none, none, none]) (Nat.le_of_ble_eq_true rfl) rfl ?_
                    refine q_iconst (0) (by decide) ?_
                    refine q_istore (ls1 := [some (.ref 105), some (.int i1), some (.int i2), some (.int v_92), some (.int (0 : Int32)), none, none]) (Nat.le_of_ble_eq_true rfl) rfl ?_
                    refine q_iconst (0) (by decide) ?_
                    refine q_istore (ls1 := [some (.ref 105), some (.int i1), some (.int i2), some (.int v_92), some (.int (0 : Int32)), some (.int (0 : Int32)), none]) (Nat.le_of_ble_eq_true rfl) rfl ?_
                    refine q_end ?_
                    exact (ih dp d hdp _ _ i1 i2 v_92 (0 : Int32) (0 : Int32) _ _ _).2.1 h
                  · rw [if_neg c_76] at h
                    refine q_aload rfl ?_
                    refine q_getRs (c0 := 12) (j := 3) rfl rfl (zl hS 105 (by decide)) (sk hS 105 (by decide) rfl) rfl (by decide) (r_105_3 hS) ?_
                    refine q_iconst (2) (by decide) ?_
                    refine q_ialN (2) rfl (zl hS 107 (by decide)) (sk hS 107 (by decide) rfl) (by decide) (by decide) ?_
                    refine q_goto ?_
                    refine K_of b_277_89 h_277_89 ?_
                    refine q_iadd ?_
                    refine q_iconst (1) (by decide) ?_
                    refine q_isub ?_
                    obtain ⟨v_92, nv_92, h⟩ := stI_some h
                    refine q_eqi nv_92.symm ?_
                    refine q_istore (ls1 := [some (.ref 105), some (.int i1), some (.int i2), some (.int v_92), none, none, none]) (Nat.le_of_ble_eq_true rfl) rfl ?_
                    refine q_iconst (0) (by decide) ?_
                    refine q_istore (ls1 := [some (.ref 105), some (.int i1), some (.int i2), some (.int v_92), some (.int (0 : Int32)), none, none]) (Nat.le_of_ble_eq_true rfl) rfl ?_
                    refine q_iconst (0) (by decide) ?_
                    refine q_istore (ls1 := [some (.ref 105), some (.int i1), some (.int i2), some (.int v_92), some (.int (0 : Int32)), some (.int (0 : Int32)), none]) (Nat.le_of_ble_eq_true rfl) rfl ?_
                    refine q_end ?_
                    exact (ih dp d hdp _ _ i1 i2 v_92 (0 : Int32) (0 : Int32) _ _ _).2.1 h
                · rw [if_neg c_60] at h
                  refine q_aload rfl ?_
                  refine q_getRs (c0 := 12) (j := 3) rfl rfl (zl hS 105 (by decide)) (sk hS 105 (by decide) rfl) rfl (by decide) (r_105_3 hS) ?_
                  refine q_iconst (1) (by decide) ?_
                  refine q_ialN (1) rfl (zl hS 107 (by decide)) (sk hS 107 (by decide) rfl) (by decide) (by decide) ?_
                  refine q_goto ?_
                  refine K_of b_277_73 h_277_73 ?_
                  refine q_iadd ?_
                  refine q_iload rfl ?_
                  refine q_iconst (1) (by decide) ?_
                  refine q_icmp_le (fun c_76 => ?_) (fun c_76 => ?_)
                  · rw [if_pos c_76] at h
                    refine K_of b_277_88 h_277_88 ?_
                    refine q_iconst (0) (by decide) ?_
                    refine q_end ?_
                    refine K_of b_277_89 h_277_89 ?_
                    refine q_iadd ?_
                    refine q_iconst (1) (by decide) ?_
                    refine q_isub ?_
                    obtain ⟨v_92, nv_92, h⟩ := stI_some h
                    refine q_eqi nv_92.symm ?_
                    refine q_istore (ls1 := [some (.ref 105), some (.int i1), some (.int i2), some (.int v_92), none, none, none]) (Nat.le_of_ble_eq_true rfl) rfl ?_
                    refine q_iconst (0) (by decide) ?_
                    refine q_istore (ls1 := [some (.ref 105), some (.int i1), some (.int i2), some (.int v_92), some (.int (0 : Int32)), none, none]) (Nat.le_of_ble_eq_true rfl) rfl ?_
                    refine q_iconst (0) (by decide) ?_
                    refine q_istore (ls1 := [some (.ref 105), some (.int i1), some (.int i2), some (.int v_92), some (.int (0 : Int32)), some (.int (0 : Int32)), none]) (Nat.le_of_ble_eq_true rfl) rfl ?_
                    refine q_end ?_
                    exact (ih dp d hdp _ _ i1 i2 v_92 (0 : Int32) (0 : Int32) _ _ _).2.1 h
                  · rw [if_neg c_76] at h
                    refine q_aload rfl ?_
                    refine q_getRs (c0 := 12) (j := 3) rfl rfl (zl hS 105 (by decide)) (sk hS 105 (by decide) rfl) rfl (by decide) (r_105_3 hS) ?_
                    refine q_iconst (2) (by decide) ?_
                    refine q_ialN (2) rfl (zl hS 107 (by decide)) (sk hS 107 (by decide) rfl) (by decide) (by decide) ?_
                    refine q_goto ?_
                    refine K_of b_277_89 h_277_89 ?_
                    refine q_iadd ?_
                    refine q_iconst (1) (by decide) ?_
                    refine q_isub ?_
                    obtain ⟨v_92, nv_92, h⟩ := stI_some h
                    refine q_eqi nv_92.symm ?_
                    refine q_istore (ls1 := [some (.ref 105), some (.int i1), some (.int i2), some (.int v_92), none, none, none]) (Nat.le_of_ble_eq_true rfl) rfl ?_
                    refine q_iconst (0) (by decide) ?_
                    refine q_istore (ls1 := [some (.ref 105), some (.int i1), some (.int i2), some (.int v_92), some (.int (0 : Int32)), none, none]) (Nat.le_of_ble_eq_true rfl) rfl ?_
                    refine q_iconst (0) (by decide) ?_
                    refine q_istore (ls1 := [some (.ref 105), some (.int i1), some (.int i2), some (.int v_92), some (.int (0 : Int32)), some (.int (0 : Int32)), none]) (Nat.le_of_ble_eq_true rfl) rfl ?_
                    refine q_end ?_
                    exact (ih dp d hdp _ _ i1 i2 v_92 (0 : Int32) (0 : Int32) _ _ _).2.1 h
              · rw [if_pos c_48] at h
                refine q_end ?_
                refine K_of b_277_51 h_277_51 ?_
                refine q_iconst (-1) (by decide) ?_
                cases h
                exact q_iret rfl (Nat.le_refl _) (Nat.le_refl _) ⟨rfl, rfl⟩
    · intro h
      rw [e_277_1] at h
      refine K_of b_277_99 h_277_99 ?_
      refine q_iload rfl ?_
      refine q_aload rfl ?_
      obtain ⟨d_102, h⟩ := ite_some h
      obtain ⟨⟨x0_102, I0_102, L0_102⟩, e_102, h⟩ := Option.bind_eq_some_iff.mp h
      dsimp only at h
      refine q_fv1I (a_198 X hS (d := d - 1) (by omega) e_102) (by omega) (Nat.le_refl _) (Nat.le_refl _) rfl (Nat.le_of_ble_eq_true rfl) ⟨(zl hS 105 (by decide)), congrArg Prod.fst (sk hS 105 (by decide) rfl), by decide⟩ ?_
      refine q_icmp_ge (fun c_105 => ?_) (fun c_105 => ?_)
      · rw [if_pos c_105] at h
        refine K_of b_277_137 h_277_137 ?_
        refine q_aload rfl ?_
        refine q_aload rfl ?_
        refine q_getRs (c0 := 12) (j := 3) rfl rfl (zl hS 105 (by decide)) (sk hS 105 (by decide) rfl) rfl (by decide) (r_105_3 hS) ?_
        refine q_iconst (0) (by decide) ?_
        refine q_ialN (0) rfl (zl hS 107 (by decide)) (sk hS 107 (by decide) rfl) (by decide) (by decide) ?_
        refine q_iload rfl ?_
        refine q_if_ne (fun c_145 => ?_) (fun c_145 => ?_)
        · rw [if_neg c_145] at h
          refine K_of b_277_152 h_277_152 ?_
          refine q_iconst (0) (by decide) ?_
          refine q_end ?_
          refine K_of b_277_153 h_277_153 ?_
          refine q_isub ?_
          refine q_aload rfl ?_
          refine q_getRs (c0 := 12) (j := 3) rfl rfl (zl hS 105 (by decide)) (sk hS 105 (by decide) rfl) rfl (by decide) (r_105_3 hS) ?_
          refine q_iconst (1) (by decide) ?_
          refine q_ialN (1) rfl (zl hS 107 (by decide)) (sk hS 107 (by decide) rfl) (by decide) (by decide) ?_
          refine q_iload rfl ?_
          refine q_iconst (1) (by decide) ?_
          refine q_icmp_ne (fun c_162 => ?_) (fun c_162 => ?_)
          · rw [if_neg c_162] at h
            refine K_of b_277_169 h_277_169 ?_
            refine q_iconst (0) (by decide) ?_
            refine q_end ?_
            refine K_of b_277_170 h_277_170 ?_
            refine q_isub ?_
            refine q_aload rfl ?_
            refine q_getRs (c0 := 12) (j := 3) rfl rfl (zl hS 105 (by decide)) (sk hS 105 (by decide) rfl) rfl (by decide) (r_105_3 hS) ?_
            refine q_iconst (2) (by decide) ?_
            refine q_ialN (2) rfl (zl hS 107 (by decide)) (sk hS 107 (by decide) rfl) (by decide) (by decide) ?_
            refine q_iload rfl ?_
            refine q_iconst (2) (by decide) ?_
            refine q_icmp_ne (fun c_179 => ?_) (fun c_179 => ?_)
            · rw [if_neg c_179] at h
              refine K_of b_277_186 h_277_186 ?_
              refine q_iconst (0) (by decide) ?_
              refine q_end ?_
              refine K_of b_277_187 h_277_187 ?_
              refine q_isub ?_
              obtain ⟨d_188, h⟩ := ite_some h
              obtain ⟨⟨x1_188, I1_188, L1_188⟩, e_188, h⟩ := Option.bind_eq_some_iff.mp h
              dsimp only at h
              refine q_fv4I (a_262 X hS (d := d - 1) (by omega) e_188) (by omega) (Nat.le_refl _) (Nat.le_refl _) rfl (Nat.le_of_ble_eq_true rfl) ⟨(zl hS 105 (by decide)), congrArg Prod.fst (sk hS 105 (by decide) rfl), by decide⟩ ?_
              refine q_if_ne (fun c_191 => ?_) (fun c_191 => ?_)
              · rw [if_neg c_191] at h
                refine K_of b_277_196 h_277_196 ?_
                refine q_aload rfl ?_
                refine q_iconst (16) (by decide) ?_
                refine q_putI (c0 := 12) (j := 48) rfl rfl (zl hS 105 (by decide)) (sk hS 105 (by decide) rfl) rfl ?_
                obtain ⟨I_199, nI_199, h⟩ := stI_some h
                refine q_nI nI_199 ?_
                refine q_aload rfl ?_
                obtain ⟨d_203, h⟩ := ite_some h
                obtain ⟨⟨x2_203, I2_203, L2_203⟩, e_203, h⟩ := Option.bind_eq_some_iff.mp h
                dsimp only at h
                refine q_fv1I (a_263 X hS (d := d - 1) (by omega) e_203) (by omega) (Nat.le_refl _) (Nat.le_refl _) rfl (Nat.le_of_ble_eq_true rfl) ⟨(zl hS 105 (by decide)), congrArg Prod.fst (sk hS 105 (by decide) rfl), by decide⟩ ?_
                refine q_istore (ls1 := [some (.ref 105), some (.int i1), some (.int i2), some (.int i3), some (.int i4), some (.int x2_203), none]) (Nat.le_of_ble_eq_true rfl) rfl ?_
                refine q_iload rfl ?_
                refine q_iconst (15) (by decide) ?_
                refine q_iadd ?_
                refine q_iconst (16) (by decide) ?_
                refine q_idiv (by decide) ?_
                obtain ⟨v_216, nv_216, h⟩ := stI_some h
                refine q_eqi nv_216.symm ?_
                refine q_istore (ls1 := [some (.ref 105), some (.int i1), some (.int i2), some (.int i3), some (.int i4), some (.int x2_203), some (.int v_216)]) (Nat.le_of_ble_eq_true rfl) rfl ?_
                refine q_iload rfl ?_
                refine q_if_ne (fun c_219 => ?_) (fun c_219 => ?_)
                · rw [if_neg c_219] at h
                  refine K_of b_277_233 h_277_233 ?_
                  refine q_iload rfl ?_
                  refine q_end ?_
                  refine K_of b_277_235 h_277_235 ?_
                  cases h
                  exact q_iret rfl (Nat.le_refl _) (Nat.le_refl _) ⟨rfl, rfl⟩
                · rw [if_pos c_219] at h
                  refine q_iconst (16) (by decide) ?_
                  refine q_iload rfl ?_
                  refine q_imul ?_
                  refine q_iload rfl ?_
                  refine q_isub ?_
                  refine q_goto ?_
                  refine K_of b_277_235 h_277_235 ?_
                  cases h
                  exact q_iret rfl (Nat.le_refl _) (Nat.le_refl _) ⟨rfl, rfl⟩
              · rw [if_pos c_191] at h
                refine q_iconst (-1) (by decide) ?_
                cases h
                exact q_iret rfl (Nat.le_refl _) (Nat.le_refl _) ⟨rfl, rfl⟩
            · rw [if_pos c_179] at h
              refine q_iconst (1) (by decide) ?_
              refine q_goto ?_
              refine K_of b_277_187 h_277_187 ?_
              refine q_isub ?_
              obtain ⟨d_188, h⟩ := ite_some h
              obtain ⟨⟨x1_188, I1_188, L1_188⟩, e_188, h⟩ := Option.bind_eq_some_iff.mp h
              dsimp only at h
              refine q_fv4I (a_262 X hS (d := d - 1) (by omega) e_188) (by omega) (Nat.le_refl _) (Nat.le_refl _) rfl (Nat.le_of_ble_eq_true rfl) ⟨(zl hS 105 (by decide)), congrArg Prod.fst (sk hS 105 (by decide) rfl), by decide⟩ ?_
              refine q_if_ne (fun c_191 => ?_) (fun c_191 => ?_)
              · rw [if_neg c_191] at h
                refine K_of b_277_196 h_277_196 ?_
                refine q_aload rfl ?_
                refine q_iconst (16) (by decide) ?_
                refine q_putI (c0 := 12) (j := 48) rfl rfl (zl hS 105 (by decide)) (sk hS 105 (by decide) rfl) rfl ?_
                obtain ⟨I_199, nI_199, h⟩ := stI_some h
                refine q_nI nI_199 ?_
                refine q_aload rfl ?_
                obtain ⟨d_203, h⟩ := ite_some h
                obtain ⟨⟨x2_203, I2_203, L2_203⟩, e_203, h⟩ := Option.bind_eq_some_iff.mp h
                dsimp only at h
                refine q_fv1I (a_263 X hS (d := d - 1) (by omega) e_203) (by omega) (Nat.le_refl _) (Nat.le_refl _) rfl (Nat.le_of_ble_eq_true rfl) ⟨(zl hS 105 (by decide)), congrArg Prod.fst (sk hS 105 (by decide) rfl), by decide⟩ ?_
                refine q_istore (ls1 := [some (.ref 105), some (.int i1), some (.int i2), some (.int i3), some (.int i4), some (.int x2_203), none]) (Nat.le_of_ble_eq_true rfl) rfl ?_
                refine q_iload rfl ?_
                refine q_iconst (15) (by decide) ?_
                refine q_iadd ?_
                refine q_iconst (16) (by decide) ?_
                refine q_idiv (by decide) ?_
                obtain ⟨v_216, nv_216, h⟩ := stI_some h
                refine q_eqi nv_216.symm ?_
                refine q_istore (ls1 := [some (.ref 105), some (.int i1), some (.int i2), some (.int i3), some (.int i4), some (.int x2_203), some (.int v_216)]) (Nat.le_of_ble_eq_true rfl) rfl ?_
                refine q_iload rfl ?_
                refine q_if_ne (fun c_219 => ?_) (fun c_219 => ?_)
                · rw [if_neg c_219] at h
                  refine K_of b_277_233 h_277_233 ?_
                  refine q_iload rfl ?_
                  refine q_end ?_
                  refine K_of b_277_235 h_277_235 ?_
                  cases h
                  exact q_iret rfl (Nat.le_refl _) (Nat.le_refl _) ⟨rfl, rfl⟩
                · rw [if_pos c_219] at h
                  refine q_iconst (16) (by decide) ?_
                  refine q_iload rfl ?_
                  refine q_imul ?_
                  refine q_iload rfl ?_
                  refine q_isub ?_
                  refine q_goto ?_
                  refine K_of b_277_235 h_277_235 ?_
                  cases h
                  exact q_iret rfl (Nat.le_refl _) (Nat.le_refl _) ⟨rfl, rfl⟩
              · rw [if_pos c_191] at h
                refine q_iconst (-1) (by decide) ?_
                cases h
                exact q_iret rfl (Nat.le_refl _) (Nat.le_refl _) ⟨rfl, rfl⟩
          · rw [if_pos c_162] at h
            refine q_iconst (1) (by decide) ?_
            refine q_goto ?_
            refine K_of b_277_170 h_277_170 ?_
            refine q_isub ?_
            refine q_aload rfl ?_
            refine q_getRs (c0 := 12) (j := 3) rfl rfl (zl hS 105 (by decide)) (sk hS 105 (by decide) rfl) rfl (by decide) (r_105_3 hS) ?_
            refine q_iconst (2) (by decide) ?_
            refine q_ialN (2) rfl (zl hS 107 (by decide)) (sk hS 107 (by decide) rfl) (by decide) (by decide) ?_
            refine q_iload rfl ?_
            refine q_iconst (2) (by decide) ?_
            refine q_icmp_ne (fun c_179 => ?_) (fun c_179 => ?_)
            · rw [if_neg c_179] at h
              refine K_of b_277_186 h_277_186 ?_
              refine q_iconst (0) (by decide) ?_
              refine q_end ?_
              refine K_of b_277_187 h_277_187 ?_
              refine q_isub ?_
              obtain ⟨d_188, h⟩ := ite_some h
              obtain ⟨⟨x1_188, I1_188, L1_188⟩, e_188, h⟩ := Option.bind_eq_some_iff.mp h
              dsimp only at h
              refine q_fv4I (a_262 X hS (d := d - 1) (by omega) e_188) (by omega) (Nat.le_refl _) (Nat.le_refl _) rfl (Nat.le_of_ble_eq_true rfl) ⟨(zl hS 105 (by decide)), congrArg Prod.fst (sk hS 105 (by decide) rfl), by decide⟩ ?_
              refine q_if_ne (fun c_191 => ?_) (fun c_191 => ?_)
              · rw [if_neg c_191] at h
                refine K_of b_277_196 h_277_196 ?_
                refine q_aload rfl ?_
                refine q_iconst (16) (by decide) ?_
                refine q_putI (c0 := 12) (j := 48) rfl rfl (zl hS 105 (by decide)) (sk hS 105 (by decide) rfl) rfl ?_
                obtain ⟨I_199, nI_199, h⟩ := stI_some h
                refine q_nI nI_199 ?_
                refine q_aload rfl ?_
                obtain ⟨d_203, h⟩ := ite_some h
                obtain ⟨⟨x2_203, I2_203, L2_203⟩, e_203, h⟩ := Option.bind_eq_some_iff.mp h
                dsimp only at h
                refine q_fv1I (a_263 X hS (d := d - 1) (by omega) e_203) (by omega) (Nat.le_refl _) (Nat.le_refl _) rfl (Nat.le_of_ble_eq_true rfl) ⟨(zl hS 105 (by decide)), congrArg Prod.fst (sk hS 105 (by decide) rfl), by decide⟩ ?_
                refine q_istore (ls1 := [some (.ref 105), some (.int i1), some (.int i2), some (.int i3), some (.int i4), some (.int x2_203), none]) (Nat.le_of_ble_eq_true rfl) rfl ?_
                refine q_iload rfl ?_
                refine q_iconst (15) (by decide) ?_
                refine q_iadd ?_
                refine q_iconst (16) (by decide) ?_
                refine q_idiv (by decide) ?_
                obtain ⟨v_216, nv_216, h⟩ := stI_some h
                refine q_eqi nv_216.symm ?_
                refine q_istore (ls1 := [some (.ref 105), some (.int i1), some (.int i2), some (.int i3), some (.int i4), some (.int x2_203), some (.int v_216)]) (Nat.le_of_ble_eq_true rfl) rfl ?_
                refine q_iload rfl ?_
                refine q_if_ne (fun c_219 => ?_) (fun c_219 => ?_)
                · rw [if_neg c_219] at h
                  refine K_of b_277_233 h_277_233 ?_
                  refine q_iload rfl ?_
                  refine q_end ?_
                  refine K_of b_277_235 h_277_235 ?_
                  cases h
                  exact q_iret rfl (Nat.le_refl _) (Nat.le_refl _) ⟨rfl, rfl⟩
                · rw [if_pos c_219] at h
                  refine q_iconst (16) (by decide) ?_
                  refine q_iload rfl ?_
                  refine q_imul ?_
                  refine q_iload rfl ?_
                  refine q_isub ?_
                  refine q_goto ?_
                  refine K_of b_277_235 h_277_235 ?_
                  cases h
                  exact q_iret rfl (Nat.le_refl _) (Nat.le_refl _) ⟨rfl, rfl⟩
              · rw [if_pos c_191] at h
                refine q_iconst (-1) (by decide) ?_
                cases h
                exact q_iret rfl (Nat.le_refl _) (Nat.le_refl _) ⟨rfl, rfl⟩
            · rw [if_pos c_179] at h
              refine q_iconst (1) (by decide) ?_
              refine q_goto ?_
              refine K_of b_277_187 h_277_187 ?_
              refine q_isub ?_
              obtain ⟨d_188, h⟩ := ite_some h
              obtain ⟨⟨x1_188, I1_188, L1_188⟩, e_188, h⟩ := Option.bind_eq_some_iff.mp h
              dsimp only at h
              refine q_fv4I (a_262 X hS (d := d - 1) (by omega) e_188) (by omega) (Nat.le_refl _) (Nat.le_refl _) rfl (Nat.le_of_ble_eq_true rfl) ⟨(zl hS 105 (by decide)), congrArg Prod.fst (sk hS 105 (by decide) rfl), by decide⟩ ?_
              refine q_if_ne (fun c_191 => ?_) (fun c_191 => ?_)
              · rw [if_neg c_191] at h
                refine K_of b_277_196 h_277_196 ?_
                refine q_aload rfl ?_
                refine q_iconst (16) (by decide) ?_
                refine q_putI (c0 := 12) (j := 48) rfl rfl (zl hS 105 (by decide)) (sk hS 105 (by decide) rfl) rfl ?_
                obtain ⟨I_199, nI_199, h⟩ := stI_some h
                refine q_nI nI_199 ?_
                refine q_aload rfl ?_
                obtain ⟨d_203, h⟩ := ite_some h
                obtain ⟨⟨x2_203, I2_203, L2_203⟩, e_203, h⟩ := Option.bind_eq_some_iff.mp h
                dsimp only at h
                refine q_fv1I (a_263 X hS (d := d - 1) (by omega) e_203) (by omega) (Nat.le_refl _) (Nat.le_refl _) rfl (Nat.le_of_ble_eq_true rfl) ⟨(zl hS 105 (by decide)), congrArg Prod.fst (sk hS 105 (by decide) rfl), by decide⟩ ?_
                refine q_istore (ls1 := [some (.ref 105), some (.int i1), some (.int i2), some (.int i3), some (.int i4), some (.int x2_203), none]) (Nat.le_of_ble_eq_true rfl) rfl ?_
                refine q_iload rfl ?_
                refine q_iconst (15) (by decide) ?_
                refine q_iadd ?_
                refine q_iconst (16) (by decide) ?_
                refine q_idiv (by decide) ?_
                obtain ⟨v_216, nv_216, h⟩ := stI_some h
                refine q_eqi nv_216.symm ?_
                refine q_istore (ls1 := [some (.ref 105), some (.int i1), some (.int i2), some (.int i3), some (.int i4), some (.int x2_203), some (.int v_216)]) (Nat.le_of_ble_eq_true rfl) rfl ?_
                refine q_iload rfl ?_
                refine q_if_ne (fun c_219 => ?_) (fun c_219 => ?_)
                · rw [if_neg c_219] at h
                  refine K_of b_277_233 h_277_233 ?_
                  refine q_iload rfl ?_
                  refine q_end ?_
                  refine K_of b_277_235 h_277_235 ?_
                  cases h
                  exact q_iret rfl (Nat.le_refl _) (Nat.le_refl _) ⟨rfl, rfl⟩
                · rw [if_pos c_219] at h
                  refine q_iconst (16) (by decide) ?_
                  refine q_iload rfl ?_
                  refine q_imul ?_
                  refine q_iload rfl ?_
                  refine q_isub ?_
                  refine q_goto ?_
                  refine K_of b_277_235 h_277_235 ?_
                  cases h
                  exact q_iret rfl (Nat.le_refl _) (Nat.le_refl _) ⟨rfl, rfl⟩
              · rw [if_pos c_191] at h
                refine q_iconst (-1) (by decide) ?_
                cases h
                exact q_iret rfl (Nat.le_refl _) (Nat.le_refl _) ⟨rfl, rfl⟩
        · rw [if_pos c_145] at h
          refine q_iconst (1) (by decide) ?_
          refine q_goto ?_
          refine K_of b_277_153 h_277_153 ?_
          refine q_isub ?_
          refine q_aload rfl ?_
          refine q_getRs (c0 := 12) (j := 3) rfl rfl (zl hS 105 (by decide)) (sk hS 105 (by decide) rfl) rfl (by decide) (r_105_3 hS) ?_
          refine q_iconst (1) (by decide) ?_
          refine q_ialN (1) rfl (zl hS 107 (by decide)) (sk hS 107 (by decide) rfl) (by decide) (by decide) ?_
          refine q_iload rfl ?_
          refine q_iconst (1) (by decide) ?_
          refine q_icmp_ne (fun c_162 => ?_) (fun c_162 => ?_)
          · rw [if_neg c_162] at h
            refine K_of b_277_169 h_277_169 ?_
            refine q_iconst (0) (by decide) ?_
            refine q_end ?_
            refine K_of b_277_170 h_277_170 ?_
            refine q_isub ?_
            refine q_aload rfl ?_
            refine q_getRs (c0 := 12) (j := 3) rfl rfl (zl hS 105 (by decide)) (sk hS 105 (by decide) rfl) rfl (by decide) (r_105_3 hS) ?_
            refine q_iconst (2) (by decide) ?_
            refine q_ialN (2) rfl (zl hS 107 (by decide)) (sk hS 107 (by decide) rfl) (by decide) (by decide) ?_
            refine q_iload rfl ?_
            refine q_iconst (2) (by decide) ?_
            refine q_icmp_ne (fun c_179 => ?_) (fun c_179 => ?_)
            · rw [if_neg c_179] at h
              refine K_of b_277_186 h_277_186 ?_
              refine q_iconst (0) (by decide) ?_
              refine q_end ?_
              refine K_of b_277_187 h_277_187 ?_
              refine q_isub ?_
              obtain ⟨d_188, h⟩ := ite_some h
              obtain ⟨⟨x1_188, I1_188, L1_188⟩, e_188, h⟩ := Option.bind_eq_some_iff.mp h
              dsimp only at h
              refine q_fv4I (a_262 X hS (d := d - 1) (by omega) e_188) (by omega) (Nat.le_refl _) (Nat.le_refl _) rfl (Nat.le_of_ble_eq_true rfl) ⟨(zl hS 105 (by decide)), congrArg Prod.fst (sk hS 105 (by decide) rfl), by decide⟩ ?_
              refine q_if_ne (fun c_191 => ?_) (fun c_191 => ?_)
              · rw [if_neg c_191] at h
                refine K_of b_277_196 h_277_196 ?_
                refine q_aload rfl ?_
                refine q_iconst (16) (by decide) ?_
                refine q_putI (c0 := 12) (j := 48) rfl rfl (zl hS 105 (by decide)) (sk hS 105 (by decide) rfl) rfl ?_
                obtain ⟨I_199, nI_199, h⟩ := stI_some h
                refine q_nI nI_199 ?_
                refine q_aload rfl ?_
                obtain ⟨d_203, h⟩ := ite_some h
                obtain ⟨⟨x2_203, I2_203, L2_203⟩, e_203, h⟩ := Option.bind_eq_some_iff.mp h
                dsimp only at h
                refine q_fv1I (a_263 X hS (d := d - 1) (by omega) e_203) (by omega) (Nat.le_refl _) (Nat.le_refl _) rfl (Nat.le_of_ble_eq_true rfl) ⟨(zl hS 105 (by decide)), congrArg Prod.fst (sk hS 105 (by decide) rfl), by decide⟩ ?_
                refine q_istore (ls1 := [some (.ref 105), some (.int i1), some (.int i2), some (.int i3), some (.int i4), some (.int x2_203), none]) (Nat.le_of_ble_eq_true rfl) rfl ?_
                refine q_iload rfl ?_
                refine q_iconst (15) (by decide) ?_
                refine q_iadd ?_
                refine q_iconst (16) (by decide) ?_
                refine q_idiv (by decide) ?_
                obtain ⟨v_216, nv_216, h⟩ := stI_some h
                refine q_eqi nv_216.symm ?_
                refine q_istore (ls1 := [some (.ref 105), some (.int i1), some (.int i2), some (.int i3), some (.int i4), some (.int x2_203), some (.int v_216)]) (Nat.le_of_ble_eq_true rfl) rfl ?_
                refine q_iload rfl ?_
                refine q_if_ne (fun c_219 => ?_) (fun c_219 => ?_)
                · rw [if_neg c_219] at h
                  refine K_of b_277_233 h_277_233 ?_
                  refine q_iload rfl ?_
                  refine q_end ?_
                  refine K_of b_277_235 h_277_235 ?_
                  cases h
                  exact q_iret rfl (Nat.le_refl _) (Nat.le_refl _) ⟨rfl, rfl⟩
                · rw [if_pos c_219] at h
                  refine q_iconst (16) (by decide) ?_
                  refine q_iload rfl ?_
                  refine q_imul ?_
                  refine q_iload rfl ?_
                  refine q_isub ?_
                  refine q_goto ?_
                  refine K_of b_277_235 h_277_235 ?_
                  cases h
                  exact q_iret rfl (Nat.le_refl _) (Nat.le_refl _) ⟨rfl, rfl⟩
              · rw [if_pos c_191] at h
                refine q_iconst (-1) (by decide) ?_
                cases h
                exact q_iret rfl (Nat.le_refl _) (Nat.le_refl _) ⟨rfl, rfl⟩
            · rw [if_pos c_179] at h
              refine q_iconst (1) (by decide) ?_
              refine q_goto ?_
              refine K_of b_277_187 h_277_187 ?_
              refine q_isub ?_
              obtain ⟨d_188, h⟩ := ite_some h
              obtain ⟨⟨x1_188, I1_188, L1_188⟩, e_188, h⟩ := Option.bind_eq_some_iff.mp h
              dsimp only at h
              refine q_fv4I (a_262 X hS (d := d - 1) (by omega) e_188) (by omega) (Nat.le_refl _) (Nat.le_refl _) rfl (Nat.le_of_ble_eq_true rfl) ⟨(zl hS 105 (by decide)), congrArg Prod.fst (sk hS 105 (by decide) rfl), by decide⟩ ?_
              refine q_if_ne (fun c_191 => ?_) (fun c_191 => ?_)
              · rw [if_neg c_191] at h
                refine K_of b_277_196 h_277_196 ?_
                refine q_aload rfl ?_
                refine q_iconst (16) (by decide) ?_
                refine q_putI (c0 := 12) (j := 48) rfl rfl (zl hS 105 (by decide)) (sk hS 105 (by decide) rfl) rfl ?_
                obtain ⟨I_199, nI_199, h⟩ := stI_some h
                refine q_nI nI_199 ?_
                refine q_aload rfl ?_
                obtain ⟨d_203, h⟩ := ite_some h
                obtain ⟨⟨x2_203, I2_203, L2_203⟩, e_203, h⟩ := Option.bind_eq_some_iff.mp h
                dsimp only at h
                refine q_fv1I (a_263 X hS (d := d - 1) (by omega) e_203) (by omega) (Nat.le_refl _) (Nat.le_refl _) rfl (Nat.le_of_ble_eq_true rfl) ⟨(zl hS 105 (by decide)), congrArg Prod.fst (sk hS 105 (by decide) rfl), by decide⟩ ?_
                refine q_istore (ls1 := [some (.ref 105), some (.int i1), some (.int i2), some (.int i3), some (.int i4), some (.int x2_203), none]) (Nat.le_of_ble_eq_true rfl) rfl ?_
                refine q_iload rfl ?_
                refine q_iconst (15) (by decide) ?_
                refine q_iadd ?_
                refine q_iconst (16) (by decide) ?_
                refine q_idiv (by decide) ?_
                obtain ⟨v_216, nv_216, h⟩ := stI_some h
                refine q_eqi nv_216.symm ?_
                refine q_istore (ls1 := [some (.ref 105), some (.int i1), some (.int i2), some (.int i3), some (.int i4), some (.int x2_203), some (.int v_216)]) (Nat.le_of_ble_eq_true rfl) rfl ?_
                refine q_iload rfl ?_
                refine q_if_ne (fun c_219 => ?_) (fun c_219 => ?_)
                · rw [if_neg c_219] at h
                  refine K_of b_277_233 h_277_233 ?_
                  refine q_iload rfl ?_
                  refine q_end ?_
                  refine K_of b_277_235 h_277_235 ?_
                  cases h
                  exact q_iret rfl (Nat.le_refl _) (Nat.le_refl _) ⟨rfl, rfl⟩
                · rw [if_pos c_219] at h
                  refine q_iconst (16) (by decide) ?_
                  refine q_iload rfl ?_
                  refine q_imul ?_
                  refine q_iload rfl ?_
                  refine q_isub ?_
                  refine q_goto ?_
                  refine K_of b_277_235 h_277_235 ?_
                  cases h
                  exact q_iret rfl (Nat.le_refl _) (Nat.le_refl _) ⟨rfl, rfl⟩
              · rw [if_pos c_191] at h
                refine q_iconst (-1) (by decide) ?_
                cases h
                exact q_iret rfl (Nat.le_refl _) (Nat.le_refl _) ⟨rfl, rfl⟩
          · rw [if_pos c_162] at h
            refine q_iconst (1) (by decide) ?_
            refine q_goto ?_
            refine K_of b_277_170 h_277_170 ?_
            refine q_isub ?_
            refine q_aload rfl ?_
            refine q_getRs (c0 := 12) (j := 3) rfl rfl (zl hS 105 (by decide)) (sk hS 105 (by decide) rfl) rfl (by decide) (r_105_3 hS) ?_
            refine q_iconst (2) (by decide) ?_
            refine q_ialN (2) rfl (zl hS 107 (by decide)) (sk hS 107 (by decide) rfl) (by decide) (by decide) ?_
            refine q_iload rfl ?_
            refine q_iconst (2) (by decide) ?_
            refine q_icmp_ne (fun c_179 => ?_) (fun c_179 => ?_)
            · rw [if_neg c_179] at h
              refine K_of b_277_186 h_277_186 ?_
              refine q_iconst (0) (by decide) ?_
              refine q_end ?_
              refine K_of b_277_187 h_277_187 ?_
              refine q_isub ?_
              obtain ⟨d_188, h⟩ := ite_some h
              obtain ⟨⟨x1_188, I1_188, L1_188⟩, e_188, h⟩ := Option.bind_eq_some_iff.mp h
              dsimp only at h
              refine q_fv4I (a_262 X hS (d := d - 1) (by omega) e_188) (by omega) (Nat.le_refl _) (Nat.le_refl _) rfl (Nat.le_of_ble_eq_true rfl) ⟨(zl hS 105 (by decide)), congrArg Prod.fst (sk hS 105 (by decide) rfl), by decide⟩ ?_
              refine q_if_ne (fun c_191 => ?_) (fun c_191 => ?_)
              · rw [if_neg c_191] at h
                refine K_of b_277_196 h_277_196 ?_
                refine q_aload rfl ?_
                refine q_iconst (16) (by decide) ?_
                refine q_putI (c0 := 12) (j := 48) rfl rfl (zl hS 105 (by decide)) (sk hS 105 (by decide) rfl) rfl ?_
                obtain ⟨I_199, nI_199, h⟩ := stI_some h
                refine q_nI nI_199 ?_
                refine q_aload rfl ?_
                obtain ⟨d_203, h⟩ := ite_some h
                obtain ⟨⟨x2_203, I2_203, L2_203⟩, e_203, h⟩ := Option.bind_eq_some_iff.mp h
                dsimp only at h
                refine q_fv1I (a_263 X hS (d := d - 1) (by omega) e_203) (by omega) (Nat.le_refl _) (Nat.le_refl _) rfl (Nat.le_of_ble_eq_true rfl) ⟨(zl hS 105 (by decide)), congrArg Prod.fst (sk hS 105 (by decide) rfl), by decide⟩ ?_
                refine q_istore (ls1 := [some (.ref 105), some (.int i1), some (.int i2), some (.int i3), some (.int i4), some (.int x2_203), none]) (Nat.le_of_ble_eq_true rfl) rfl ?_
                refine q_iload rfl ?_
                refine q_iconst (15) (by decide) ?_
                refine q_iadd ?_
                refine q_iconst (16) (by decide) ?_
                refine q_idiv (by decide) ?_
                obtain ⟨v_216, nv_216, h⟩ := stI_some h
                refine q_eqi nv_216.symm ?_
                refine q_istore (ls1 := [some (.ref 105), some (.int i1), some (.int i2), some (.int i3), some (.int i4), some (.int x2_203), some (.int v_216)]) (Nat.le_of_ble_eq_true rfl) rfl ?_
                refine q_iload rfl ?_
                refine q_if_ne (fun c_219 => ?_) (fun c_219 => ?_)
                · rw [if_neg c_219] at h
                  refine K_of b_277_233 h_277_233 ?_
                  refine q_iload rfl ?_
                  refine q_end ?_
                  refine K_of b_277_235 h_277_235 ?_
                  cases h
                  exact q_iret rfl (Nat.le_refl _) (Nat.le_refl _) ⟨rfl, rfl⟩
                · rw [if_pos c_219] at h
                  refine q_iconst (16) (by decide) ?_
                  refine q_iload rfl ?_
                  refine q_imul ?_
                  refine q_iload rfl ?_
                  refine q_isub ?_
                  refine q_goto ?_
                  refine K_of b_277_235 h_277_235 ?_
                  cases h
                  exact q_iret rfl (Nat.le_refl _) (Nat.le_refl _) ⟨rfl, rfl⟩
              · rw [if_pos c_191] at h
                refine q_iconst (-1) (by decide) ?_
                cases h
                exact q_iret rfl (Nat.le_refl _) (Nat.le_refl _) ⟨rfl, rfl⟩
            · rw [if_pos c_179] at h
              refine q_iconst (1) (by decide) ?_
              refine q_goto ?_
              refine K_of b_277_187 h_277_187 ?_
              refine q_isub ?_
              obtain ⟨d_188, h⟩ := ite_some h
              obtain ⟨⟨x1_188, I1_188, L1_188⟩, e_188, h⟩ := Option.bind_eq_some_iff.mp h
              dsimp only at h
              refine q_fv4I (a_262 X hS (d := d - 1) (by omega) e_188) (by omega) (Nat.le_refl _) (Nat.le_refl _) rfl (Nat.le_of_ble_eq_true rfl) ⟨(zl hS 105 (by decide)), congrArg Prod.fst (sk hS 105 (by decide) rfl), by decide⟩ ?_
              refine q_if_ne (fun c_191 => ?_) (fun c_191 => ?_)
              · rw [if_neg c_191] at h
                refine K_of b_277_196 h_277_196 ?_
                refine q_aload rfl ?_
                refine q_iconst (16) (by decide) ?_
                refine q_putI (c0 := 12) (j := 48) rfl rfl (zl hS 105 (by decide)) (sk hS 105 (by decide) rfl) rfl ?_
                obtain ⟨I_199, nI_199, h⟩ := stI_some h
                refine q_nI nI_199 ?_
                refine q_aload rfl ?_
                obtain ⟨d_203, h⟩ := ite_some h
                obtain ⟨⟨x2_203, I2_203, L2_203⟩, e_203, h⟩ := Option.bind_eq_some_iff.mp h
                dsimp only at h
                refine q_fv1I (a_263 X hS (d := d - 1) (by omega) e_203) (by omega) (Nat.le_refl _) (Nat.le_refl _) rfl (Nat.le_of_ble_eq_true rfl) ⟨(zl hS 105 (by decide)), congrArg Prod.fst (sk hS 105 (by decide) rfl), by decide⟩ ?_
                refine q_istore (ls1 := [some (.ref 105), some (.int i1), some (.int i2), some (.int i3), some (.int i4), some (.int x2_203), none]) (Nat.le_of_ble_eq_true rfl) rfl ?_
                refine q_iload rfl ?_
                refine q_iconst (15) (by decide) ?_
                refine q_iadd ?_
                refine q_iconst (16) (by decide) ?_
                refine q_idiv (by decide) ?_
                obtain ⟨v_216, nv_216, h⟩ := stI_some h
                refine q_eqi nv_216.symm ?_
                refine q_istore (ls1 := [some (.ref 105), some (.int i1), some (.int i2), some (.int i3), some (.int i4), some (.int x2_203), some (.int v_216)]) (Nat.le_of_ble_eq_true rfl) rfl ?_
                refine q_iload rfl ?_
                refine q_if_ne (fun c_219 => ?_) (fun c_219 => ?_)
                · rw [if_neg c_219] at h
                  refine K_of b_277_233 h_277_233 ?_
                  refine q_iload rfl ?_
                  refine q_end ?_
                  refine K_of b_277_235 h_277_235 ?_
                  cases h
                  exact q_iret rfl (Nat.le_refl _) (Nat.le_refl _) ⟨rfl, rfl⟩
                · rw [if_pos c_219] at h
                  refine q_iconst (16) (by decide) ?_
                  refine q_iload rfl ?_
                  refine q_imul ?_
                  refine q_iload rfl ?_
                  refine q_isub ?_
                  refine q_goto ?_
                  refine K_of b_277_235 h_277_235 ?_
                  cases h
                  exact q_iret rfl (Nat.le_refl _) (Nat.le_refl _) ⟨rfl, rfl⟩
              · rw [if_pos c_191] at h
                refine q_iconst (-1) (by decide) ?_
                cases h
                exact q_iret rfl (Nat.le_refl _) (Nat.le_refl _) ⟨rfl, rfl⟩
      · rw [if_neg c_105] at h
        refine q_iload rfl ?_
        refine q_iload rfl ?_
        refine q_icmp_eq (fun c_111 => ?_) (fun c_111 => ?_)
        · rw [if_pos c_111] at h
          exact (ih dp d hdp _ _ i1 i2 i3 i4 i5 _ _ _).2.2 h
        · rw [if_neg c_111] at h
          refine q_aload rfl ?_
          refine q_getRs (c0 := 12) (j := 49) rfl rfl (zl hS 105 (by decide)) (sk hS 105 (by decide) rfl) rfl (by decide) (r_105_49 hS) ?_
          refine q_iload rfl ?_
          refine q_aload rfl ?_
          refine q_getRs (c0 := 12) (j := 55) rfl rfl (zl hS 105 (by decide)) (sk hS 105 (by decide) rfl) rfl (by decide) (r_105_55 hS) ?_
          refine q_iload rfl ?_
          obtain ⟨⟨u_126, v_126⟩, h⟩ := ite_some h
          refine q_ialN (Int32.toNatClampNeg i5) (nx u_126) (zl hS 134 (by decide)) (sk hS 134 (by decide) rfl) v_126 (by decide) ?_
          obtain ⟨⟨u_127, v_127⟩, h⟩ := ite_some h
          refine q_iasN (Int32.toNatClampNeg i4) (nx u_127) (zl hS 132 (by decide)) (sk hS 132 (by decide) rfl) v_127 (by decide) ?_
          obtain ⟨I_127, nI_127, h⟩ := stI_some h
          refine q_nI nI_127 ?_
          refine q_iinc (ls1 := [some (.ref 105), some (.int i1), some (.int i2), some (.int i3), some (.int (i4 + Int32.ofInt (1))), some (.int i5), none]) rfl rfl ?_
          refine q_end ?_
          exact (ih dp d hdp _ _ i1 i2 i3 (i4 + Int32.ofInt (1)) i5 _ _ _).2.2 h
    · intro h
      rw [e_277_2] at h
      refine K_of b_277_131 h_277_131 ?_
      refine q_iinc (ls1 := [some (.ref 105), some (.int i1), some (.int i2), some (.int i3), some (.int i4), some (.int (i5 + Int32.ofInt (1))), none]) rfl rfl ?_
      refine q_goto ?_
      exact (ih dp d hdp _ _ i1 i2 i3 i4 (i5 + Int32.ofInt (1)) _ _ _).2.1 h
theorem a_277 (X : GX) {z : Nat} {kd : Nat → Nat × Nat} {Rf : Nat → Nat → Option Nat} (hS : Sh z kd Rf) {n dp d : Nat} (hd : dp ≤ d) {I : (Nat → Nat → Int32)} {L : (Nat → Nat → Int64)} {i1 : Int32} {i2 : Int32} {I1 : (Nat → Nat → Int32)} {L1 : (Nat → Nat → Int64)} {r : Int32} (h : g_277 n dp (z, kd, Rf) 0 I L i1 i2 0 0 0 = some (r, I1, L1)) : Ct X d 277 0 0 [.ref 105, .int i1, .int i2] (z, kd, I, L, Rf) (AI (fun x τ => x = r ∧ τ = (z, kd, I1, L1, Rf))) :=
  Ct_of mu_277 (Nat.le_of_ble_eq_true rfl) ((w_277 X hS n dp d hd I L i1 i2 0 0 0 _ _ _).1 h)

/-! 278 CutFloorModel.give(II)I -/
set_option maxHeartbeats 4000000 in
set_option maxRecDepth 100000 in
def g_278 : Nat → Nat → EN → Nat → (Nat → Nat → Int32) → (Nat → Nat → Int64) → Int32 → Int32 →  Option (Int32 × (Nat → Nat → Int32) × (Nat → Nat → Int64))
  | 0, _, _, _, _, _, _, _ => none
  | n + 1, dp, e, lab, I, L, i1, i2 =>
    if lab = 0 then (stI (u2 I 105 0 (0 : Int32)) (fun I_2 => (if 1 ≤ dp then (g_193 n (dp - 1) e 0 I_2 L (Int32.toInt64 i1) (0 : Int64) (7 : Int64)).bind (fun ⟨x0_11, I0_11, L0_11⟩ => (if x0_11 = 0 then (if 1 ≤ dp then (g_194 n (dp - 1) e 0 I0_11 L0_11 (-1 : Int32)).bind (fun ⟨x1_43, I1_43, L1_43⟩ => (some (x1_43, I1_43, L1_43))) else none) else (if 1 ≤ dp then (g_193 n (dp - 1) e 0 I0_11 L0_11 (Int32.toInt64 i2) (0 : Int64) (63 : Int64)).bind (fun ⟨x1_23, I1_23, L1_23⟩ => (if x1_23 = 0 then (if 1 ≤ dp then (g_194 n (dp - 1) e 0 I1_23 L1_23 (-1 : Int32)).bind (fun ⟨x2_43, I2_43, L2_43⟩ => (some (x2_43, I2_43, L2_43))) else none) else (if 1 ≤ dp then (g_199 n (dp - 1) e 0 I1_23 L1_23 ((74 : Int32) + i1) i2).bind (fun ⟨x2_35, I2_35, L2_35⟩ => (some (x2_35, I2_35, L2_35))) else none))) else none))) else none)))
    else none
set_option maxRecDepth 100000 in
theorem e_278_0 (n dp : Nat) (e : EN) (I : (Nat → Nat → Int32)) (L : (Nat → Nat → Int64)) (i1 : Int32) (i2 : Int32) : g_278 (n + 1) dp e 0 I L i1 i2 = (stI (u2 I 105 0 (0 : Int32)) (fun I_2 => (if 1 ≤ dp then (g_193 n (dp - 1) e 0 I_2 L (Int32.toInt64 i1) (0 : Int64) (7 : Int64)).bind (fun ⟨x0_11, I0_11, L0_11⟩ => (if x0_11 = 0 then (if 1 ≤ dp then (g_194 n (dp - 1) e 0 I0_11 L0_11 (-1 : Int32)).bind (fun ⟨x1_43, I1_43, L1_43⟩ => (some (x1_43, I1_43, L1_43))) else none) else (if 1 ≤ dp then (g_193 n (dp - 1) e 0 I0_11 L0_11 (Int32.toInt64 i2) (0 : Int64) (63 : Int64)).bind (fun ⟨x1_23, I1_23, L1_23⟩ => (if x1_23 = 0 then (if 1 ≤ dp then (g_194 n (dp - 1) e 0 I1_23 L1_23 (-1 : Int32)).bind (fun ⟨x2_43, I2_43, L2_43⟩ => (some (x2_43, I2_43, L2_43))) else none) else (if 1 ≤ dp then (g_199 n (dp - 1) e 0 I1_23 L1_23 ((74 : Int32) + i1) i2).bind (fun ⟨x2_35, I2_35, L2_35⟩ => (some (x2_35, I2_35, L2_35))) else none))) else none))) else none))) := by rw [g_278.eq_2, if_pos (show (0 : Nat) = 0 from rfl)]
set_option maxHeartbeats 8000000 in
set_option maxRecDepth 100000 in
theorem w_278 (X : GX) {z : Nat} {kd : Nat → Nat × Nat} {Rf : Nat → Nat → Option Nat} (hS : Sh z kd Rf) : ∀ (n dp d : Nat), dp ≤ d → ∀ (I : (Nat → Nat → Int32)) (L : (Nat → Nat → Int64)) (i1 : Int32) (i2 : Int32) (r : Int32) (I1 : (Nat → Nat → Int32)) (L1 : (Nat → Nat → Int64)), (g_278 n dp (z, kd, Rf) 0 I L i1 i2 = some (r, I1, L1) → K X d 278 0 0 (AI (fun x τ => x = r ∧ τ = (z, kd, I1, L1, Rf))) 0 [some (.ref 105), some (.int i1), some (.int i2)] [] (z, kd, I, L, Rf) 0 0) := by
  intro n
  induction n with
  | zero => intro dp d hdp I L i1 i2 r I1 L1; exact fun h => by cases h
  | succ n ih =>
    intro dp d hdp I L i1 i2 r I1 L1
    · intro h
      rw [e_278_0] at h
      refine K_of b_278_0 h_278_0 ?_
      refine q_aload rfl ?_
      refine q_iconst (0) (by decide) ?_
      refine q_putI (c0 := 12) (j := 0) rfl rfl (zl hS 105 (by decide)) (sk hS 105 (by decide) rfl) rfl ?_
      obtain ⟨I_2, nI_2, h⟩ := stI_some h
      refine q_nI nI_2 ?_
      refine q_iload rfl ?_
      refine q_i2l ?_
      refine q_lconst (0) (by decide) ?_
      refine q_lconst (7) (by decide) ?_
      obtain ⟨d_11, h⟩ := ite_some h
      obtain ⟨⟨x0_11, I0_11, L0_11⟩, e_11, h⟩ := Option.bind_eq_some_iff.mp h
      dsimp only at h
      refine q_fs3I (a_193 X hS (d := d - 1) (by omega) e_11) (by omega) (Nat.le_refl _) (Nat.le_refl _) rfl (Nat.le_of_ble_eq_true rfl) ?_
      refine q_if_eq (fun c_14 => ?_) (fun c_14 => ?_)
      · rw [if_pos c_14] at h
        refine K_of b_278_41 h_278_41 ?_
        refine q_aload rfl ?_
        refine q_iconst (-1) (by decide) ?_
        obtain ⟨d_43, h⟩ := ite_some h
        obtain ⟨⟨x1_43, I1_43, L1_43⟩, e_43, h⟩ := Option.bind_eq_some_iff.mp h
        dsimp only at h
        refine q_fv2I (a_194 X hS (d := d - 1) (by omega) e_43) (by omega) (Nat.le_refl _) (Nat.le_refl _) rfl (Nat.le_of_ble_eq_true rfl) ⟨(zl hS 105 (by decide)), congrArg Prod.fst (sk hS 105 (by decide) rfl), by decide⟩ ?_
        refine q_end ?_
        refine K_of b_278_46 h_278_46 ?_
        cases h
        exact q_iret rfl (Nat.le_refl _) (Nat.le_refl _) ⟨rfl, rfl⟩
      · rw [if_neg c_14] at h
        refine q_iload rfl ?_
        refine q_i2l ?_
        refine q_lconst (0) (by decide) ?_
        refine q_lconst (63) (by decide) ?_
        obtain ⟨d_23, h⟩ := ite_some h
        obtain ⟨⟨x1_23, I1_23, L1_23⟩, e_23, h⟩ := Option.bind_eq_some_iff.mp h
        dsimp only at h
        refine q_fs3I (a_193 X hS (d := d - 1) (by omega) e_23) (by omega) (Nat.le_refl _) (Nat.le_refl _) rfl (Nat.le_of_ble_eq_true rfl) ?_
        refine q_if_eq (fun c_26 => ?_) (fun c_26 => ?_)
        · rw [if_pos c_26] at h
          refine K_of b_278_41 h_278_41 ?_
          refine q_aload rfl ?_
          refine q_iconst (-1) (by decide) ?_
          obtain ⟨d_43, h⟩ := ite_some h
          obtain ⟨⟨x2_43, I2_43, L2_43⟩, e_43, h⟩ := Option.bind_eq_some_iff.mp h
          dsimp only at h
          refine q_fv2I (a_194 X hS (d := d - 1) (by omega) e_43) (by omega) (Nat.le_refl _) (Nat.le_refl _) rfl (Nat.le_of_ble_eq_true rfl) ⟨(zl hS 105 (by decide)), congrArg Prod.fst (sk hS 105 (by decide) rfl), by decide⟩ ?_
          refine q_end ?_
          refine K_of b_278_46 h_278_46 ?_
          cases h
          exact q_iret rfl (Nat.le_refl _) (Nat.le_refl _) ⟨rfl, rfl⟩
        · rw [if_neg c_26] at h
          refine q_aload rfl ?_
          refine q_iconst (74) (by decide) ?_
          refine q_iload rfl ?_
          refine q_iadd ?_
          refine q_iload rfl ?_
          obtain ⟨d_35, h⟩ := ite_some h
          obtain ⟨⟨x2_35, I2_35, L2_35⟩, e_35, h⟩ := Option.bind_eq_some_iff.mp h
          dsimp only at h
          refine q_fv3I (a_199 X hS (d := d - 1) (by omega) e_35) (by omega) (Nat.le_refl _) (Nat.le_refl _) rfl (Nat.le_of_ble_eq_true rfl) ⟨(zl hS 105 (by decide)), congrArg Prod.fst (sk hS 105 (by decide) rfl), by decide⟩ ?_
          refine q_goto ?_
          refine K_of b_278_46 h_278_46 ?_
          cases h
          exact q_iret rfl (Nat.le_refl _) (Nat.le_refl _) ⟨rfl, rfl⟩
theorem a_278 (X : GX) {z : Nat} {kd : Nat → Nat × Nat} {Rf : Nat → Nat → Option Nat} (hS : Sh z kd Rf) {n dp d : Nat} (hd : dp ≤ d) {I : (Nat → Nat → Int32)} {L : (Nat → Nat → Int64)} {i1 : Int32} {i2 : Int32} {I1 : (Nat → Nat → Int32)} {L1 : (Nat → Nat → Int64)} {r : Int32} (h : g_278 n dp (z, kd, Rf) 0 I L i1 i2 = some (r, I1, L1)) : Ct X d 278 0 0 [.ref 105, .int i1, .int i2] (z, kd, I, L, Rf) (AI (fun x τ => x = r ∧ τ = (z, kd, I1, L1, Rf))) :=
  Ct_of mu_278 (Nat.le_of_ble_eq_true rfl) ((w_278 X hS n dp d hd I L i1 i2 _ _ _) h)

/-! 280 CutFloorModel.classAt(I)I -/
set_option maxHeartbeats 4000000 in
set_option maxRecDepth 100000 in
def g_280 : Nat → Nat → EN → Nat → (Nat → Nat → Int32) → (Nat → Nat → Int64) → Int32 →  Option (Int32 × (Nat → Nat → Int32) × (Nat → Nat → Int64))
  | 0, _, _, _, _, _, _ => none
  | n + 1, dp, e, lab, I, L, i1 =>
    if lab = 0 then (if (I 107 0) ≤ i1 then (if ((I 107 0) + (I 107 1)) ≤ i1 then (some ((2 : Int32), I, L)) else (some ((1 : Int32), I, L))) else (some ((0 : Int32), I, L)))
    else none
set_option maxRecDepth 100000 in
theorem e_280_0 (n dp : Nat) (e : EN) (I : (Nat → Nat → Int32)) (L : (Nat → Nat → Int64)) (i1 : Int32) : g_280 (n + 1) dp e 0 I L i1 = (if (I 107 0) ≤ i1 then (if ((I 107 0) + (I 107 1)) ≤ i1 then (some ((2 : Int32), I, L)) else (some ((1 : Int32), I, L))) else (some ((0 : Int32), I, L))) := by rw [g_280.eq_2, if_pos (show (0 : Nat) = 0 from rfl)]
set_option maxHeartbeats 8000000 in
set_option maxRecDepth 100000 in
theorem w_280 (X : GX) {z : Nat} {kd : Nat → Nat × Nat} {Rf : Nat → Nat → Option Nat} (hS : Sh z kd Rf) : ∀ (n dp d : Nat), dp ≤ d → ∀ (I : (Nat → Nat → Int32)) (L : (Nat → Nat → Int64)) (i1 : Int32) (r : Int32) (I1 : (Nat → Nat → Int32)) (L1 : (Nat → Nat → Int64)), (g_280 n dp (z, kd, Rf) 0 I L i1 = some (r, I1, L1) → K X d 280 0 0 (AI (fun x τ => x = r ∧ τ = (z, kd, I1, L1, Rf))) 0 [some (.ref 105), some (.int i1)] [] (z, kd, I, L, Rf) 0 0) := by
  intro n
  induction n with
  | zero => intro dp d hdp I L i1 r I1 L1; exact fun h => by cases h
  | succ n ih =>
    intro dp d hdp I L i1 r I1 L1
    · intro h
      rw [e_280_0] at h
      refine K_of b_280_0 h_280_0 ?_
      refine q_iload rfl ?_
      refine q_aload rfl ?_
      refine q_getRs (c0 := 12) (j := 3) rfl rfl (zl hS 105 (by decide)) (sk hS 105 (by decide) rfl) rfl (by decide) (r_105_3 hS) ?_
      refine q_iconst (0) (by decide) ?_
      refine q_ialN (0) rfl (zl hS 107 (by decide)) (sk hS 107 (by decide) rfl) (by decide) (by decide) ?_
      refine q_icmp_ge (fun c_7 => ?_) (fun c_7 => ?_)
      · rw [if_pos c_7] at h
        refine K_of b_280_14 h_280_14 ?_
        refine q_iload rfl ?_
        refine q_aload rfl ?_
        refine q_getRs (c0 := 12) (j := 3) rfl rfl (zl hS 105 (by decide)) (sk hS 105 (by decide) rfl) rfl (by decide) (r_105_3 hS) ?_
        refine q_iconst (0) (by decide) ?_
        refine q_ialN (0) rfl (zl hS 107 (by decide)) (sk hS 107 (by decide) rfl) (by decide) (by decide) ?_
        refine q_aload rfl ?_
        refine q_getRs (c0 := 12) (j := 3) rfl rfl (zl hS 105 (by decide)) (sk hS 105 (by decide) rfl) rfl (by decide) (r_105_3 hS) ?_
        refine q_iconst (1) (by decide) ?_
        refine q_ialN (1) rfl (zl hS 107 (by decide)) (sk hS 107 (by decide) rfl) (by decide) (by decide) ?_
        refine q_iadd ?_
        refine q_icmp_ge (fun c_28 => ?_) (fun c_28 => ?_)
        · rw [if_pos c_28] at h
          refine K_of b_280_35 h_280_35 ?_
          refine q_iconst (2) (by decide) ?_
          refine q_end ?_
          refine K_of b_280_36 h_280_36 ?_
          cases h
          exact q_iret rfl (Nat.le_refl _) (Nat.le_refl _) ⟨rfl, rfl⟩
        · rw [if_neg c_28] at h
          refine q_iconst (1) (by decide) ?_
          refine q_goto ?_
          refine K_of b_280_36 h_280_36 ?_
          cases h
          exact q_iret rfl (Nat.le_refl _) (Nat.le_refl _) ⟨rfl, rfl⟩
      · rw [if_neg c_7] at h
        refine q_iconst (0) (by decide) ?_
        refine q_goto ?_
        refine K_of b_280_36 h_280_36 ?_
        cases h
        exact q_iret rfl (Nat.le_refl _) (Nat.le_refl _) ⟨rfl, rfl⟩
theorem a_280 (X : GX) {z : Nat} {kd : Nat → Nat × Nat} {Rf : Nat → Nat → Option Nat} (hS : Sh z kd Rf) {n dp d : Nat} (hd : dp ≤ d) {I : (Nat → Nat → Int32)} {L : (Nat → Nat → Int64)} {i1 : Int32} {I1 : (Nat → Nat → Int32)} {L1 : (Nat → Nat → Int64)} {r : Int32} (h : g_280 n dp (z, kd, Rf) 0 I L i1 = some (r, I1, L1)) : Ct X d 280 0 0 [.ref 105, .int i1] (z, kd, I, L, Rf) (AI (fun x τ => x = r ∧ τ = (z, kd, I1, L1, Rf))) :=
  Ct_of mu_280 (Nat.le_of_ble_eq_true rfl) ((w_280 X hS n dp d hd I L i1 _ _ _) h)

/-! 281 CutFloorModel.toldOf(I)I -/
set_option maxHeartbeats 4000000 in
set_option maxRecDepth 100000 in
def g_281 : Nat → Nat → EN → Nat → (Nat → Nat → Int32) → (Nat → Nat → Int64) → Int32 →  Option (Int32 × (Nat → Nat → Int32) × (Nat → Nat → Int64))
  | 0, _, _, _, _, _, _ => none
  | n + 1, dp, e, lab, I, L, i1 =>
    if lab = 0 then (if 0 ≤ ((74 : Int32) + i1) ∧ (Int32.toNatClampNeg ((74 : Int32) + i1)) < 1570 then (if 1 ≤ dp then (g_280 n (dp - 1) e 0 I L i1).bind (fun ⟨x0_15, I0_15, L0_15⟩ => (if 0 ≤ x0_15 ∧ (Int32.toNatClampNeg x0_15) < 3 then (if (I0_15 120 (Int32.toNatClampNeg x0_15)) ≤ (I 107 (Int32.toNatClampNeg ((74 : Int32) + i1))) then (some ((0 : Int32), I0_15, L0_15)) else (if 0 ≤ ((74 : Int32) + i1) ∧ (Int32.toNatClampNeg ((74 : Int32) + i1)) < 1570 then (some ((I0_15 107 (Int32.toNatClampNeg ((74 : Int32) + i1))), I0_15, L0_15)) else none)) else none)) else none) else none)
    else none
set_option maxRecDepth 100000 in
theorem e_281_0 (n dp : Nat) (e : EN) (I : (Nat → Nat → Int32)) (L : (Nat → Nat → Int64)) (i1 : Int32) : g_281 (n + 1) dp e 0 I L i1 = (if 0 ≤ ((74 : Int32) + i1) ∧ (Int32.toNatClampNeg ((74 : Int32) + i1)) < 1570 then (if 1 ≤ dp then (g_280 n (dp - 1) e 0 I L i1).bind (fun ⟨x0_15, I0_15, L0_15⟩ => (if 0 ≤ x0_15 ∧ (Int32.toNatClampNeg x0_15) < 3 then (if (I0_15 120 (Int32.toNatClampNeg x0_15)) ≤ (I 107 (Int32.toNatClampNeg ((74 : Int32) + i1))) then (some ((0 : Int32), I0_15, L0_15)) else (if 0 ≤ ((74 : Int32) + i1) ∧ (Int32.toNatClampNeg ((74 : Int32) + i1)) < 1570 then (some ((I0_15 107 (Int32.toNatClampNeg ((74 : Int32) + i1))), I0_15, L0_15)) else none)) else none)) else none) else none) := by rw [g_281.eq_2, if_pos (show (0 : Nat) = 0 from rfl)]
set_option maxHeartbeats 8000000 in
set_option maxRecDepth 100000 in
theorem w_281 (X : GX) {z : Nat} {kd : Nat → Nat × Nat} {Rf : Nat → Nat → Option Nat} (hS : Sh z kd Rf) : ∀ (n dp d : Nat), dp ≤ d → ∀ (I : (Nat → Nat → Int32)) (L : (Nat → Nat → Int64)) (i1 : Int32) (r : Int32) (I1 : (Nat → Nat → Int32)) (L1 : (Nat → Nat → Int64)), (g_281 n dp (z, kd, Rf) 0 I L i1 = some (r, I1, L1) → K X d 281 0 0 (AI (fun x τ => x = r ∧ τ = (z, kd, I1, L1, Rf))) 0 [some (.ref 105), some (.int i1)] [] (z, kd, I, L, Rf) 0 0) := by
  intro n
  induction n with
  | zero => intro dp d hdp I L i1 r I1 L1; exact fun h => by cases h
  | succ n ih =>
    intro dp d hdp I L i1 r I1 L1
    · intro h
      rw [e_281_0] at h
      refine K_of b_281_0 h_281_0 ?_
      refine q_aload rfl ?_
      refine q_getRs (c0 := 12) (j := 3) rfl rfl (zl hS 105 (by decide)) (sk hS 105 (by decide) rfl) rfl (by decide) (r_105_3 hS) ?_
      refine q_iconst (74) (by decide) ?_
      refine q_iload rfl ?_
      refine q_iadd ?_
      obtain ⟨⟨u_8, v_8⟩, h⟩ := ite_some h
      refine q_ialN (Int32.toNatClampNeg ((74 : Int32) + i1)) (nx u_8) (zl hS 107 (by decide)) (sk hS 107 (by decide) rfl) v_8 (by decide) ?_
      refine q_aload rfl ?_
      refine q_getRs (c0 := 12) (j := 33) rfl rfl (zl hS 105 (by decide)) (sk hS 105 (by decide) rfl) rfl (by decide) (r_105_33 hS) ?_
      refine q_aload rfl ?_
      refine q_iload rfl ?_
      obtain ⟨d_15, h⟩ := ite_some h
      obtain ⟨⟨x0_15, I0_15, L0_15⟩, e_15, h⟩ := Option.bind_eq_some_iff.mp h
      dsimp only at h
      refine q_fv2I (a_280 X hS (d := d - 1) (by omega) e_15) (by omega) (Nat.le_refl _) (Nat.le_refl _) rfl (Nat.le_of_ble_eq_true rfl) ⟨(zl hS 105 (by decide)), congrArg Prod.fst (sk hS 105 (by decide) rfl), by decide⟩ ?_
      obtain ⟨⟨u_18, v_18⟩, h⟩ := ite_some h
      refine q_ialN (Int32.toNatClampNeg x0_15) (nx u_18) (zl hS 120 (by decide)) (sk hS 120 (by decide) rfl) v_18 (by decide) ?_
      refine q_icmp_ge (fun c_19 => ?_) (fun c_19 => ?_)
      · rw [if_pos c_19] at h
        refine K_of b_281_34 h_281_34 ?_
        refine q_iconst (0) (by decide) ?_
        refine q_end ?_
        refine K_of b_281_35 h_281_35 ?_
        cases h
        exact q_iret rfl (Nat.le_refl _) (Nat.le_refl _) ⟨rfl, rfl⟩
      · rw [if_neg c_19] at h
        refine q_aload rfl ?_
        refine q_getRs (c0 := 12) (j := 3) rfl rfl (zl hS 105 (by decide)) (sk hS 105 (by decide) rfl) rfl (by decide) (r_105_3 hS) ?_
        refine q_iconst (74) (by decide) ?_
        refine q_iload rfl ?_
        refine q_iadd ?_
        obtain ⟨⟨u_30, v_30⟩, h⟩ := ite_some h
        refine q_ialN (Int32.toNatClampNeg ((74 : Int32) + i1)) (nx u_30) (zl hS 107 (by decide)) (sk hS 107 (by decide) rfl) v_30 (by decide) ?_
        refine q_goto ?_
        refine K_of b_281_35 h_281_35 ?_
        cases h
        exact q_iret rfl (Nat.le_refl _) (Nat.le_refl _) ⟨rfl, rfl⟩
theorem a_281 (X : GX) {z : Nat} {kd : Nat → Nat × Nat} {Rf : Nat → Nat → Option Nat} (hS : Sh z kd Rf) {n dp d : Nat} (hd : dp ≤ d) {I : (Nat → Nat → Int32)} {L : (Nat → Nat → Int64)} {i1 : Int32} {I1 : (Nat → Nat → Int32)} {L1 : (Nat → Nat → Int64)} {r : Int32} (h : g_281 n dp (z, kd, Rf) 0 I L i1 = some (r, I1, L1)) : Ct X d 281 0 0 [.ref 105, .int i1] (z, kd, I, L, Rf) (AI (fun x τ => x = r ∧ τ = (z, kd, I1, L1, Rf))) :=
  Ct_of mu_281 (Nat.le_of_ble_eq_true rfl) ((w_281 X hS n dp d hd I L i1 _ _ _) h)

