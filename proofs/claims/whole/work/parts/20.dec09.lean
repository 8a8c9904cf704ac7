/-! 225 CutFloorModel.push(II)V -/
set_option maxHeartbeats 4000000 in
set_option maxRecDepth 100000 in
def g_225 : Nat → Nat → EN → Nat → (Nat → Nat → Int32) → (Nat → Nat → Int64) → Int32 → Int32 →  Option ((Nat → Nat → Int32) × (Nat → Nat → Int64))
  | 0, _, _, _, _, _, _, _ => none
  | n + 1, dp, e, lab, I, L, i1, i2 =>
    if lab = 0 then (if 0 ≤ (I 105 22) ∧ (Int32.toNatClampNeg (I 105 22)) < 400 then (stI (u2 I 114 (Int32.toNatClampNeg (I 105 22)) i1) (fun I_9 => (if 0 ≤ (I_9 105 22) ∧ (Int32.toNatClampNeg (I_9 105 22)) < 400 then (stI (u2 I_9 115 (Int32.toNatClampNeg (I_9 105 22)) i2) (fun I_19 => (stI (u2 I_19 105 22 ((I_19 105 22) + (1 : Int32))) (fun I_27 => (some (I_27, L)))))) else none))) else none)
    else none
set_option maxRecDepth 100000 in
theorem e_225_0 (n dp : Nat) (e : EN) (I : (Nat → Nat → Int32)) (L : (Nat → Nat → Int64)) (i1 : Int32) (i2 : Int32) : g_225 (n + 1) dp e 0 I L i1 i2 = (if 0 ≤ (I 105 22) ∧ (Int32.toNatClampNeg (I 105 22)) < 400 then (stI (u2 I 114 (Int32.toNatClampNeg (I 105 22)) i1) (fun I_9 => (if 0 ≤ (I_9 105 22) ∧ (Int32.toNatClampNeg (I_9 105 22)) < 400 then (stI (u2 I_9 115 (Int32.toNatClampNeg (I_9 105 22)) i2) (fun I_19 => (stI (u2 I_19 105 22 ((I_19 105 22) + (1 : Int32))) (fun I_27 => (some (I_27, L)))))) else none))) else none) := by rw [g_225.eq_2, if_pos (show (0 : Nat) = 0 from rfl)]
set_option maxHeartbeats 8000000 in
set_option maxRecDepth 100000 in
theorem w_225 (X : GX) {z : Nat} {kd : Nat → Nat × Nat} {Rf : Nat → Nat → Option Nat} (hS : Sh z kd Rf) : ∀ (n dp d : Nat), dp ≤ d → ∀ (I : (Nat → Nat → Int32)) (L : (Nat → Nat → Int64)) (i1 : Int32) (i2 : Int32) (I1 : (Nat → Nat → Int32)) (L1 : (Nat → Nat → Int64)), (g_225 n dp (z, kd, Rf) 0 I L i1 i2 = some (I1, L1) → K X d 225 0 0 (AV (fun τ => τ = (z, kd, I1, L1, Rf))) 0 [some (.ref 105), some (.int i1), some (.int i2)] [] (z, kd, I, L, Rf) 0 0) := by
  intro n
  induction n with
  | zero => intro dp d hdp I L i1 i2 I1 L1; exact fun h => by cases h
  | succ n ih =>
    intro dp d hdp I L i1 i2 I1 L1
    · intro h
      rw [e_225_0] at h
      refine K_of b_225_0 h_225_0 ?_
      refine q_aload rfl ?_
      refine q_getRs (c0 := 12) (j := 20) rfl rfl (zl hS 105 (by decide)) (sk hS 105 (by decide) rfl) rfl (by decide) (r_105_20 hS) ?_
      refine q_aload rfl ?_
      refine q_getI (c0 := 12) (j := 22) rfl rfl (zl hS 105 (by decide)) (sk hS 105 (by decide) rfl) (Or.inl rfl) (by decide) ?_
      refine q_iload rfl ?_
      obtain ⟨⟨u_9, v_9⟩, h⟩ := ite_some h
      refine q_iasN (Int32.toNatClampNeg (I 105 22)) (nx u_9) (zl hS 114 (by decide)) (sk hS 114 (by decide) rfl) v_9 (by decide) ?_
      obtain ⟨I_9, nI_9, h⟩ := stI_some h
      refine q_nI nI_9 ?_
      refine q_aload rfl ?_
      refine q_getRs (c0 := 12) (j := 21) rfl rfl (zl hS 105 (by decide)) (sk hS 105 (by decide) rfl) rfl (by decide) (r_105_21 hS) ?_
      refine q_aload rfl ?_
      refine q_getI (c0 := 12) (j := 22) rfl rfl (zl hS 105 (by decide)) (sk hS 105 (by decide) rfl) (Or.inl rfl) (by decide) ?_
      refine q_iload rfl ?_
      obtain ⟨⟨u_19, v_19⟩, h⟩ := ite_some h
      refine q_iasN (Int32.toNatClampNeg (I_9 105 22)) (nx u_19) (zl hS 115 (by decide)) (sk hS 115 (by decide) rfl) v_19 (by decide) ?_
      obtain ⟨I_19, nI_19, h⟩ := stI_some h
      refine q_nI nI_19 ?_
      refine q_aload rfl ?_
      refine q_dup rfl ?_
      refine q_getI (c0 := 12) (j := 22) rfl rfl (zl hS 105 (by decide)) (sk hS 105 (by decide) rfl) (Or.inl rfl) (by decide) ?_
      refine q_iconst (1) (by decide) ?_
      refine q_iadd ?_
      refine q_putI (c0 := 12) (j := 22) rfl rfl (zl hS 105 (by decide)) (sk hS 105 (by decide) rfl) rfl ?_
      obtain ⟨I_27, nI_27, h⟩ := stI_some h
      refine q_nI nI_27 ?_
      cases h
      exact q_vret rfl (Nat.le_refl _) (Nat.le_refl _) rfl
theorem a_225 (X : GX) {z : Nat} {kd : Nat → Nat × Nat} {Rf : Nat → Nat → Option Nat} (hS : Sh z kd Rf) {n dp d : Nat} (hd : dp ≤ d) {I : (Nat → Nat → Int32)} {L : (Nat → Nat → Int64)} {i1 : Int32} {i2 : Int32} {I1 : (Nat → Nat → Int32)} {L1 : (Nat → Nat → Int64)} (h : g_225 n dp (z, kd, Rf) 0 I L i1 i2 = some (I1, L1)) : Ct X d 225 0 0 [.ref 105, .int i1, .int i2] (z, kd, I, L, Rf) (AV (fun τ => τ = (z, kd, I1, L1, Rf))) :=
  Ct_of mu_225 (Nat.le_of_ble_eq_true rfl) ((w_225 X hS n dp d hd I L i1 i2 _ _) h)

/-! 226 CutFloorModel.isSign(I)Z -/
set_option maxHeartbeats 4000000 in
set_option maxRecDepth 100000 in
def g_226 : Nat → Nat → EN → Nat → (Nat → Nat → Int32) → (Nat → Nat → Int64) → Int32 →  Option (Int32 × (Nat → Nat → Int32) × (Nat → Nat → Int64))
  | 0, _, _, _, _, _, _ => none
  | n + 1, dp, e, lab, I, L, i1 =>
    if lab = 0 then (if (I 105 10) = (3 : Int32) then (if (lg_cmp (L 105 11) (Int32.toInt64 i1)) = 0 then (some ((1 : Int32), I, L)) else (some ((0 : Int32), I, L))) else (some ((0 : Int32), I, L)))
    else none
set_option maxRecDepth 100000 in
theorem e_226_0 (n dp : Nat) (e : EN) (I : (Nat → Nat → Int32)) (L : (Nat → Nat → Int64)) (i1 : Int32) : g_226 (n + 1) dp e 0 I L i1 = (if (I 105 10) = (3 : Int32) then (if (lg_cmp (L 105 11) (Int32.toInt64 i1)) = 0 then (some ((1 : Int32), I, L)) else (some ((0 : Int32), I, L))) else (some ((0 : Int32), I, L))) := by rw [g_226.eq_2, if_pos (show (0 : Nat) = 0 from rfl)]
set_option maxHeartbeats 8000000 in
set_option maxRecDepth 100000 in
theorem w_226 (X : GX) {z : Nat} {kd : Nat → Nat × Nat} {Rf : Nat → Nat → Option Nat} (hS : Sh z kd Rf) : ∀ (n dp d : Nat), dp ≤ d → ∀ (I : (Nat → Nat → Int32)) (L : (Nat → Nat → Int64)) (i1 : Int32) (r : Int32) (I1 : (Nat → Nat → Int32)) (L1 : (Nat → Nat → Int64)), (g_226 n dp (z, kd, Rf) 0 I L i1 = some (r, I1, L1) → K X d 226 0 0 (AI (fun x τ => x = r ∧ τ = (z, kd, I1, L1, Rf))) 0 [some (.ref 105), some (.int i1)] [] (z, kd, I, L, Rf) 0 0) := by
  intro n
  induction n with
  | zero => intro dp d hdp I L i1 r I1 L1; exact fun h => by cases h
  | succ n ih =>
    intro dp d hdp I L i1 r I1 L1
    · intro h
      rw [e_226_0] at h
      refine K_of b_226_0 h_226_0 ?_
      refine q_aload rfl ?_
      refine q_getI (c0 := 12) (j := 10) rfl rfl (zl hS 105 (by decide)) (sk hS 105 (by decide) rfl) (Or.inl rfl) (by decide) ?_
      refine q_iconst (3) (by decide) ?_
      refine q_icmp_ne (fun c_5 => ?_) (fun c_5 => ?_)
      · rw [if_neg c_5] at h
        refine K_of b_226_22 h_226_22 ?_
        refine q_iconst (0) (by decide) ?_
        refine q_end ?_
        refine K_of b_226_23 h_226_23 ?_
        cases h
        exact q_iret rfl (Nat.le_refl _) (Nat.le_refl _) ⟨rfl, rfl⟩
      · rw [if_pos c_5] at h
        refine q_aload rfl ?_
        refine q_getL (c0 := 12) (j := 11) rfl rfl (zl hS 105 (by decide)) (sk hS 105 (by decide) rfl) rfl (by decide) ?_
        refine q_iload rfl ?_
        refine q_i2l ?_
        refine q_lcmp ?_
        refine q_if_ne (fun c_15 => ?_) (fun c_15 => ?_)
        · rw [if_neg c_15] at h
          refine K_of b_226_22 h_226_22 ?_
          refine q_iconst (0) (by decide) ?_
          refine q_end ?_
          refine K_of b_226_23 h_226_23 ?_
          cases h
          exact q_iret rfl (Nat.le_refl _) (Nat.le_refl _) ⟨rfl, rfl⟩
        · rw [if_pos c_15] at h
          refine q_iconst (1) (by decide) ?_
          refine q_goto ?_
          refine K_of b_226_23 h_226_23 ?_
          cases h
          exact q_iret rfl (Nat.le_refl _) (Nat.le_refl _) ⟨rfl, rfl⟩
theorem a_226 (X : GX) {z : Nat} {kd : Nat → Nat × Nat} {Rf : Nat → Nat → Option Nat} (hS : Sh z kd Rf) {n dp d : Nat} (hd : dp ≤ d) {I : (Nat → Nat → Int32)} {L : (Nat → Nat → Int64)} {i1 : Int32} {I1 : (Nat → Nat → Int32)} {L1 : (Nat → Nat → Int64)} {r : Int32} (h : g_226 n dp (z, kd, Rf) 0 I L i1 = some (r, I1, L1)) : Ct X d 226 0 0 [.ref 105, .int i1] (z, kd, I, L, Rf) (AI (fun x τ => x = r ∧ τ = (z, kd, I1, L1, Rf))) :=
  Ct_of mu_226 (Nat.le_of_ble_eq_true rfl) ((w_226 X hS n dp d hd I L i1 _ _ _) h)

/-! 227 CutFloorModel.openBracket(I)V -/
set_option maxHeartbeats 4000000 in
set_option maxRecDepth 100000 in
def g_227 : Nat → Nat → EN → Nat → (Nat → Nat → Int32) → (Nat → Nat → Int64) → Int32 →  Option ((Nat → Nat → Int32) × (Nat → Nat → Int64))
  | 0, _, _, _, _, _, _ => none
  | n + 1, dp, e, lab, I, L, i1 =>
    if lab = 0 then (if (8 : Int32) ≤ (I 105 23) then (if 1 ≤ dp then (g_219 n (dp - 1) e 0 I L (0 : Int32)).bind (fun ⟨I0_15, L0_15⟩ => (if (I0_15 105 13) = 0 then (stI (u2 I0_15 105 23 ((I0_15 105 23) + (1 : Int32))) (fun I_32 => (if 1 ≤ dp then (g_225 n (dp - 1) e 0 I_32 L0_15 i1 (0 : Int32)).bind (fun ⟨I1_38, L1_38⟩ => (some (I1_38, L1_38))) else none))) else (some (I0_15, L0_15)))) else none) else (if 1 ≤ dp then (g_219 n (dp - 1) e 0 I L (1 : Int32)).bind (fun ⟨I0_15, L0_15⟩ => (if (I0_15 105 13) = 0 then (stI (u2 I0_15 105 23 ((I0_15 105 23) + (1 : Int32))) (fun I_32 => (if 1 ≤ dp then (g_225 n (dp - 1) e 0 I_32 L0_15 i1 (0 : Int32)).bind (fun ⟨I1_38, L1_38⟩ => (some (I1_38, L1_38))) else none))) else (some (I0_15, L0_15)))) else none))
    else none
set_option maxRecDepth 100000 in
theorem e_227_0 (n dp : Nat) (e : EN) (I : (Nat → Nat → Int32)) (L : (Nat → Nat → Int64)) (i1 : Int32) : g_227 (n + 1) dp e 0 I L i1 = (if (8 : Int32) ≤ (I 105 23) then (if 1 ≤ dp then (g_219 n (dp - 1) e 0 I L (0 : Int32)).bind (fun ⟨I0_15, L0_15⟩ => (if (I0_15 105 13) = 0 then (stI (u2 I0_15 105 23 ((I0_15 105 23) + (1 : Int32))) (fun I_32 => (if 1 ≤ dp then (g_225 n (dp - 1) e 0 I_32 L0_15 i1 (0 : Int32)).bind (fun ⟨I1_38, L1_38⟩ => (some (I1_38, L1_38))) else none))) else (some (I0_15, L0_15)))) else none) else (if 1 ≤ dp then (g_219 n (dp - 1) e 0 I L (1 : Int32)).bind (fun ⟨I0_15, L0_15⟩ => (if (I0_15 105 13) = 0 then (stI (u2 I0_15 105 23 ((I0_15 105 23) + (1 : Int32))) (fun I_32 => (if 1 ≤ dp then (g_225 n (dp - 1) e 0 I_32 L0_15 i1 (0 : Int32)).bind (fun ⟨I1_38, L1_38⟩ => (some (I1_38, L1_38))) else none))) else (some (I0_15, L0_15)))) else none)) := by rw [g_227.eq_2, if_pos (show (0 : Nat) = 0 from rfl)]
set_option maxHeartbeats 8000000 in
set_option maxRecDepth 100000 in
theorem w_227 (X : GX) {z : Nat} {kd : Nat → Nat × Nat} {Rf : Nat → Nat → Option Nat} (hS : Sh z kd Rf) : ∀ (n dp d : Nat), dp ≤ d → ∀ (I : (Nat → Nat → Int32)) (L : (Nat → Nat → Int64)) (i1 : Int32) (I1 : (Nat → Nat → Int32)) (L1 : (Nat → Nat → Int64)), (g_227 n dp (z, kd, Rf) 0 I L i1 = some (I1, L1) → K X d 227 0 0 (AV (fun τ => τ = (z, kd, I1, L1, Rf))) 0 [some (.ref 105), some (.int i1)] [] (z, kd, I, L, Rf) 0 0) := by
  intro n
  induction n with
  | zero => intro dp d hdp I L i1 I1 L1; exact fun h => by cases h
  | succ n ih =>
    intro dp d hdp I L i1 I1 L1
    · intro h
      rw [e_227_0] at h
      refine K_of b_227_0 h_227_0 ?_
      refine q_aload rfl ?_
      refine q_aload rfl ?_
      refine q_getI (c0 := 12) (j := 23) rfl rfl (zl hS 105 (by decide)) (sk hS 105 (by decide) rfl) (Or.inl rfl) (by decide) ?_
      refine q_iconst (8) (by decide) ?_
      refine q_icmp_ge (fun c_7 => ?_) (fun c_7 => ?_)
      · rw [if_pos c_7] at h
        refine K_of b_227_14 h_227_14 ?_
        refine q_iconst (0) (by decide) ?_
        refine q_end ?_
        refine K_of b_227_15 h_227_15 ?_
        obtain ⟨d_15, h⟩ := ite_some h
        obtain ⟨⟨I0_15, L0_15⟩, e_15, h⟩ := Option.bind_eq_some_iff.mp h
        dsimp only at h
        refine q_fv2V (a_219 X hS (d := d - 1) (by omega) e_15) (by omega) (Nat.le_refl _) (Nat.le_refl _) rfl (Nat.le_of_ble_eq_true rfl) ⟨(zl hS 105 (by decide)), congrArg Prod.fst (sk hS 105 (by decide) rfl), by decide⟩ ?_
        refine q_aload rfl ?_
        refine q_getI (c0 := 12) (j := 13) rfl rfl (zl hS 105 (by decide)) (sk hS 105 (by decide) rfl) (Or.inr rfl) (by decide) ?_
        refine q_if_ne (fun c_22 => ?_) (fun c_22 => ?_)
        · rw [if_neg c_22] at h
          refine K_of b_227_41 h_227_41 ?_
          cases h
          exact q_vret rfl (Nat.le_refl _) (Nat.le_refl _) rfl
        · rw [if_pos c_22] at h
          refine q_aload rfl ?_
          refine q_dup rfl ?_
          refine q_getI (c0 := 12) (j := 23) rfl rfl (zl hS 105 (by decide)) (sk hS 105 (by decide) rfl) (Or.inl rfl) (by decide) ?_
          refine q_iconst (1) (by decide) ?_
          refine q_iadd ?_
          refine q_putI (c0 := 12) (j := 23) rfl rfl (zl hS 105 (by decide)) (sk hS 105 (by decide) rfl) rfl ?_
          obtain ⟨I_32, nI_32, h⟩ := stI_some h
          refine q_nI nI_32 ?_
          refine q_aload rfl ?_
          refine q_iload rfl ?_
          refine q_iconst (0) (by decide) ?_
          obtain ⟨d_38, h⟩ := ite_some h
          obtain ⟨⟨I1_38, L1_38⟩, e_38, h⟩ := Option.bind_eq_some_iff.mp h
          dsimp only at h
          refine q_fv3V (a_225 X hS (d := d - 1) (by omega) e_38) (by omega) (Nat.le_refl _) (Nat.le_refl _) rfl (Nat.le_of_ble_eq_true rfl) ⟨(zl hS 105 (by decide)), congrArg Prod.fst (sk hS 105 (by decide) rfl), by decide⟩ ?_
          refine q_end ?_
          refine K_of b_227_41 h_227_41 ?_
          cases h
          exact q_vret rfl (Nat.le_refl _) (Nat.le_refl _) rfl
      · rw [if_neg c_7] at h
        refine q_iconst (1) (by decide) ?_
        refine q_goto ?_
        refine K_of b_227_15 h_227_15 ?_
        obtain ⟨d_15, h⟩ := ite_some h
        obtain ⟨⟨I0_15, L0_15⟩, e_15, h⟩ := Option.bind_eq_some_iff.mp h
        dsimp only at h
        refine q_fv2V (a_219 X hS (d := d - 1) (by omega) e_15) (by omega) (Nat.le_refl _) (Nat.le_refl _) rfl (Nat.le_of_ble_eq_true rfl) ⟨(zl hS 105 (by decide)), congrArg Prod.fst (sk hS 105 (by decide) rfl), by decide⟩ ?_
        refine q_aload rfl ?_
        refine q_getI (c0 := 12) (j := 13) rfl rfl (zl hS 105 (by decide)) (sk hS 105 (by decide) rfl) (Or.inr rfl) (by decide) ?_
        refine q_if_ne (fun c_22 => ?_) (fun c_22 => ?_)
        · rw [if_neg c_22] at h
          refine K_of b_227_41 h_227_41 ?_
          cases h
          exact q_vret rfl (Nat.le_refl _) (Nat.le_refl _) rfl
        · rw [if_pos c_22] at h
          refine q_aload rfl ?_
          refine q_dup rfl ?_
          refine q_getI (c0 := 12) (j := 23) rfl rfl (zl hS 105 (by decide)) (sk hS 105 (by decide) rfl) (Or.inl rfl) (by decide) ?_
          refine q_iconst (1) (by decide) ?_
          refine q_iadd ?_
          refine q_putI (c0 := 12) (j := 23) rfl rfl (zl hS 105 (by decide)) (sk hS 105 (by decide) rfl) rfl ?_
          obtain ⟨I_32, nI_32, h⟩ := stI_some h
          refine q_nI nI_32 ?_
          refine q_aload rfl ?_
          refine q_iload rfl ?_
          refine q_iconst (0) (by decide) ?_
          obtain ⟨d_38, h⟩ := ite_some h
          obtain ⟨⟨I1_38, L1_38⟩, e_38, h⟩ := Option.bind_eq_some_iff.mp h
          dsimp only at h
          refine q_fv3V (a_225 X hS (d := d - 1) (by omega) e_38) (by omega) (Nat.le_refl _) (Nat.le_refl _) rfl (Nat.le_of_ble_eq_true rfl) ⟨(zl hS 105 (by decide)), congrArg Prod.fst (sk hS 105 (by decide) rfl), by decide⟩ ?_
          refine q_end ?_
          refine K_of b_227_41 h_227_41 ?_
          cases h
          exact q_vret rfl (Nat.le_refl _) (Nat.le_refl _) rfl
theorem a_227 (X : GX) {z : Nat} {kd : Nat → Nat × Nat} {Rf : Nat → Nat → Option Nat} (hS : Sh z kd Rf) {n dp d : Nat} (hd : dp ≤ d) {I : (Nat → Nat → Int32)} {L : (Nat → Nat → Int64)} {i1 : Int32} {I1 : (Nat → Nat → Int32)} {L1 : (Nat → Nat → Int64)} (h : g_227 n dp (z, kd, Rf) 0 I L i1 = some (I1, L1)) : Ct X d 227 0 0 [.ref 105, .int i1] (z, kd, I, L, Rf) (AV (fun τ => τ = (z, kd, I1, L1, Rf))) :=
  Ct_of mu_227 (Nat.le_of_ble_eq_true rfl) ((w_227 X hS n dp d hd I L i1 _ _) h)

/-! 229 CutFloorModel.partAt()I -/
set_option maxHeartbeats 4000000 in
set_option maxRecDepth 100000 in
def g_229 : Nat → Nat → EN → Nat → (Nat → Nat → Int32) → (Nat → Nat → Int64) → Int32 → Int32 →  Option (Int32 × (Nat → Nat → Int32) × (Nat → Nat → Int64))
  | 0, _, _, _, _, _, _, _ => none
  | n + 1, dp, e, lab, I, L, i1, i2 =>
    if lab = 0 then (g_229 n dp e 1 I L (-1 : Int32) (0 : Int32))
    else if lab = 1 then (if (5 : Int32) ≤ i2 then (some (i1, I, L)) else (if 0 ≤ i2 ∧ (Int32.toNatClampNeg i2) < 5 then (if 1 ≤ dp then (g_218 n (dp - 1) e 0 I L (L 116 (Int32.toNatClampNeg i2))).bind (fun ⟨x0_16, I0_16, L0_16⟩ => (if x0_16 = 0 then (g_229 n dp e 1 I0_16 L0_16 i1 (i2 + Int32.ofInt (1))) else (g_229 n dp e 1 I0_16 L0_16 (i2 + (1 : Int32)) (i2 + Int32.ofInt (1))))) else none) else none))
    else none
set_option maxRecDepth 100000 in
theorem e_229_0 (n dp : Nat) (e : EN) (I : (Nat → Nat → Int32)) (L : (Nat → Nat → Int64)) (i1 : Int32) (i2 : Int32) : g_229 (n + 1) dp e 0 I L i1 i2 = (g_229 n dp e 1 I L (-1 : Int32) (0 : Int32)) := by rw [g_229.eq_2, if_pos (show (0 : Nat) = 0 from rfl)]
set_option maxRecDepth 100000 in
theorem e_229_1 (n dp : Nat) (e : EN) (I : (Nat → Nat → Int32)) (L : (Nat → Nat → Int64)) (i1 : Int32) (i2 : Int32) : g_229 (n + 1) dp e 1 I L i1 i2 = (if (5 : Int32) ≤ i2 then (some (i1, I, L)) else (if 0 ≤ i2 ∧ (Int32.toNatClampNeg i2) < 5 then (if 1 ≤ dp then (g_218 n (dp - 1) e 0 I L (L 116 (Int32.toNatClampNeg i2))).bind (fun ⟨x0_16, I0_16, L0_16⟩ => (if x0_16 = 0 then (g_229 n dp e 1 I0_16 L0_16 i1 (i2 + Int32.ofInt (1))) else (g_229 n dp e 1 I0_16 L0_16 (i2 + (1 : Int32)) (i2 + Int32.ofInt (1))))) else none) else none)) := by rw [g_229.eq_2, if_neg (show ¬ ((1 : Nat) = 0) by decide), if_pos (show (1 : Nat) = 1 from rfl)]
set_option maxHeartbeats 8000000 in
set_option maxRecDepth 100000 in
theorem w_229 (X : GX) {z : Nat} {kd : Nat → Nat × Nat} {Rf : Nat → Nat → Option Nat} (hS : Sh z kd Rf) : ∀ (n dp d : Nat), dp ≤ d → ∀ (I : (Nat → Nat → Int32)) (L : (Nat → Nat → Int64)) (i1 : Int32) (i2 : Int32) (r : Int32) (I1 : (Nat → Nat → Int32)) (L1 : (Nat → Nat → Int64)), (g_229 n dp (z, kd, Rf) 0 I L i1 i2 = some (r, I1, L1) → K X d 229 0 0 (AI (fun x τ => x = r ∧ τ = (z, kd, I1, L1, Rf))) 0 [some (.ref 105), none, none] [] (z, kd, I, L, Rf) 0 0) ∧
    (g_229 n dp (z, kd, Rf) 1 I L i1 i2 = some (r, I1, L1) → K X d 229 0 0 (AI (fun x τ => x = r ∧ τ = (z, kd, I1, L1, Rf))) 4 [some (.ref 105), some (.int i1), some (.int i2)] [] (z, kd, I, L, Rf) 0 0) := by
  intro n
  induction n with
  | zero => intro dp d hdp I L i1 i2 r I1 L1; exact ⟨(fun h => by cases h), (fun h => by cases h)⟩
  | succ n ih =>
    intro dp d hdp I L i1 i2 r I1 L1
    refine ⟨?_, ?_⟩
    · intro h
      rw [e_229_0] at h
      refine K_of b_229_0 h_229_0 ?_
      refine q_iconst (-1) (by decide) ?_
      refine q_istore (ls1 := [some (.ref 105), some (.int (-1 : Int32)), none]) (Nat.le_of_ble_eq_true rfl) rfl ?_
      refine q_iconst (0) (by decide) ?_
      refine q_istore (ls1 := [some (.ref 105), some (.int (-1 : Int32)), some (.int (0 : Int32))]) (Nat.le_of_ble_eq_true rfl) rfl ?_
      refine q_end ?_
      exact (ih dp d hdp _ _ (-1 : Int32) (0 : Int32) _ _ _).2 h
    · intro h
      rw [e_229_1] at h
      refine K_of b_229_4 h_229_4 ?_
      refine q_iload rfl ?_
      refine q_iconst (5) (by decide) ?_
      refine q_icmp_ge (fun c_6 => ?_) (fun c_6 => ?_)
      · rw [if_pos c_6] at h
        refine K_of b_229_36 h_229_36 ?_
        refine q_iload rfl ?_
        cases h
        exact q_iret rfl (Nat.le_refl _) (Nat.le_refl _) ⟨rfl, rfl⟩
      · rw [if_neg c_6] at h
        refine q_aload rfl ?_
        refine q_aload rfl ?_
        refine q_getRs (c0 := 12) (j := 24) rfl rfl (zl hS 105 (by decide)) (sk hS 105 (by decide) rfl) rfl (by decide) (r_105_24 hS) ?_
        refine q_iload rfl ?_
        obtain ⟨⟨u_15, v_15⟩, h⟩ := ite_some h
        refine q_lalN (Int32.toNatClampNeg i2) (nx u_15) (zl hS 116 (by decide)) (sk hS 116 (by decide) rfl) v_15 (by decide) ?_
        obtain ⟨d_16, h⟩ := ite_some h
        obtain ⟨⟨x0_16, I0_16, L0_16⟩, e_16, h⟩ := Option.bind_eq_some_iff.mp h
        dsimp only at h
        refine q_fv2I (a_218 X hS (d := d - 1) (by omega) e_16) (by omega) (Nat.le_refl _) (Nat.le_refl _) rfl (Nat.le_of_ble_eq_true rfl) ⟨(zl hS 105 (by decide)), congrArg Prod.fst (sk hS 105 (by decide) rfl), by decide⟩ ?_
        refine q_if_eq (fun c_19 => ?_) (fun c_19 => ?_)
        · rw [if_pos c_19] at h
          refine K_of b_229_28 h_229_28 ?_
          refine q_iload rfl ?_
          refine q_end ?_
          refine K_of b_229_29 h_229_29 ?_
          refine q_istore (ls1 := [some (.ref 105), some (.int i1), some (.int i2)]) (Nat.le_of_ble_eq_true rfl) rfl ?_
          refine q_iinc (ls1 := [some (.ref 105), some (.int i1), some (.int (i2 + Int32.ofInt (1)))]) rfl rfl ?_
          refine q_goto ?_
          exact (ih dp d hdp _ _ i1 (i2 + Int32.ofInt (1)) _ _ _).2 h
        · rw [if_neg c_19] at h
          refine q_iload rfl ?_
          refine q_iconst (1) (by decide) ?_
          refine q_iadd ?_
          refine q_goto ?_
          refine K_of b_229_29 h_229_29 ?_
          refine q_istore (ls1 := [some (.ref 105), some (.int (i2 + (1 : Int32))), some (.int i2)]) (Nat.le_of_ble_eq_true rfl) rfl ?_
          refine q_iinc (ls1 := [some (.ref 105), some (.int (i2 + (1 : Int32))), some (.int (i2 + Int32.ofInt (1)))]) rfl rfl ?_
          refine q_goto ?_
          exact (ih dp d hdp _ _ (i2 + (1 : Int32)) (i2 + Int32.ofInt (1)) _ _ _).2 h
theorem a_229 (X : GX) {z : Nat} {kd : Nat → Nat × Nat} {Rf : Nat → Nat → Option Nat} (hS : Sh z kd Rf) {n dp d : Nat} (hd : dp ≤ d) {I : (Nat → Nat → Int32)} {L : (Nat → Nat → Int64)} {I1 : (Nat → Nat → Int32)} {L1 : (Nat → Nat → Int64)} {r : Int32} (h : g_229 n dp (z, kd, Rf) 0 I L 0 0 = some (r, I1, L1)) : Ct X d 229 0 0 [.ref 105] (z, kd, I, L, Rf) (AI (fun x τ => x = r ∧ τ = (z, kd, I1, L1, Rf))) :=
  Ct_of mu_229 (Nat.le_of_ble_eq_true rfl) ((w_229 X hS n dp d hd I L 0 0 _ _ _).1 h)

/-! 231 CutFloorModel.emit(II)V -/
set_option maxHeartbeats 4000000 in
set_option maxRecDepth 100000 in
def g_231 : Nat → Nat → EN → Nat → (Nat → Nat → Int32) → (Nat → Nat → Int64) → Int32 → Int32 →  Option ((Nat → Nat → Int32) × (Nat → Nat → Int64))
  | 0, _, _, _, _, _, _, _ => none
  | n + 1, dp, e, lab, I, L, i1, i2 =>
    if lab = 0 then (if 0 ≤ (I 105 16) ∧ (Int32.toNatClampNeg (I 105 16)) < 400 then (stI (u2 I 112 (Int32.toNatClampNeg (I 105 16)) i1) (fun I_9 => (if 0 ≤ (I_9 105 16) ∧ (Int32.toNatClampNeg (I_9 105 16)) < 400 then (stI (u2 I_9 113 (Int32.toNatClampNeg (I_9 105 16)) i2) (fun I_19 => (stI (u2 I_19 105 16 ((I_19 105 16) + (1 : Int32))) (fun I_27 => (some (I_27, L)))))) else none))) else none)
    else none
set_option maxRecDepth 100000 in
theorem e_231_0 (n dp : Nat) (e : EN) (I : (Nat → Nat → Int32)) (L : (Nat → Nat → Int64)) (i1 : Int32) (i2 : Int32) : g_231 (n + 1) dp e 0 I L i1 i2 = (if 0 ≤ (I 105 16) ∧ (Int32.toNatClampNeg (I 105 16)) < 400 then (stI (u2 I 112 (Int32.toNatClampNeg (I 105 16)) i1) (fun I_9 => (if 0 ≤ (I_9 105 16) ∧ (Int32.toNatClampNeg (I_9 105 16)) < 400 then (stI (u2 I_9 113 (Int32.toNatClampNeg (I_9 105 16)) i2) (fun I_19 => (stI (u2 I_19 105 16 ((I_19 105 16) + (1 : Int32))) (fun I_27 => (some (I_27, L)))))) else none))) else none) := by rw [g_231.eq_2, if_pos (show (0 : Nat) = 0 from rfl)]
set_option maxHeartbeats 8000000 in
set_option maxRecDepth 100000 in
theorem w_231 (X : GX) {z : Nat} {kd : Nat → Nat × Nat} {Rf : Nat → Nat → Option Nat} (hS : Sh z kd Rf) : ∀ (n dp d : Nat), dp ≤ d → ∀ (I : (Nat → Nat → Int32)) (L : (Nat → Nat → Int64)) (i1 : Int32) (i2 : Int32) (I1 : (Nat → Nat → Int32)) (L1 : (Nat → Nat → Int64)), (g_231 n dp (z, kd, Rf) 0 I L i1 i2 = some (I1, L1) → K X d 231 0 0 (AV (fun τ => τ = (z, kd, I1, L1, Rf))) 0 [some (.ref 105), some (.int i1), some (.int i2)] [] (z, kd, I, L, Rf) 0 0) := by
  intro n
  induction n with
  | zero => intro dp d hdp I L i1 i2 I1 L1; exact fun h => by cases h
  | succ n ih =>
    intro dp d hdp I L i1 i2 I1 L1
    · intro h
      rw [e_231_0] at h
      refine K_of b_231_0 h_231_0 ?_
      refine q_aload rfl ?_
      refine q_getRs (c0 := 12) (j := 17) rfl rfl (zl hS 105 (by decide)) (sk hS 105 (by decide) rfl) rfl (by decide) (r_105_17 hS) ?_
      refine q_aload rfl ?_
      refine q_getI (c0 := 12) (j := 16) rfl rfl (zl hS 105 (by decide)) (sk hS 105 (by decide) rfl) (Or.inl rfl) (by decide) ?_
      refine q_iload rfl ?_
      obtain ⟨⟨u_9, v_9⟩, h⟩ := ite_some h
      refine q_iasN (Int32.toNatClampNeg (I 105 16)) (nx u_9) (zl hS 112 (by decide)) (sk hS 112 (by decide) rfl) v_9 (by decide) ?_
      obtain ⟨I_9, nI_9, h⟩ := stI_some h
      refine q_nI nI_9 ?_
      refine q_aload rfl ?_
      refine q_getRs (c0 := 12) (j := 18) rfl rfl (zl hS 105 (by decide)) (sk hS 105 (by decide) rfl) rfl (by decide) (r_105_18 hS) ?_
      refine q_aload rfl ?_
      refine q_getI (c0 := 12) (j := 16) rfl rfl (zl hS 105 (by decide)) (sk hS 105 (by decide) rfl) (Or.inl rfl) (by decide) ?_
      refine q_iload rfl ?_
      obtain ⟨⟨u_19, v_19⟩, h⟩ := ite_some h
      refine q_iasN (Int32.toNatClampNeg (I_9 105 16)) (nx u_19) (zl hS 113 (by decide)) (sk hS 113 (by decide) rfl) v_19 (by decide) ?_
      obtain ⟨I_19, nI_19, h⟩ := stI_some h
      refine q_nI nI_19 ?_
      refine q_aload rfl ?_
      refine q_dup rfl ?_
      refine q_getI (c0 := 12) (j := 16) rfl rfl (zl hS 105 (by decide)) (sk hS 105 (by decide) rfl) (Or.inl rfl) (by decide) ?_
      refine q_iconst (1) (by decide) ?_
      refine q_iadd ?_
      refine q_putI (c0 := 12) (j := 16) rfl rfl (zl hS 105 (by decide)) (sk hS 105 (by decide) rfl) rfl ?_
      obtain ⟨I_27, nI_27, h⟩ := stI_some h
      refine q_nI nI_27 ?_
      cases h
      exact q_vret rfl (Nat.le_refl _) (Nat.le_refl _) rfl
theorem a_231 (X : GX) {z : Nat} {kd : Nat → Nat × Nat} {Rf : Nat → Nat → Option Nat} (hS : Sh z kd Rf) {n dp d : Nat} (hd : dp ≤ d) {I : (Nat → Nat → Int32)} {L : (Nat → Nat → Int64)} {i1 : Int32} {i2 : Int32} {I1 : (Nat → Nat → Int32)} {L1 : (Nat → Nat → Int64)} (h : g_231 n dp (z, kd, Rf) 0 I L i1 i2 = some (I1, L1)) : Ct X d 231 0 0 [.ref 105, .int i1, .int i2] (z, kd, I, L, Rf) (AV (fun τ => τ = (z, kd, I1, L1, Rf))) :=
  Ct_of mu_231 (Nat.le_of_ble_eq_true rfl) ((w_231 X hS n dp d hd I L i1 i2 _ _) h)

/-! 230 CutFloorModel.leaf(ZII)V -/
set_option maxHeartbeats 4000000 in
set_option maxRecDepth 100000 in
def g_230 : Nat → Nat → EN → Nat → (Nat → Nat → Int32) → (Nat → Nat → Int64) → Int32 → Int32 → Int32 →  Option ((Nat → Nat → Int32) × (Nat → Nat → Int64))
  | 0, _, _, _, _, _, _, _, _ => none
  | n + 1, dp, e, lab, I, L, i1, i2, i3 =>
    if lab = 0 then (if i1 = 0 then (if 1 ≤ dp then (g_219 n (dp - 1) e 0 I L (0 : Int32)).bind (fun ⟨I0_19, L0_19⟩ => (if (I0_19 105 13) = 0 then (if 1 ≤ dp then (g_231 n (dp - 1) e 0 I0_19 L0_19 i2 i3).bind (fun ⟨I1_32, L1_32⟩ => (stI (u2 I1_32 105 19 ((I1_32 105 19) + (1 : Int32))) (fun I_42 => (some (I_42, L1_32))))) else none) else (some (I0_19, L0_19)))) else none) else (if (50 : Int32) ≤ (I 105 19) then (if 1 ≤ dp then (g_219 n (dp - 1) e 0 I L (0 : Int32)).bind (fun ⟨I0_19, L0_19⟩ => (if (I0_19 105 13) = 0 then (if 1 ≤ dp then (g_231 n (dp - 1) e 0 I0_19 L0_19 i2 i3).bind (fun ⟨I1_32, L1_32⟩ => (stI (u2 I1_32 105 19 ((I1_32 105 19) + (1 : Int32))) (fun I_42 => (some (I_42, L1_32))))) else none) else (some (I0_19, L0_19)))) else none) else (if 1 ≤ dp then (g_219 n (dp - 1) e 0 I L (1 : Int32)).bind (fun ⟨I0_19, L0_19⟩ => (if (I0_19 105 13) = 0 then (if 1 ≤ dp then (g_231 n (dp - 1) e 0 I0_19 L0_19 i2 i3).bind (fun ⟨I1_32, L1_32⟩ => (stI (u2 I1_32 105 19 ((I1_32 105 19) + (1 : Int32))) (fun I_42 => (some (I_42, L1_32))))) else none) else (some (I0_19, L0_19)))) else none)))
    else none
set_option maxRecDepth 100000 in
theorem e_230_0 (n dp : Nat) (e : EN) (I : (Nat → Nat → Int32)) (L : (Nat → Nat → Int64)) (i1 : Int32) (i2 : Int32) (i3 : Int32) : g_230 (n + 1) dp e 0 I L i1 i2 i3 = (if i1 = 0 then (if 1 ≤ dp then (g_219 n (dp - 1) e 0 I L (0 : Int32)).bind (fun ⟨I0_19, L0_19⟩ => (if (I0_19 105 13) = 0 then (if 1 ≤ dp then (g_231 n (dp - 1) e 0 I0_19 L0_19 i2 i3).bind (fun ⟨I1_32, L1_32⟩ => (stI (u2 I1_32 105 19 ((I1_32 105 19) + (1 : Int32))) (fun I_42 => (some (I_42, L1_32))))) else none) else (some (I0_19, L0_19)))) else none) else (if (50 : Int32) ≤ (I 105 19) then (if 1 ≤ dp then (g_219 n (dp - 1) e 0 I L (0 : Int32)).bind (fun ⟨I0_19, L0_19⟩ => (if (I0_19 105 13) = 0 then (if 1 ≤ dp then (g_231 n (dp - 1) e 0 I0_19 L0_19 i2 i3).bind (fun ⟨I1_32, L1_32⟩ => (stI (u2 I1_32 105 19 ((I1_32 105 19) + (1 : Int32))) (fun I_42 => (some (I_42, L1_32))))) else none) else (some (I0_19, L0_19)))) else none) else (if 1 ≤ dp then (g_219 n (dp - 1) e 0 I L (1 : Int32)).bind (fun ⟨I0_19, L0_19⟩ => (if (I0_19 105 13) = 0 then (if 1 ≤ dp then (g_231 n (dp - 1) e 0 I0_19 L0_19 i2 i3).bind (fun ⟨I1_32, L1_32⟩ => (stI (u2 I1_32 105 19 ((I1_32 105 19) + (1 : Int32))) (fun I_42 => (some (I_42, L1_32))))) else none) else (some (I0_19, L0_19)))) else none))) := by rw [g_230.eq_2, if_pos (show (0 : Nat) = 0 from rfl)]
set_option maxHeartbeats 8000000 in
set_option maxRecDepth 100000 in
theorem w_230 (X : GX) {z : Nat} {kd : Nat → Nat × Nat} {Rf : Nat → Nat → Option Nat} (hS : Sh z kd Rf) : ∀ (n dp d : Nat), dp ≤ d → ∀ (I : (Nat → Nat → Int32)) (L : (Nat → Nat → Int64)) (i1 : Int32) (i2 : Int32) (i3 : Int32) (I1 : (Nat → Nat → Int32)) (L1 : (Nat → Nat → Int64)), (g_230 n dp (z, kd, Rf) 0 I L i1 i2 i3 = some (I1, L1) → K X d 230 0 0 (AV (fun τ => τ = (z, kd, I1, L1, Rf))) 0 [some (.ref 105), some (.int i1), some (.int i2), some (.int i3)] [] (z, kd, I, L, Rf) 0 0) := by
  intro n
  induction n with
  | zero => intro dp d hdp I L i1 i2 i3 I1 L1; exact fun h => by cases h
  | succ n ih =>
    intro dp d hdp I L i1 i2 i3 I1 L1
    · intro h
      rw [e_230_0] at h
      refine K_of b_230_0 h_230_0 ?_
      refine q_aload rfl ?_
      refine q_iload rfl ?_
      refine q_if_eq (fun c_2 => ?_) (fun c_2 => ?_)
      · rw [if_pos c_2] at h
        refine K_of b_230_18 h_230_18 ?_
        refine q_iconst (0) (by decide) ?_
        refine q_end ?_
        refine K_of b_230_19 h_230_19 ?_
        obtain ⟨d_19, h⟩ := ite_some h
        obtain ⟨⟨I0_19, L0_19⟩, e_19, h⟩ := Option.bind_eq_some_iff.mp h
        dsimp only at h
        refine q_fv2V (a_219 X hS (d := d - 1) (by omega) e_19) (by omega) (Nat.le_refl _) (Nat.le_refl _) rfl (Nat.le_of_ble_eq_true rfl) ⟨(zl hS 105 (by decide)), congrArg Prod.fst (sk hS 105 (by decide) rfl), by decide⟩ ?_
        refine q_aload rfl ?_
        refine q_getI (c0 := 12) (j := 13) rfl rfl (zl hS 105 (by decide)) (sk hS 105 (by decide) rfl) (Or.inr rfl) (by decide) ?_
        refine q_if_ne (fun c_26 => ?_) (fun c_26 => ?_)
        · rw [if_neg c_26] at h
          refine K_of b_230_45 h_230_45 ?_
          cases h
          exact q_vret rfl (Nat.le_refl _) (Nat.le_refl _) rfl
        · rw [if_pos c_26] at h
          refine q_aload rfl ?_
          refine q_iload rfl ?_
          refine q_iload rfl ?_
          obtain ⟨d_32, h⟩ := ite_some h
          obtain ⟨⟨I1_32, L1_32⟩, e_32, h⟩ := Option.bind_eq_some_iff.mp h
          dsimp only at h
          refine q_fv3V (a_231 X hS (d := d - 1) (by omega) e_32) (by omega) (Nat.le_refl _) (Nat.le_refl _) rfl (Nat.le_of_ble_eq_true rfl) ⟨(zl hS 105 (by decide)), congrArg Prod.fst (sk hS 105 (by decide) rfl), by decide⟩ ?_
          refine q_aload rfl ?_
          refine q_dup rfl ?_
          refine q_getI (c0 := 12) (j := 19) rfl rfl (zl hS 105 (by decide)) (sk hS 105 (by decide) rfl) (Or.inl rfl) (by decide) ?_
          refine q_iconst (1) (by decide) ?_
          refine q_iadd ?_
          refine q_putI (c0 := 12) (j := 19) rfl rfl (zl hS 105 (by decide)) (sk hS 105 (by decide) rfl) rfl ?_
          obtain ⟨I_42, nI_42, h⟩ := stI_some h
          refine q_nI nI_42 ?_
          refine q_end ?_
          refine K_of b_230_45 h_230_45 ?_
          cases h
          exact q_vret rfl (Nat.le_refl _) (Nat.le_refl _) rfl
      · rw [if_neg c_2] at h
        refine q_aload rfl ?_
        refine q_getI (c0 := 12) (j := 19) rfl rfl (zl hS 105 (by decide)) (sk hS 105 (by decide) rfl) (Or.inl rfl) (by decide) ?_
        refine q_iconst (50) (by decide) ?_
        refine q_icmp_ge (fun c_11 => ?_) (fun c_11 => ?_)
        · rw [if_pos c_11] at h
          refine K_of b_230_18 h_230_18 ?_
          refine q_iconst (0) (by decide) ?_
          refine q_end ?_
          refine K_of b_230_19 h_230_19 ?_
          obtain ⟨d_19, h⟩ := ite_some h
          obtain ⟨⟨I0_19, L0_19⟩, e_19, h⟩ := Option.bind_eq_some_iff.mp h
          dsimp only at h
          refine q_fv2V (a_219 X hS (d := d - 1) (by omega) e_19) (by omega) (Nat.le_refl _) (Nat.le_refl _) rfl (Nat.le_of_ble_eq_true rfl) ⟨(zl hS 105 (by decide)), congrArg Prod.fst (sk hS 105 (by decide) rfl), by decide⟩ ?_
          refine q_aload rfl ?_
          refine q_getI (c0 := 12) (j := 13) rfl rfl (zl hS 105 (by decide)) (sk hS 105 (by decide) rfl) (Or.inr rfl) (by decide) ?_
          refine q_if_ne (fun c_26 => ?_) (fun c_26 => ?_)
          · rw [if_neg c_26] at h
            refine K_of b_230_45 h_230_45 ?_
            cases h
            exact q_vret rfl (Nat.le_refl _) (Nat.le_refl _) rfl
          · rw [if_pos c_26] at h
            refine q_aload rfl ?_
            refine q_iload rfl ?_
            refine q_iload rfl ?_
            obtain ⟨d_32, h⟩ := ite_some h
            obtain ⟨⟨I1_32, L1_32⟩, e_32, h⟩ := Option.bind_eq_some_iff.mp h
            dsimp only at h
            refine q_fv3V (a_231 X hS (d := d - 1) (by omega) e_32) (by omega) (Nat.le_refl _) (Nat.le_refl _) rfl (Nat.le_of_ble_eq_true rfl) ⟨(zl hS 105 (by decide)), congrArg Prod.fst (sk hS 105 (by decide) rfl), by decide⟩ ?_
            refine q_aload rfl ?_
            refine q_dup rfl ?_
            refine q_getI (c0 := 12) (j := 19) rfl rfl (zl hS 105 (by decide)) (sk hS 105 (by decide) rfl) (Or.inl rfl) (by decide) ?_
            refine q_iconst (1) (by decide) ?_
            refine q_iadd ?_
            refine q_putI (c0 := 12) (j := 19) rfl rfl (zl hS 105 (by decide)) (sk hS 105 (by decide) rfl) rfl ?_
            obtain ⟨I_42, nI_42, h⟩ := stI_some h
            refine q_nI nI_42 ?_
            refine q_end ?_
            refine K_of b_230_45 h_230_45 ?_
            cases h
            exact q_vret rfl (Nat.le_refl _) (Nat.le_refl _) rfl
        · rw [if_neg c_11] at h
          refine q_iconst (1) (by decide) ?_
          refine q_goto ?_
          refine K_of b_230_19 h_230_19 ?_
          obtain ⟨d_19, h⟩ := ite_some h
          obtain ⟨⟨I0_19, L0_19⟩, e_19, h⟩ := Option.bind_eq_some_iff.mp h
          dsimp only at h
          refine q_fv2V (a_219 X hS (d := d - 1) (by omega) e_19) (by omega) (Nat.le_refl _) (Nat.le_refl _) rfl (Nat.le_of_ble_eq_true rfl) ⟨(zl hS 105 (by decide)), congrArg Prod.fst (sk hS 105 (by decide) rfl), by decide⟩ ?_
          refine q_aload rfl ?_
          refine q_getI (c0 := 12) (j := 13) rfl rfl (zl hS 105 (by decide)) (sk hS 105 (by decide) rfl) (Or.inr rfl) (by decide) ?_
          refine q_if_ne (fun c_26 => ?_) (fun c_26 => ?_)
          · rw [if_neg c_26] at h
            refine K_of b_230_45 h_230_45 ?_
            cases h
            exact q_vret rfl (Nat.le_refl _) (Nat.le_refl _) rfl
          · rw [if_pos c_26] at h
            refine q_aload rfl ?_
            refine q_iload rfl ?_
            refine q_iload rfl ?_
            obtain ⟨d_32, h⟩ := ite_some h
            obtain ⟨⟨I1_32, L1_32⟩, e_32, h⟩ := Option.bind_eq_some_iff.mp h
            dsimp only at h
            refine q_fv3V (a_231 X hS (d := d - 1) (by omega) e_32) (by omega) (Nat.le_refl _) (Nat.le_refl _) rfl (Nat.le_of_ble_eq_true rfl) ⟨(zl hS 105 (by decide)), congrArg Prod.fst (sk hS 105 (by decide) rfl), by decide⟩ ?_
            refine q_aload rfl ?_
            refine q_dup rfl ?_
            refine q_getI (c0 := 12) (j := 19) rfl rfl (zl hS 105 (by decide)) (sk hS 105 (by decide) rfl) (Or.inl rfl) (by decide) ?_
            refine q_iconst (1) (by decide) ?_
            refine q_iadd ?_
            refine q_putI (c0 := 12) (j := 19) rfl rfl (zl hS 105 (by decide)) (sk hS 105 (by decide) rfl) rfl ?_
            obtain ⟨I_42, nI_42, h⟩ := stI_some h
            refine q_nI nI_42 ?_
            refine q_end ?_
            refine K_of b_230_45 h_230_45 ?_
            cases h
            exact q_vret rfl (Nat.le_refl _) (Nat.le_refl _) rfl
theorem a_230 (X : GX) {z : Nat} {kd : Nat → Nat × Nat} {Rf : Nat → Nat → Option Nat} (hS : Sh z kd Rf) {n dp d : Nat} (hd : dp ≤ d) {I : (Nat → Nat → Int32)} {L : (Nat → Nat → Int64)} {i1 : Int32} {i2 : Int32} {i3 : Int32} {I1 : (Nat → Nat → Int32)} {L1 : (Nat → Nat → Int64)} (h : g_230 n dp (z, kd, Rf) 0 I L i1 i2 i3 = some (I1, L1)) : Ct X d 230 0 0 [.ref 105, .int i1, .int i2, .int i3] (z, kd, I, L, Rf) (AV (fun τ => τ = (z, kd, I1, L1, Rf))) :=
  Ct_of mu_230 (Nat.le_of_ble_eq_true rfl) ((w_230 X hS n dp d hd I L i1 i2 i3 _ _) h)

/-! 228 CutFloorModel.readPart()I -/
set_option maxHeartbeats 4000000 in
set_option maxRecDepth 100000 in
def g_228 : Nat → Nat → EN → Nat → (Nat → Nat → Int32) → (Nat → Nat → Int64) → Int32 →  Option (Int32 × (Nat → Nat → Int32) × (Nat → Nat → Int64))
  | 0, _, _, _, _, _, _ => none
  | n + 1, dp, e, lab, I, L, i1 =>
    if lab = 0 then (if 1 ≤ dp then (g_226 n (dp - 1) e 0 I L (91 : Int32)).bind (fun ⟨x0_3, I0_3, L0_3⟩ => (if x0_3 = 0 then (if 1 ≤ dp then (g_229 n (dp - 1) e 0 I0_3 L0_3 0 0).bind (fun ⟨x1_18, I1_18, L1_18⟩ => (if (I1_18 105 10) = (2 : Int32) then (if 0 < (lg_cmp (L1_18 105 11) (1000 : Int64)) then (g_228 n dp e 1 I1_18 L1_18 x1_18) else (if x1_18 = (-1 : Int32) then (if (1 : Int32) = 0 then (if x1_18 = (-1 : Int32) then (if (1 : Int32) = 0 then (if 1 ≤ dp then (g_230 n (dp - 1) e 0 I1_18 L1_18 (0 : Int32) (0 : Int32) (0 : Int32)).bind (fun ⟨I2_85, L2_85⟩ => (some ((3 : Int32), I2_85, L2_85))) else none) else (if 1 ≤ dp then (g_230 n (dp - 1) e 0 I1_18 L1_18 (0 : Int32) (0 : Int32) (Int64.toInt32 (L1_18 105 11))).bind (fun ⟨I2_85, L2_85⟩ => (some ((3 : Int32), I2_85, L2_85))) else none)) else (if (1 : Int32) = 0 then (if 1 ≤ dp then (g_230 n (dp - 1) e 0 I1_18 L1_18 (0 : Int32) x1_18 (0 : Int32)).bind (fun ⟨I2_85, L2_85⟩ => (some ((3 : Int32), I2_85, L2_85))) else none) else (if 1 ≤ dp then (g_230 n (dp - 1) e 0 I1_18 L1_18 (0 : Int32) x1_18 (Int64.toInt32 (L1_18 105 11))).bind (fun ⟨I2_85, L2_85⟩ => (some ((3 : Int32), I2_85, L2_85))) else none))) else (if x1_18 = (-1 : Int32) then (if (1 : Int32) = 0 then (if 1 ≤ dp then (g_230 n (dp - 1) e 0 I1_18 L1_18 (1 : Int32) (0 : Int32) (0 : Int32)).bind (fun ⟨I2_85, L2_85⟩ => (some ((3 : Int32), I2_85, L2_85))) else none) else (if 1 ≤ dp then (g_230 n (dp - 1) e 0 I1_18 L1_18 (1 : Int32) (0 : Int32) (Int64.toInt32 (L1_18 105 11))).bind (fun ⟨I2_85, L2_85⟩ => (some ((3 : Int32), I2_85, L2_85))) else none)) else (if (1 : Int32) = 0 then (if 1 ≤ dp then (g_230 n (dp - 1) e 0 I1_18 L1_18 (1 : Int32) x1_18 (0 : Int32)).bind (fun ⟨I2_85, L2_85⟩ => (some ((3 : Int32), I2_85, L2_85))) else none) else (if 1 ≤ dp then (g_230 n (dp - 1) e 0 I1_18 L1_18 (1 : Int32) x1_18 (Int64.toInt32 (L1_18 105 11))).bind (fun ⟨I2_85, L2_85⟩ => (some ((3 : Int32), I2_85, L2_85))) else none)))) else (if x1_18 = (-1 : Int32) then (if (1 : Int32) = 0 then (if 1 ≤ dp then (g_230 n (dp - 1) e 0 I1_18 L1_18 (1 : Int32) (0 : Int32) (0 : Int32)).bind (fun ⟨I2_85, L2_85⟩ => (some ((3 : Int32), I2_85, L2_85))) else none) else (if 1 ≤ dp then (g_230 n (dp - 1) e 0 I1_18 L1_18 (1 : Int32) (0 : Int32) (Int64.toInt32 (L1_18 105 11))).bind (fun ⟨I2_85, L2_85⟩ => (some ((3 : Int32), I2_85, L2_85))) else none)) else (if (1 : Int32) = 0 then (if 1 ≤ dp then (g_230 n (dp - 1) e 0 I1_18 L1_18 (1 : Int32) x1_18 (0 : Int32)).bind (fun ⟨I2_85, L2_85⟩ => (some ((3 : Int32), I2_85, L2_85))) else none) else (if 1 ≤ dp then (g_230 n (dp - 1) e 0 I1_18 L1_18 (1 : Int32) x1_18 (Int64.toInt32 (L1_18 105 11))).bind (fun ⟨I2_85, L2_85⟩ => (some ((3 : Int32), I2_85, L2_85))) else none))))) else (g_228 n dp e 1 I1_18 L1_18 x1_18))) else none) else (if 1 ≤ dp then (g_227 n (dp - 1) e 0 I0_3 L0_3 (31 : Int32)).bind (fun ⟨I1_12, L1_12⟩ => (some ((1 : Int32), I1_12, L1_12))) else none))) else none)
    else if lab = 1 then (if i1 = (-1 : Int32) then (if (0 : Int32) = 0 then (if i1 = (-1 : Int32) then (if (0 : Int32) = 0 then (if 1 ≤ dp then (g_230 n (dp - 1) e 0 I L (0 : Int32) (0 : Int32) (0 : Int32)).bind (fun ⟨I0_85, L0_85⟩ => (some ((3 : Int32), I0_85, L0_85))) else none) else (if 1 ≤ dp then (g_230 n (dp - 1) e 0 I L (0 : Int32) (0 : Int32) (Int64.toInt32 (L 105 11))).bind (fun ⟨I0_85, L0_85⟩ => (some ((3 : Int32), I0_85, L0_85))) else none)) else (if (0 : Int32) = 0 then (if 1 ≤ dp then (g_230 n (dp - 1) e 0 I L (0 : Int32) i1 (0 : Int32)).bind (fun ⟨I0_85, L0_85⟩ => (some ((3 : Int32), I0_85, L0_85))) else none) else (if 1 ≤ dp then (g_230 n (dp - 1) e 0 I L (0 : Int32) i1 (Int64.toInt32 (L 105 11))).bind (fun ⟨I0_85, L0_85⟩ => (some ((3 : Int32), I0_85, L0_85))) else none))) else (if i1 = (-1 : Int32) then (if (0 : Int32) = 0 then (if 1 ≤ dp then (g_230 n (dp - 1) e 0 I L (1 : Int32) (0 : Int32) (0 : Int32)).bind (fun ⟨I0_85, L0_85⟩ => (some ((3 : Int32), I0_85, L0_85))) else none) else (if 1 ≤ dp then (g_230 n (dp - 1) e 0 I L (1 : Int32) (0 : Int32) (Int64.toInt32 (L 105 11))).bind (fun ⟨I0_85, L0_85⟩ => (some ((3 : Int32), I0_85, L0_85))) else none)) else (if (0 : Int32) = 0 then (if 1 ≤ dp then (g_230 n (dp - 1) e 0 I L (1 : Int32) i1 (0 : Int32)).bind (fun ⟨I0_85, L0_85⟩ => (some ((3 : Int32), I0_85, L0_85))) else none) else (if 1 ≤ dp then (g_230 n (dp - 1) e 0 I L (1 : Int32) i1 (Int64.toInt32 (L 105 11))).bind (fun ⟨I0_85, L0_85⟩ => (some ((3 : Int32), I0_85, L0_85))) else none)))) else (if i1 = (-1 : Int32) then (if (0 : Int32) = 0 then (if 1 ≤ dp then (g_230 n (dp - 1) e 0 I L (1 : Int32) (0 : Int32) (0 : Int32)).bind (fun ⟨I0_85, L0_85⟩ => (some ((3 : Int32), I0_85, L0_85))) else none) else (if 1 ≤ dp then (g_230 n (dp - 1) e 0 I L (1 : Int32) (0 : Int32) (Int64.toInt32 (L 105 11))).bind (fun ⟨I0_85, L0_85⟩ => (some ((3 : Int32), I0_85, L0_85))) else none)) else (if (0 : Int32) = 0 then (if 1 ≤ dp then (g_230 n (dp - 1) e 0 I L (1 : Int32) i1 (0 : Int32)).bind (fun ⟨I0_85, L0_85⟩ => (some ((3 : Int32), I0_85, L0_85))) else none) else (if 1 ≤ dp then (g_230 n (dp - 1) e 0 I L (1 : Int32) i1 (Int64.toInt32 (L 105 11))).bind (fun ⟨I0_85, L0_85⟩ => (some ((3 : Int32), I0_85, L0_85))) else none))))
    else none
set_option maxRecDepth 100000 in
theorem e_228_0 (n dp : Nat) (e : EN) (I : (Nat → Nat → Int32)) (L : (Nat → Nat → Int64)) (i1 : Int32) : g_228 (n + 1) dp e 0 I L i1 = (if 1 ≤ dp then (g_226 n (dp - 1) e 0 I L (91 : Int32)).bind (fun ⟨x0_3, I0_3, L0_3⟩ => (if x0_3 = 0 then (if 1 ≤ dp then (g_229 n (dp - 1) e 0 I0_3 L0_3 0 0).bind (fun ⟨x1_18, I1_18, L1_18⟩ => (if (I1_18 105 10) = (2 : Int32) then (if 0 < (lg_cmp (L1_18 105 11) (1000 : Int64)) then (g_228 n dp e 1 I1_18 L1_18 x1_18) else (if x1_18 = (-1 : Int32) then (if (1 : Int32) = 0 then (if x1_18 = (-1 : Int32) then (if (1 : Int32) = 0 then (if 1 ≤ dp then (g_230 n (dp - 1) e 0 I1_18 L1_18 (0 : Int32) (0 : Int32) (0 : Int32)).bind (fun ⟨I2_85, L2_85⟩ => (some ((3 : Int32), I2_85, L2_85))) else none) else (if 1 ≤ dp then (g_230 n (dp - 1) e 0 I1_18 L1_18 (0 : Int32) (0 : Int32) (Int64.toInt32 (L1_18 105 11))).bind (fun ⟨I2_85, L2_85⟩ => (some ((3 : Int32), I2_85, L2_85))) else none)) else (if (1 : Int32) = 0 then (if 1 ≤ dp then (g_230 n (dp - 1) e 0 I1_18 L1_18 (0 : Int32) x1_18 (0 : Int32)).bind (fun ⟨I2_85, L2_85⟩ => (some ((3 : Int32), I2_85, L2_85))) else none) else (if 1 ≤ dp then (g_230 n (dp - 1) e 0 I1_18 L1_18 (0 : Int32) x1_18 (Int64.toInt32 (L1_18 105 11))).bind (fun ⟨I2_85, L2_85⟩ => (some ((3 : Int32), I2_85, L2_85))) else none))) else (if x1_18 = (-1 : Int32) then (if (1 : Int32) = 0 then (if 1 ≤ dp then (g_230 n (dp - 1) e 0 I1_18 L1_18 (1 : Int32) (0 : Int32) (0 : Int32)).bind (fun ⟨I2_85, L2_85⟩ => (some ((3 : Int32), I2_85, L2_85))) else none) else (if 1 ≤ dp then (g_230 n (dp - 1) e 0 I1_18 L1_18 (1 : Int32) (0 : Int32) (Int64.toInt32 (L1_18 105 11))).bind (fun ⟨I2_85, L2_85⟩ => (some ((3 : Int32), I2_85, L2_85))) else none)) else (if (1 : Int32) = 0 then (if 1 ≤ dp then (g_230 n (dp - 1) e 0 I1_18 L1_18 (1 : Int32) x1_18 (0 : Int32)).bind (fun ⟨I2_85, L2_85⟩ => (some ((3 : Int32), I2_85, L2_85))) else none) else (if 1 ≤ dp then (g_230 n (dp - 1) e 0 I1_18 L1_18 (1 : Int32) x1_18 (Int64.toInt32 (L1_18 105 11))).bind (fun ⟨I2_85, L2_85⟩ => (some ((3 : Int32), I2_85, L2_85))) else none)))) else (if x1_18 = (-1 : Int32) then (if (1 : Int32) = 0 then (if 1 ≤ dp then (g_230 n (dp - 1) e 0 I1_18 L1_18 (1 : Int32) (0 : Int32) (0 : Int32)).bind (fun ⟨I2_85, L2_85⟩ => (some ((3 : Int32), I2_85, L2_85))) else none) else (if 1 ≤ dp then (g_230 n (dp - 1) e 0 I1_18 L1_18 (1 : Int32) (0 : Int32) (Int64.toInt32 (L1_18 105 11))).bind (fun ⟨I2_85, L2_85⟩ => (some ((3 : Int32), I2_85, L2_85))) else none)) else (if (1 : Int32) = 0 then (if 1 ≤ dp then (g_230 n (dp - 1) e 0 I1_18 L1_18 (1 : Int32) x1_18 (0 : Int32)).bind (fun ⟨I2_85, L2_85⟩ => (some ((3 : Int32), I2_85, L2_85))) else none) else (if 1 ≤ dp then (g_230 n (dp - 1) e 0 I1_18 L1_18 (1 : Int32) x1_18 (Int64.toInt32 (L1_18 105 11))).bind (fun ⟨I2_85, L2_85⟩ => (some ((3 : Int32), I2_85, L2_85))) else none))))) else (g_228 n dp e 1 I1_18 L1_18 x1_18))) else none) else (if 1 ≤ dp then (g_227 n (dp - 1) e 0 I0_3 L0_3 (31 : Int32)).bind (fun ⟨I1_12, L1_12⟩ => (some ((1 : Int32), I1_12, L1_12))) else none))) else none) := by rw [g_228.eq_2, if_pos (show (0 : Nat) = 0 from rfl)]
set_option maxRecDepth 100000 in
theorem e_228_1 (n dp : Nat) (e : EN) (I : (Nat → Nat → Int32)) (L : (Nat → Nat → Int64)) (i1 : Int32) : g_228 (n + 1) dp e 1 I L i1 = (if i1 = (-1 : Int32) then (if (0 : Int32) = 0 then (if i1 = (-1 : Int32) then (if (0 : Int32) = 0 then (if 1 ≤ dp then (g_230 n (dp - 1) e 0 I L (0 : Int32) (0 : Int32) (0 : Int32)).bind (fun ⟨I0_85, L0_85⟩ => (some ((3 : Int32), I0_85, L0_85))) else none) else (if 1 ≤ dp then (g_230 n (dp - 1) e 0 I L (0 : Int32) (0 : Int32) (Int64.toInt32 (L 105 11))).bind (fun ⟨I0_85, L0_85⟩ => (some ((3 : Int32), I0_85, L0_85))) else none)) else (if (0 : Int32) = 0 then (if 1 ≤ dp then (g_230 n (dp - 1) e 0 I L (0 : Int32) i1 (0 : Int32)).bind (fun ⟨I0_85, L0_85⟩ => (some ((3 : Int32), I0_85, L0_85))) else none) else (if 1 ≤ dp then (g_230 n (dp - 1) e 0 I L (0 : Int32) i1 (Int64.toInt32 (L 105 11))).bind (fun ⟨I0_85, L0_85⟩ => (some ((3 : Int32), I0_85, L0_85))) else none))) else (if i1 = (-1 : Int32) then (if (0 : Int32) = 0 then (if 1 ≤ dp then (g_230 n (dp - 1) e 0 I L (1 : Int32) (0 : Int32) (0 : Int32)).bind (fun ⟨I0_85, L0_85⟩ => (some ((3 : Int32), I0_85, L0_85))) else none) else (if 1 ≤ dp then (g_230 n (dp - 1) e 0 I L (1 : Int32) (0 : Int32) (Int64.toInt32 (L 105 11))).bind (fun ⟨I0_85, L0_85⟩ => (some ((3 : Int32), I0_85, L0_85))) else none)) else (if (0 : Int32) = 0 then (if 1 ≤ dp then (g_230 n (dp - 1) e 0 I L (1 : Int32) i1 (0 : Int32)).bind (fun ⟨I0_85, L0_85⟩ => (some ((3 : Int32), I0_85, L0_85))) else none) else (if 1 ≤ dp then (g_230 n (dp - 1) e 0 I L (1 : Int32) i1 (Int64.toInt32 (L 105 11))).bind (fun ⟨I0_85, L0_85⟩ => (some ((3 : Int32), I0_85, L0_85))) else none)))) else (if i1 = (-1 : Int32) then (if (0 : Int32) = 0 then (if 1 ≤ dp then (g_230 n (dp - 1) e 0 I L (1 : Int32) (0 : Int32) (0 : Int32)).bind (fun ⟨I0_85, L0_85⟩ => (some ((3 : Int32), I0_85, L0_85))) else none) else (if 1 ≤ dp then (g_230 n (dp - 1) e 0 I L (1 : Int32) (0 : Int32) (Int64.toInt32 (L 105 11))).bind (fun ⟨I0_85, L0_85⟩ => (some ((3 : Int32), I0_85, L0_85))) else none)) else (if (0 : Int32) = 0 then (if 1 ≤ dp then (g_230 n (dp - 1) e 0 I L (1 : Int32) i1 (0 : Int32)).bind (fun ⟨I0_85, L0_85⟩ => (some ((3 : Int32), I0_85, L0_85))) else none) else (if 1 ≤ dp then (g_230 n (dp - 1) e 0 I L (1 : Int32) i1 (Int64.toInt32 (L 105 11))).bind (fun ⟨I0_85, L0_85⟩ => (some ((3 : Int32), I0_85, L0_85))) else none)))) := by rw [g_228.eq_2, if_neg (show ¬ ((1 : Nat) = 0) by decide), if_pos (show (1 : Nat) = 1 from rfl)]
set_option maxHeartbeats 8000000 in
set_option maxRecDepth 100000 in
theorem w_228 (X : GX) {z : Nat} {kd : Nat → Nat × Nat} {Rf : Nat → Nat → Option Nat} (hS : Sh z kd Rf) : ∀ (n dp d : Nat), dp ≤ d → ∀ (I : (Nat → Nat → Int32)) (L : (Nat → Nat → Int64)) (i1 : Int32) (r : Int32) (I1 : (Nat → Nat → Int32)) (L1 : (Nat → Nat → Int64)), (g_228 n dp (z, kd, Rf) 0 I L i1 = some (r, I1, L1) → K X d 228 0 0 (AI (fun x τ => x = r ∧ τ = (z, kd, I1, L1, Rf))) 0 [some (.ref 105), none, none] [] (z, kd, I, L, Rf) 0 0) ∧
    (g_228 n dp (z, kd, Rf) 1 I L i1 = some (r, I1, L1) → K X d 228 0 0 (AI (fun x τ => x = r ∧ τ = (z, kd, I1, L1, Rf))) 45 [some (.ref 105), some (.int i1), none] [] (z, kd, I, L, Rf) 0 0) := by
  intro n
  induction n with
  | zero => intro dp d hdp I L i1 r I1 L1; exact ⟨(fun h => by cases h), (fun h => by cases h)⟩
  | succ n ih =>
    intro dp d hdp I L i1 r I1 L1
    refine ⟨?_, ?_⟩
    · intro h
      rw [e_228_0] at h
      refine K_of b_228_0 h_228_0 ?_
      refine q_aload rfl ?_
      refine q_iconst (91) (by decide) ?_
      obtain ⟨d_3, h⟩ := ite_some h
      obtain ⟨⟨x0_3, I0_3, L0_3⟩, e_3, h⟩ := Option.bind_eq_some_iff.mp h
      dsimp only at h
      refine q_fv2I (a_226 X hS (d := d - 1) (by omega) e_3) (by omega) (Nat.le_refl _) (Nat.le_refl _) rfl (Nat.le_of_ble_eq_true rfl) ⟨(zl hS 105 (by decide)), congrArg Prod.fst (sk hS 105 (by decide) rfl), by decide⟩ ?_
      refine q_if_eq (fun c_6 => ?_) (fun c_6 => ?_)
      · rw [if_pos c_6] at h
        refine K_of b_228_17 h_228_17 ?_
        refine q_aload rfl ?_
        obtain ⟨d_18, h⟩ := ite_some h
        obtain ⟨⟨x1_18, I1_18, L1_18⟩, e_18, h⟩ := Option.bind_eq_some_iff.mp h
        dsimp only at h
        refine q_fv1I (a_229 X hS (d := d - 1) (by omega) e_18) (by omega) (Nat.le_refl _) (Nat.le_refl _) rfl (Nat.le_of_ble_eq_true rfl) ⟨(zl hS 105 (by decide)), congrArg Prod.fst (sk hS 105 (by decide) rfl), by decide⟩ ?_
        refine q_istore (ls1 := [some (.ref 105), some (.int x1_18), none]) (Nat.le_of_ble_eq_true rfl) rfl ?_
        refine q_aload rfl ?_
        refine q_getI (c0 := 12) (j := 10) rfl rfl (zl hS 105 (by decide)) (sk hS 105 (by decide) rfl) (Or.inl rfl) (by decide) ?_
        refine q_iconst (2) (by decide) ?_
        refine q_icmp_ne (fun c_27 => ?_) (fun c_27 => ?_)
        · rw [if_neg c_27] at h
          exact (ih dp d hdp _ _ x1_18 _ _ _).2 h
        · rw [if_pos c_27] at h
          refine q_aload rfl ?_
          refine q_getL (c0 := 12) (j := 11) rfl rfl (zl hS 105 (by decide)) (sk hS 105 (by decide) rfl) rfl (by decide) ?_
          refine q_lconst (1000) (by decide) ?_
          refine q_lcmp ?_
          refine q_if_gt (fun c_38 => ?_) (fun c_38 => ?_)
          · rw [if_pos c_38] at h
            exact (ih dp d hdp _ _ x1_18 _ _ _).2 h
          · rw [if_neg c_38] at h
            refine q_iconst (1) (by decide) ?_
            refine q_goto ?_
            refine K_of b_228_46 h_228_46 ?_
            refine q_istore (ls1 := [some (.ref 105), some (.int x1_18), some (.int (1 : Int32))]) (Nat.le_of_ble_eq_true rfl) rfl ?_
            refine q_aload rfl ?_
            refine q_iload rfl ?_
            refine q_iconst (-1) (by decide) ?_
            refine q_icmp_ne (fun c_50 => ?_) (fun c_50 => ?_)
            · rw [if_neg c_50] at h
              refine K_of b_228_57 h_228_57 ?_
              refine q_iconst (1) (by decide) ?_
              refine q_goto ?_
              refine K_of b_228_62 h_228_62 ?_
              refine q_iload rfl ?_
              refine q_iconst (-1) (by decide) ?_
              refine q_icmp_ne (fun c_64 => ?_) (fun c_64 => ?_)
              · rw [if_neg c_64] at h
                refine K_of b_228_71 h_228_71 ?_
                refine q_iload rfl ?_
                refine q_end ?_
                refine K_of b_228_72 h_228_72 ?_
                refine q_iload rfl ?_
                refine q_if_eq (fun c_73 => ?_) (fun c_73 => ?_)
                · rw [if_pos c_73] at h
                  refine K_of b_228_84 h_228_84 ?_
                  refine q_iconst (0) (by decide) ?_
                  refine q_end ?_
                  refine K_of b_228_85 h_228_85 ?_
                  obtain ⟨d_85, h⟩ := ite_some h
                  obtain ⟨⟨I2_85, L2_85⟩, e_85, h⟩ := Option.bind_eq_some_iff.mp h
                  dsimp only at h
                  refine q_fv4V (a_230 X hS (d := d - 1) (by omega) e_85) (by omega) (Nat.le_refl _) (Nat.le_refl _) rfl (Nat.le_of_ble_eq_true rfl) ⟨(zl hS 105 (by decide)), congrArg Prod.fst (sk hS 105 (by decide) rfl), by decide⟩ ?_
                  refine q_iconst (3) (by decide) ?_
                  cases h
                  exact q_iret rfl (Nat.le_refl _) (Nat.le_refl _) ⟨rfl, rfl⟩
                · rw [if_neg c_73] at h
                  refine q_aload rfl ?_
                  refine q_getL (c0 := 12) (j := 11) rfl rfl (zl hS 105 (by decide)) (sk hS 105 (by decide) rfl) rfl (by decide) ?_
                  refine q_l2i ?_
                  refine q_goto ?_
                  refine K_of b_228_85 h_228_85 ?_
                  obtain ⟨d_85, h⟩ := ite_some h
                  obtain ⟨⟨I2_85, L2_85⟩, e_85, h⟩ := Option.bind_eq_some_iff.mp h
                  dsimp only at h
                  refine q_fv4V (a_230 X hS (d := d - 1) (by omega) e_85) (by omega) (Nat.le_refl _) (Nat.le_refl _) rfl (Nat.le_of_ble_eq_true rfl) ⟨(zl hS 105 (by decide)), congrArg Prod.fst (sk hS 105 (by decide) rfl), by decide⟩ ?_
                  refine q_iconst (3) (by decide) ?_
                  cases h
                  exact q_iret rfl (Nat.le_refl _) (Nat.le_refl _) ⟨rfl, rfl⟩
              · rw [if_pos c_64] at h
                refine q_iconst (0) (by decide) ?_
                refine q_goto ?_
                refine K_of b_228_72 h_228_72 ?_
                refine q_iload rfl ?_
                refine q_if_eq (fun c_73 => ?_) (fun c_73 => ?_)
                · rw [if_pos c_73] at h
                  refine K_of b_228_84 h_228_84 ?_
                  refine q_iconst (0) (by decide) ?_
                  refine q_end ?_
                  refine K_of b_228_85 h_228_85 ?_
                  obtain ⟨d_85, h⟩ := ite_some h
                  obtain ⟨⟨I2_85, L2_85⟩, e_85, h⟩ := Option.bind_eq_some_iff.mp h
                  dsimp only at h
                  refine q_fv4V (a_230 X hS (d := d - 1) (by omega) e_85) (by omega) (Nat.le_refl _) (Nat.le_refl _) rfl (Nat.le_of_ble_eq_true rfl) ⟨(zl hS 105 (by decide)), congrArg Prod.fst (sk hS 105 (by decide) rfl), by decide⟩ ?_
                  refine q_iconst (3) (by decide) ?_
                  cases h
                  exact q_iret rfl (Nat.le_refl _) (Nat.le_refl _) ⟨rfl, rfl⟩
                · rw [if_neg c_73] at h
                  refine q_aload rfl ?_
                  refine q_getL (c0 := 12) (j := 11) rfl rfl (zl hS 105 (by decide)) (sk hS 105 (by decide) rfl) rfl (by decide) ?_
                  refine q_l2i ?_
                  refine q_goto ?_
                  refine K_of b_228_85 h_228_85 ?_
                  obtain ⟨d_85, h⟩ := ite_some h
                  obtain ⟨⟨I2_85, L2_85⟩, e_85, h⟩ := Option.bind_eq_some_iff.mp h
                  dsimp only at h
                  refine q_fv4V (a_230 X hS (d := d - 1) (by omega) e_85) (by omega) (Nat.le_refl _) (Nat.le_refl _) rfl (Nat.le_of_ble_eq_true rfl) ⟨(zl hS 105 (by decide)), congrArg Prod.fst (sk hS 105 (by decide) rfl), by decide⟩ ?_
                  refine q_iconst (3) (by decide) ?_
                  cases h
                  exact q_iret rfl (Nat.le_refl _) (Nat.le_refl _) ⟨rfl, rfl⟩
            · rw [if_pos c_50] at h
              refine q_iload rfl ?_
              refine q_if_eq (fun c_54 => ?_) (fun c_54 => ?_)
              · rw [if_pos c_54] at h
                refine K_of b_228_61 h_228_61 ?_
                refine q_iconst (0) (by decide) ?_
                refine q_end ?_
                refine K_of b_228_62 h_228_62 ?_
                refine q_iload rfl ?_
                refine q_iconst (-1) (by decide) ?_
                refine q_icmp_ne (fun c_64 => ?_) (fun c_64 => ?_)
                · rw [if_neg c_64] at h
                  refine K_of b_228_71 h_228_71 ?_
                  refine q_iload rfl ?_
                  refine q_end ?_
                  refine K_of b_228_72 h_228_72 ?_
                  refine q_iload rfl ?_
                  refine q_if_eq (fun c_73 => ?_) (fun c_73 => ?_)
                  · rw [if_pos c_73] at h
                    refine K_of b_228_84 h_228_84 ?_
                    refine q_iconst (0) (by decide) ?_
                    refine q_end ?_
                    refine K_of b_228_85 h_228_85 ?_
                    obtain ⟨d_85, h⟩ := ite_some h
                    obtain ⟨⟨I2_85, L2_85⟩, e_85, h⟩ := Option.bind_eq_some_iff.mp h
                    dsimp only at h
                    refine q_fv4V (a_230 X hS (d := d - 1) (by omega) e_85) (by omega) (Nat.le_refl _) (Nat.le_refl _) rfl (Nat.le_of_ble_eq_true rfl) ⟨(zl hS 105 (by decide)), congrArg Prod.fst (sk hS 105 (by decide) rfl), by decide⟩ ?_
                    refine q_iconst (3) (by decide) ?_
                    cases h
                    exact q_iret rfl (Nat.le_refl _) (Nat.le_refl _) ⟨rfl, rfl⟩
                  · rw [if_neg c_73] at h
                    refine q_aload rfl ?_
                    refine q_getL (c0 := 12) (j := 11) rfl rfl (zl hS 105 (by decide)) (sk hS 105 (by decide) rfl) rfl (by decide) ?_
                    refine q_l2i ?_
                    refine q_goto ?_
                    refine K_of b_228_85 h_228_85 ?_
                    obtain ⟨d_85, h⟩ := ite_some h
                    obtain ⟨⟨I2_85, L2_85⟩, e_85, h⟩ := Option.bind_eq_some_iff.mp h
                    dsimp only at h
                    refine q_fv4V (a_230 X hS (d := d - 1) (by omega) e_85) (by omega) (Nat.le_refl _) (Nat.le_refl _) rfl (Nat.le_of_ble_eq_true rfl) ⟨(zl hS 105 (by decide)), congrArg Prod.fst (sk hS 105 (by decide) rfl), by decide⟩ ?_
                    refine q_iconst (3) (by decide) ?_
                    cases h
                    exact q_iret rfl (Nat.le_refl _) (Nat.le_refl _) ⟨rfl, rfl⟩
                · rw [if_pos c_64] at h
                  refine q_iconst (0) (by decide) ?_
                  refine q_goto ?_
                  refine K_of b_228_72 h_228_72 ?_
                  refine q_iload rfl ?_
                  refine q_if_eq (fun c_73 => ?_) (fun c_73 => ?_)
                  · rw [if_pos c_73] at h
                    refine K_of b_228_84 h_228_84 ?_
                    refine q_iconst (0) (by decide) ?_
                    refine q_end ?_
                    refine K_of b_228_85 h_228_85 ?_
                    obtain ⟨d_85, h⟩ := ite_some h
                    obtain ⟨⟨I2_85, L2_85⟩, e_85, h⟩ := Option.bind_eq_some_iff.mp h
                    dsimp only at h
                    refine q_fv4V (a_230 X hS (d := d - 1) (by omega) e_85) (by omega) (Nat.le_refl _) (Nat.le_refl _) rfl (Nat.le_of_ble_eq_true rfl) ⟨(zl hS 105 (by decide)), congrArg Prod.fst (sk hS 105 (by decide) rfl), by decide⟩ ?_
                    refine q_iconst (3) (by decide) ?_
                    cases h
                    exact q_iret rfl (Nat.le_refl _) (Nat.le_refl _) ⟨rfl, rfl⟩
                  · rw [if_neg c_73] at h
                    refine q_aload rfl ?_
                    refine q_getL (c0 := 12) (j := 11) rfl rfl (zl hS 105 (by decide)) (sk hS 105 (by decide) rfl) rfl (by decide) ?_
                    refine q_l2i ?_
                    refine q_goto ?_
                    refine K_of b_228_85 h_228_85 ?_
                    obtain ⟨d_85, h⟩ := ite_some h
                    obtain ⟨⟨I2_85, L2_85⟩, e_85, h⟩ := Option.bind_eq_some_iff.mp h
                    dsimp only at h
                    refine q_fv4V (a_230 X hS (d := d - 1) (by omega) e_85) (by omega) (Nat.le_refl _) (Nat.le_refl _) rfl (Nat.le_of_ble_eq_true rfl) ⟨(zl hS 105 (by decide)), congrArg Prod.fst (sk hS 105 (by decide) rfl), by decide⟩ ?_
                    refine q_iconst (3) (by decide) ?_
                    cases h
                    exact q_iret rfl (Nat.le_refl _) (Nat.le_refl _) ⟨rfl, rfl⟩
              · rw [if_neg c_54] at h
                refine q_end ?_
                refine K_of b_228_57 h_228_57 ?_
                refine q_iconst (1) (by decide) ?_
                refine q_goto ?_
                refine K_of b_228_62 h_228_62 ?_
                refine q_iload rfl ?_
                refine q_iconst (-1) (by decide) ?_
                refine q_icmp_ne (fun c_64 => ?_) (fun c_64 => ?_)
                · rw [if_neg c_64] at h
                  refine K_of b_228_71 h_228_71 ?_
                  refine q_iload rfl ?_
                  refine q_end ?_
                  refine K_of b_228_72 h_228_72 ?_
                  refine q_iload rfl ?_
                  refine q_if_eq (fun c_73 => ?_) (fun c_73 => ?_)
                  · rw [if_pos c_73] at h
                    refine K_of b_228_84 h_228_84 ?_
                    refine q_iconst (0) (by decide) ?_
                    refine q_end ?_
                    refine K_of b_228_85 h_228_85 ?_
                    obtain ⟨d_85, h⟩ := ite_some h
                    obtain ⟨⟨I2_85, L2_85⟩, e_85, h⟩ := Option.bind_eq_some_iff.mp h
                    dsimp only at h
                    refine q_fv4V (a_230 X hS (d := d - 1) (by omega) e_85) (by omega) (Nat.le_refl _) (Nat.le_refl _) rfl (Nat.le_of_ble_eq_true rfl) ⟨(zl hS 105 (by decide)), congrArg Prod.fst (sk hS 105 (by decide) rfl), by decide⟩ ?_
                    refine q_iconst (3) (by decide) ?_
                    cases h
                    exact q_iret rfl (Nat.le_refl _) (Nat.le_refl _) ⟨rfl, rfl⟩
                  · rw [if_neg c_73] at h
                    refine q_aload rfl ?_
                    refine q_getL (c0 := 12) (j := 11) rfl rfl (zl hS 105 (by decide)) (sk hS 105 (by decide) rfl) rfl (by decide) ?_
                    refine q_l2i ?_
                    refine q_goto ?_
                    refine K_of b_228_85 h_228_85 ?_
                    obtain ⟨d_85, h⟩ := ite_some h
                    obtain ⟨⟨I2_85, L2_85⟩, e_85, h⟩ := Option.bind_eq_some_iff.mp h
                    dsimp only at h
                    refine q_fv4V (a_230 X hS (d := d - 1) (by omega) e_85) (by omega) (Nat.le_refl _) (Nat.le_refl _) rfl (Nat.le_of_ble_eq_true rfl) ⟨(zl hS 105 (by decide)), congrArg Prod.fst (sk hS 105 (by decide) rfl), by decide⟩ ?_
                    refine q_iconst (3) (by decide) ?_
                    cases h
                    exact q_iret rfl (Nat.le_refl _) (Nat.le_refl _) ⟨rfl, rfl⟩
                · rw [if_pos c_64] at h
                  refine q_iconst (0) (by decide) ?_
                  refine q_goto ?_
                  refine K_of b_228_72 h_228_72 ?_
                  refine q_iload rfl ?_
                  refine q_if_eq (fun c_73 => ?_) (fun c_73 => ?_)
                  · rw [if_pos c_73] at h
                    refine K_of b_228_84 h_228_84 ?_
                    refine q_iconst (0) (by decide) ?_
                    refine q_end ?_
                    refine K_of b_228_85 h_228_85 ?_
                    obtain ⟨d_85, h⟩ := ite_some h
                    obtain ⟨⟨I2_85, L2_85⟩, e_85, h⟩ := Option.bind_eq_some_iff.mp h
                    dsimp only at h
                    refine q_fv4V (a_230 X hS (d := d - 1) (by omega) e_85) (by omega) (Nat.le_refl _) (Nat.le_refl _) rfl (Nat.le_of_ble_eq_true rfl) ⟨(zl hS 105 (by decide)), congrArg Prod.fst (sk hS 105 (by decide) rfl), by decide⟩ ?_
                    refine q_iconst (3) (by decide) ?_
                    cases h
                    exact q_iret rfl (Nat.le_refl _) (Nat.le_refl _) ⟨rfl, rfl⟩
                  · rw [if_neg c_73] at h
                    refine q_aload rfl ?_
                    refine q_getL (c0 := 12) (j := 11) rfl rfl (zl hS 105 (by decide)) (sk hS 105 (by decide) rfl) rfl (by decide) ?_
                    refine q_l2i ?_
                    refine q_goto ?_
                    refine K_of b_228_85 h_228_85 ?_
                    obtain ⟨d_85, h⟩ := ite_some h
                    obtain ⟨⟨I2_85, L2_85⟩, e_85, h⟩ := Option.bind_eq_some_iff.mp h
                    dsimp only at h
                    refine q_fv4V (a_230 X hS (d := d - 1) (by omega) e_85) (by omega) (Nat.le_refl _) (Nat.le_refl _) rfl (Nat.le_of_ble_eq_true rfl) ⟨(zl hS 105 (by decide)), congrArg Prod.fst (sk hS 105 (by decide) rfl), by decide⟩ ?_
                    refine q_iconst (3) (by decide) ?_
                    cases h
                    exact q_iret rfl (Nat.le_refl _) (Nat.le_refl _) ⟨rfl, rfl⟩
      · rw [if_neg c_6] at h
        refine q_aload rfl ?_
        refine q_iconst (31) (by decide) ?_
        obtain ⟨d_12, h⟩ := ite_some h
        obtain ⟨⟨I1_12, L1_12⟩, e_12, h⟩ := Option.bind_eq_some_iff.mp h
        dsimp only at h
        refine q_fv2V (a_227 X hS (d := d - 1) (by omega) e_12) (by omega) (Nat.le_refl _) (Nat.le_refl _) rfl (Nat.le_of_ble_eq_true rfl) ⟨(zl hS 105 (by decide)), congrArg Prod.fst (sk hS 105 (by decide) rfl), by decide⟩ ?_
        refine q_iconst (1) (by decide) ?_
        cases h
        exact q_iret rfl (Nat.le_refl _) (Nat.le_refl _) ⟨rfl, rfl⟩
    · intro h
      rw [e_228_1] at h
      refine K_of b_228_45 h_228_45 ?_
      refine q_iconst (0) (by decide) ?_
      refine q_end ?_
      refine K_of b_228_46 h_228_46 ?_
      refine q_istore (ls1 := [some (.ref 105), some (.int i1), some (.int (0 : Int32))]) (Nat.le_of_ble_eq_true rfl) rfl ?_
      refine q_aload rfl ?_
      refine q_iload rfl ?_
      refine q_iconst (-1) (by decide) ?_
      refine q_icmp_ne (fun c_50 => ?_) (fun c_50 => ?_)
      · rw [if_neg c_50] at h
        refine K_of b_228_57 h_228_57 ?_
        refine q_iconst (1) (by decide) ?_
        refine q_goto ?_
        refine K_of b_228_62 h_228_62 ?_
        refine q_iload rfl ?_
        refine q_iconst (-1) (by decide) ?_
        refine q_icmp_ne (fun c_64 => ?_) (fun c_64 => ?_)
        · rw [if_neg c_64] at h
          refine K_of b_228_71 h_228_71 ?_
          refine q_iload rfl ?_
          refine q_end ?_
          refine K_of b_228_72 h_228_72 ?_
          refine q_iload rfl ?_
          refine q_if_eq (fun c_73 => ?_) (fun c_73 => ?_)
          · rw [if_pos c_73] at h
            refine K_of b_228_84 h_228_84 ?_
            refine q_iconst (0) (by decide) ?_
            refine q_end ?_
            refine K_of b_228_85 h_228_85 ?_
            obtain ⟨d_85, h⟩ := ite_some h
            obtain ⟨⟨I0_85, L0_85⟩, e_85, h⟩ := Option.bind_eq_some_iff.mp h
            dsimp only at h
            refine q_fv4V (a_230 X hS (d := d - 1) (by omega) e_85) (by omega) (Nat.le_refl _) (Nat.le_refl _) rfl (Nat.le_of_ble_eq_true rfl) ⟨(zl hS 105 (by decide)), congrArg Prod.fst (sk hS 105 (by decide) rfl), by decide⟩ ?_
            refine q_iconst (3) (by decide) ?_
            cases h
            exact q_iret rfl (Nat.le_refl _) (Nat.le_refl _) ⟨rfl, rfl⟩
          · rw [if_neg c_73] at h
            refine q_aload rfl ?_
            refine q_getL (c0 := 12) (j := 11) rfl rfl (zl hS 105 (by decide)) (sk hS 105 (by decide) rfl) rfl (by decide) ?_
            refine q_l2i ?_
            refine q_goto ?_
            refine K_of b_228_85 h_228_85 ?_
            obtain ⟨d_85, h⟩ := ite_some h
            obtain ⟨⟨I0_85, L0_85⟩, e_85, h⟩ := Option.bind_eq_some_iff.mp h
            dsimp only at h
            refine q_fv4V (a_230 X hS (d := d - 1) (by omega) e_85) (by omega) (Nat.le_refl _) (Nat.le_refl _) rfl (Nat.le_of_ble_eq_true rfl) ⟨(zl hS 105 (by decide)), congrArg Prod.fst (sk hS 105 (by decide) rfl), by decide⟩ ?_
            refine q_iconst (3) (by decide) ?_
            cases h
            exact q_iret rfl (Nat.le_refl _) (Nat.le_refl _) ⟨rfl, rfl⟩
        · rw [if_pos c_64] at h
          refine q_iconst (0) (by decide) ?_
          refine q_goto ?_
          refine K_of b_228_72 h_228_72 ?_
          refine q_iload rfl ?_
          refine q_if_eq (fun c_73 => ?_) (fun c_73 => ?_)
          · rw [if_pos c_73] at h
            refine K_of b_228_84 h_228_84 ?_
            refine q_iconst (0) (by decide) ?_
            refine q_end ?_
            refine K_of b_228_85 h_228_85 ?_
            obtain ⟨d_85, h⟩ := ite_some h
            obtain ⟨⟨I0_85, L0_85⟩, e_85, h⟩ := Option.bind_eq_some_iff.mp h
            dsimp only at h
            refine q_fv4V (a_230 X hS (d := d - 1) (by omega) e_85) (by omega) (Nat.le_refl _) (Nat.le_refl _) rfl (Nat.le_of_ble_eq_true rfl) ⟨(zl hS 105 (by decide)), congrArg Prod.fst (sk hS 105 (by decide) rfl), by decide⟩ ?_
            refine q_iconst (3) (by decide) ?_
            cases h
            exact q_iret rfl (Nat.le_refl _) (Nat.le_refl _) ⟨rfl, rfl⟩
          · rw [if_neg c_73] at h
            refine q_aload rfl ?_
            refine q_getL (c0 := 12) (j := 11) rfl rfl (zl hS 105 (by decide)) (sk hS 105 (by decide) rfl) rfl (by decide) ?_
            refine q_l2i ?_
            refine q_goto ?_
            refine K_of b_228_85 h_228_85 ?_
            obtain ⟨d_85, h⟩ := ite_some h
            obtain ⟨⟨I0_85, L0_85⟩, e_85, h⟩ := Option.bind_eq_some_iff.mp h
            dsimp only at h
            refine q_fv4V (a_230 X hS (d := d - 1) (by omega) e_85) (by omega) (Nat.le_refl _) (Nat.le_refl _) rfl (Nat.le_of_ble_eq_true rfl) ⟨(zl hS 105 (by decide)), congrArg Prod.fst (sk hS 105 (by decide) rfl), by decide⟩ ?_
            refine q_iconst (3) (by decide) ?_
            cases h
            exact q_iret rfl (Nat.le_refl _) (Nat.le_refl _) ⟨rfl, rfl⟩
      · rw [if_pos c_50] at h
        refine q_iload rfl ?_
        refine q_if_eq (fun c_54 => ?_) (fun c_54 => ?_)
        · rw [if_pos c_54] at h
          refine K_of b_228_61 h_228_61 ?_
          refine q_iconst (0) (by decide) ?_
          refine q_end ?_
          refine K_of b_228_62 h_228_62 ?_
          refine q_iload rfl ?_
          refine q_iconst (-1) (by decide) ?_
          refine q_icmp_ne (fun c_64 => ?_) (fun c_64 => ?_)
          · rw [if_neg c_64] at h
            refine K_of b_228_71 h_228_71 ?_
            refine q_iload rfl ?_
            refine q_end ?_
            refine K_of b_228_72 h_228_72 ?_
            refine q_iload rfl ?_
            refine q_if_eq (fun c_73 => ?_) (fun c_73 => ?_)
            · rw [if_pos c_73] at h
              refine K_of b_228_84 h_228_84 ?_
              refine q_iconst (0) (by decide) ?_
              refine q_end ?_
              refine K_of b_228_85 h_228_85 ?_
              obtain ⟨d_85, h⟩ := ite_some h
              obtain ⟨⟨I0_85, L0_85⟩, e_85, h⟩ := Option.bind_eq_some_iff.mp h
              dsimp only at h
              refine q_fv4V (a_230 X hS (d := d - 1) (by omega) e_85) (by omega) (Nat.le_refl _) (Nat.le_refl _) rfl (Nat.le_of_ble_eq_true rfl) ⟨(zl hS 105 (by decide)), congrArg Prod.fst (sk hS 105 (by decide) rfl), by decide⟩ ?_
              refine q_iconst (3) (by decide) ?_
              cases h
              exact q_iret rfl (Nat.le_refl _) (Nat.le_refl _) ⟨rfl, rfl⟩
            · rw [if_neg c_73] at h
              refine q_aload rfl ?_
              refine q_getL (c0 := 12) (j := 11) rfl rfl (zl hS 105 (by decide)) (sk hS 105 (by decide) rfl) rfl (by decide) ?_
              refine q_l2i ?_
              refine q_goto ?_
              refine K_of b_228_85 h_228_85 ?_
              obtain ⟨d_85, h⟩ := ite_some h
              obtain ⟨⟨I0_85, L0_85⟩, e_85, h⟩ := Option.bind_eq_some_iff.mp h
              dsimp only at h
              refine q_fv4V (a_230 X hS (d := d - 1) (by omega) e_85) (by omega) (Nat.le_refl _) (Nat.le_refl _) rfl (Nat.le_of_ble_eq_true rfl) ⟨(zl hS 105 (by decide)), congrArg Prod.fst (sk hS 105 (by decide) rfl), by decide⟩ ?_
              refine q_iconst (3) (by decide) ?_
              cases h
              exact q_iret rfl (Nat.le_refl _) (Nat.le_refl _) ⟨rfl, rfl⟩
          · rw [if_pos c_64] at h
            refine q_iconst (0) (by decide) ?_
            refine q_goto ?_
            refine K_of b_228_72 h_228_72 ?_
            refine q_iload rfl ?_
            refine q_if_eq (fun c_73 => ?_) (fun c_73 => ?_)
            · rw [if_pos c_73] at h
              refine K_of b_228_84 h_228_84 ?_
              refine q_iconst (0) (by decide) ?_
              refine q_end ?_
              refine K_of b_228_85 h_228_85 ?_
              obtain ⟨d_85, h⟩ := ite_some h
              obtain ⟨⟨I0_85, L0_85⟩, e_85, h⟩ := Option.bind_eq_some_iff.mp h
              dsimp only at h
              refine q_fv4V (a_230 X hS (d := d - 1) (by omega) e_85) (by omega) (Nat.le_refl _) (Nat.le_refl _) rfl (Nat.le_of_ble_eq_true rfl) ⟨(zl hS 105 (by decide)), congrArg Prod.fst (sk hS 105 (by decide) rfl), by decide⟩ ?_
              refine q_iconst (3) (by decide) ?_
              cases h
              exact q_iret rfl (Nat.le_refl _) (Nat.le_refl _) ⟨rfl, rfl⟩
            · rw [if_neg c_73] at h
              refine q_aload rfl ?_
              refine q_getL (c0 := 12) (j := 11) rfl rfl (zl hS 105 (by decide)) (sk hS 105 (by decide) rfl) rfl (by decide) ?_
              refine q_l2i ?_
              refine q_goto ?_
              refine K_of b_228_85 h_228_85 ?_
              obtain ⟨d_85, h⟩ := ite_some h
              obtain ⟨⟨I0_85, L0_85⟩, e_85, h⟩ := Option.bind_eq_some_iff.mp h
              dsimp only at h
              refine q_fv4V (a_230 X hS (d := d - 1) (by omega) e_85) (by omega) (Nat.le_refl _) (Nat.le_refl _) rfl (Nat.le_of_ble_eq_true rfl) ⟨(zl hS 105 (by decide)), congrArg Prod.fst (sk hS 105 (by decide) rfl), by decide⟩ ?_
              refine q_iconst (3) (by decide) ?_
              cases h
              exact q_iret rfl (Nat.le_refl _) (Nat.le_refl _) ⟨rfl, rfl⟩
        · rw [if_neg c_54] at h
          refine q_end ?_
          refine K_of b_228_57 h_228_57 ?_
          refine q_iconst (1) (by decide) ?_
          refine q_goto ?_
          refine K_of b_228_62 h_228_62 ?_
          refine q_iload rfl ?_
          refine q_iconst (-1) (by decide) ?_
          refine q_icmp_ne (fun c_64 => ?_) (fun c_64 => ?_)
          · rw [if_neg c_64] at h
            refine K_of b_228_71 h_228_71 ?_
            refine q_iload rfl ?_
            refine q_end ?_
            refine K_of b_228_72 h_228_72 ?_
            refine q_iload rfl ?_
            refine q_if_eq (fun c_73 => ?_) (fun c_73 => ?_)
            · rw [if_pos c_73] at h
              refine K_of b_228_84 h_228_84 ?_
              refine q_iconst (0) (by decide) ?_
              refine q_end ?_
              refine K_of b_228_85 h_228_85 ?_
              obtain ⟨d_85, h⟩ := ite_some h
              obtain ⟨⟨I0_85, L0_85⟩, e_85, h⟩ := Option.bind_eq_some_iff.mp h
              dsimp only at h
              refine q_fv4V (a_230 X hS (d := d - 1) (by omega) e_85) (by omega) (Nat.le_refl _) (Nat.le_refl _) rfl (Nat.le_of_ble_eq_true rfl) ⟨(zl hS 105 (by decide)), congrArg Prod.fst (sk hS 105 (by decide) rfl), by decide⟩ ?_
              refine q_iconst (3) (by decide) ?_
              cases h
              exact q_iret rfl (Nat.le_refl _) (Nat.le_refl _) ⟨rfl, rfl⟩
            · rw [if_neg c_73] at h
              refine q_aload rfl ?_
              refine q_getL (c0 := 12) (j := 11) rfl rfl (zl hS 105 (by decide)) (sk hS 105 (by decide) rfl) rfl (by decide) ?_
              refine q_l2i ?_
              refine q_goto ?_
              refine K_of b_228_85 h_228_85 ?_
              obtain ⟨d_85, h⟩ := ite_some h
              obtain ⟨⟨I0_85, L0_85⟩, e_85, h⟩ := Option.bind_eq_some_iff.mp h
              dsimp only at h
              refine q_fv4V (a_230 X hS (d := d - 1) (by omega) e_85) (by omega) (Nat.le_refl _) (Nat.le_refl _) rfl (Nat.le_of_ble_eq_true rfl) ⟨(zl hS 105 (by decide)), congrArg Prod.fst (sk hS 105 (by decide) rfl), by decide⟩ ?_
              refine q_iconst (3) (by decide) ?_
              cases h
              exact q_iret rfl (Nat.le_refl _) (Nat.le_refl _) ⟨rfl, rfl⟩
          · rw [if_pos c_64] at h
            refine q_iconst (0) (by decide) ?_
            refine q_goto ?_
            refine K_of b_228_72 h_228_72 ?_
            refine q_iload rfl ?_
            refine q_if_eq (fun c_73 => ?_) (fun c_73 => ?_)
            · rw [if_pos c_73] at h
              refine K_of b_228_84 h_228_84 ?_
              refine q_iconst (0) (by decide) ?_
              refine q_end ?_
              refine K_of b_228_85 h_228_85 ?_
              obtain ⟨d_85, h⟩ := ite_some h
              obtain ⟨⟨I0_85, L0_85⟩, e_85, h⟩ := Option.bind_eq_some_iff.mp h
              dsimp only at h
              refine q_fv4V (a_230 X hS (d := d - 1) (by omega) e_85) (by omega) (Nat.le_refl _) (Nat.le_refl _) rfl (Nat.le_of_ble_eq_true rfl) ⟨(zl hS 105 (by decide)), congrArg Prod.fst (sk hS 105 (by decide) rfl), by decide⟩ ?_
              refine q_iconst (3) (by decide) ?_
              cases h
              exact q_iret rfl (Nat.le_refl _) (Nat.le_refl _) ⟨rfl, rfl⟩
            · rw [if_neg c_73] at h
              refine q_aload rfl ?_
              refine q_getL (c0 := 12) (j := 11) rfl rfl (zl hS 105 (by decide)) (sk hS 105 (by decide) rfl) rfl (by decide) ?_
              refine q_l2i ?_
              refine q_goto ?_
              refine K_of b_228_85 h_228_85 ?_
              obtain ⟨d_85, h⟩ := ite_some h
              obtain ⟨⟨I0_85, L0_85⟩, e_85, h⟩ := Option.bind_eq_some_iff.mp h
              dsimp only at h
              refine q_fv4V (a_230 X hS (d := d - 1) (by omega) e_85) (by omega) (Nat.le_refl _) (Nat.le_refl _) rfl (Nat.le_of_ble_eq_true rfl) ⟨(zl hS 105 (by decide)), congrArg Prod.fst (sk hS 105 (by decide) rfl), by decide⟩ ?_
              refine q_iconst (3) (by decide) ?_
              cases h
              exact q_iret rfl (Nat.le_refl _) (Nat.le_refl _) ⟨rfl, rfl⟩
theorem a_228 (X : GX) {z : Nat} {kd : Nat → Nat × Nat} {Rf : Nat → Nat → Option Nat} (hS : Sh z kd Rf) {n dp d : Nat} (hd : dp ≤ d) {I : (Nat → Nat → Int32)} {L : (Nat → Nat → Int64)} {I1 : (Nat → Nat → Int32)} {L1 : (Nat → Nat → Int64)} {r : Int32} (h : g_228 n dp (z, kd, Rf) 0 I L 0 = some (r, I1, L1)) : Ct X d 228 0 0 [.ref 105] (z, kd, I, L, Rf) (AI (fun x τ => x = r ∧ τ = (z, kd, I1, L1, Rf))) :=
  Ct_of mu_228 (Nat.le_of_ble_eq_true rfl) ((w_228 X hS n dp d hd I L 0 _ _ _).1 h)

/-! 224 CutFloorModel.readPlain()I -/
set_option maxHeartbeats 4000000 in
set_option maxRecDepth 100000 in
def g_224 : Nat → Nat → EN → Nat → (Nat → Nat → Int32) → (Nat → Nat → Int64) →  Option (Int32 × (Nat → Nat → Int32) × (Nat → Nat → Int64))
  | 0, _, _, _, _, _ => none
  | n + 1, dp, e, lab, I, L =>
    if lab = 0 then (if 1 ≤ dp then (g_218 n (dp - 1) e 0 I L (14836 : Int64)).bind (fun ⟨x0_4, I0_4, L0_4⟩ => (if x0_4 = 0 then (if 1 ≤ dp then (g_226 n (dp - 1) e 0 I0_4 L0_4 (40 : Int32)).bind (fun ⟨x1_26, I1_26, L1_26⟩ => (if x1_26 = 0 then (if 1 ≤ dp then (g_228 n (dp - 1) e 0 I1_26 L1_26 0).bind (fun ⟨x2_41, I2_41, L2_41⟩ => (some (x2_41, I2_41, L2_41))) else none) else (if 1 ≤ dp then (g_227 n (dp - 1) e 0 I1_26 L1_26 (30 : Int32)).bind (fun ⟨I2_35, L2_35⟩ => (some ((0 : Int32), I2_35, L2_35))) else none))) else none) else (if 1 ≤ dp then (g_225 n (dp - 1) e 0 I0_4 L0_4 (27 : Int32) (0 : Int32)).bind (fun ⟨I1_14, L1_14⟩ => (if 1 ≤ dp then (g_214 n (dp - 1) e 0 I1_14 L1_14).bind (fun ⟨I2_18, L2_18⟩ => (some ((0 : Int32), I2_18, L2_18))) else none)) else none))) else none)
    else none
set_option maxRecDepth 100000 in
theorem e_224_0 (n dp : Nat) (e : EN) (I : (Nat → Nat → Int32)) (L : (Nat → Nat → Int64)) : g_224 (n + 1) dp e 0 I L = (if 1 ≤ dp then (g_218 n (dp - 1) e 0 I L (14836 : Int64)).bind (fun ⟨x0_4, I0_4, L0_4⟩ => (if x0_4 = 0 then (if 1 ≤ dp then (g_226 n (dp - 1) e 0 I0_4 L0_4 (40 : Int32)).bind (fun ⟨x1_26, I1_26, L1_26⟩ => (if x1_26 = 0 then (if 1 ≤ dp then (g_228 n (dp - 1) e 0 I1_26 L1_26 0).bind (fun ⟨x2_41, I2_41, L2_41⟩ => (some (x2_41, I2_41, L2_41))) else none) else (if 1 ≤ dp then (g_227 n (dp - 1) e 0 I1_26 L1_26 (30 : Int32)).bind (fun ⟨I2_35, L2_35⟩ => (some ((0 : Int32), I2_35, L2_35))) else none))) else none) else (if 1 ≤ dp then (g_225 n (dp - 1) e 0 I0_4 L0_4 (27 : Int32) (0 : Int32)).bind (fun ⟨I1_14, L1_14⟩ => (if 1 ≤ dp then (g_214 n (dp - 1) e 0 I1_14 L1_14).bind (fun ⟨I2_18, L2_18⟩ => (some ((0 : Int32), I2_18, L2_18))) else none)) else none))) else none) := by rw [g_224.eq_2, if_pos (show (0 : Nat) = 0 from rfl)]
set_option maxHeartbeats 8000000 in
set_option maxRecDepth 100000 in
theorem w_224 (X : GX) {z : Nat} {kd : Nat → Nat × Nat} {Rf : Nat → Nat → Option Nat} (hS : Sh z kd Rf) : ∀ (n dp d : Nat), dp ≤ d → ∀ (I : (Nat → Nat → Int32)) (L : (Nat → Nat → Int64)) (r : Int32) (I1 : (Nat → Nat → Int32)) (L1 : (Nat → Nat → Int64)), (g_224 n dp (z, kd, Rf) 0 I L = some (r, I1, L1) → K X d 224 0 0 (AI (fun x τ => x = r ∧ τ = (z, kd, I1, L1, Rf))) 0 [some (.ref 105)] [] (z, kd, I, L, Rf) 0 0) := by
  intro n
  induction n with
  | zero => intro dp d hdp I L r I1 L1; exact fun h => by cases h
  | succ n ih =>
    intro dp d hdp I L r I1 L1
    · intro h
      rw [e_224_0] at h
      refine K_of b_224_0 h_224_0 ?_
      refine q_aload rfl ?_
      refine q_lconst (14836) (by decide) ?_
      obtain ⟨d_4, h⟩ := ite_some h
      obtain ⟨⟨x0_4, I0_4, L0_4⟩, e_4, h⟩ := Option.bind_eq_some_iff.mp h
      dsimp only at h
      refine q_fv2I (a_218 X hS (d := d - 1) (by omega) e_4) (by omega) (Nat.le_refl _) (Nat.le_refl _) rfl (Nat.le_of_ble_eq_true rfl) ⟨(zl hS 105 (by decide)), congrArg Prod.fst (sk hS 105 (by decide) rfl), by decide⟩ ?_
      refine q_if_eq (fun c_7 => ?_) (fun c_7 => ?_)
      · rw [if_pos c_7] at h
        refine K_of b_224_23 h_224_23 ?_
        refine q_aload rfl ?_
        refine q_iconst (40) (by decide) ?_
        obtain ⟨d_26, h⟩ := ite_some h
        obtain ⟨⟨x1_26, I1_26, L1_26⟩, e_26, h⟩ := Option.bind_eq_some_iff.mp h
        dsimp only at h
        refine q_fv2I (a_226 X hS (d := d - 1) (by omega) e_26) (by omega) (Nat.le_refl _) (Nat.le_refl _) rfl (Nat.le_of_ble_eq_true rfl) ⟨(zl hS 105 (by decide)), congrArg Prod.fst (sk hS 105 (by decide) rfl), by decide⟩ ?_
        refine q_if_eq (fun c_29 => ?_) (fun c_29 => ?_)
        · rw [if_pos c_29] at h
          refine K_of b_224_40 h_224_40 ?_
          refine q_aload rfl ?_
          obtain ⟨d_41, h⟩ := ite_some h
          obtain ⟨⟨x2_41, I2_41, L2_41⟩, e_41, h⟩ := Option.bind_eq_some_iff.mp h
          dsimp only at h
          refine q_fv1I (a_228 X hS (d := d - 1) (by omega) e_41) (by omega) (Nat.le_refl _) (Nat.le_refl _) rfl (Nat.le_of_ble_eq_true rfl) ⟨(zl hS 105 (by decide)), congrArg Prod.fst (sk hS 105 (by decide) rfl), by decide⟩ ?_
          cases h
          exact q_iret rfl (Nat.le_refl _) (Nat.le_refl _) ⟨rfl, rfl⟩
        · rw [if_neg c_29] at h
          refine q_aload rfl ?_
          refine q_iconst (30) (by decide) ?_
          obtain ⟨d_35, h⟩ := ite_some h
          obtain ⟨⟨I2_35, L2_35⟩, e_35, h⟩ := Option.bind_eq_some_iff.mp h
          dsimp only at h
          refine q_fv2V (a_227 X hS (d := d - 1) (by omega) e_35) (by omega) (Nat.le_refl _) (Nat.le_refl _) rfl (Nat.le_of_ble_eq_true rfl) ⟨(zl hS 105 (by decide)), congrArg Prod.fst (sk hS 105 (by decide) rfl), by decide⟩ ?_
          refine q_iconst (0) (by decide) ?_
          cases h
          exact q_iret rfl (Nat.le_refl _) (Nat.le_refl _) ⟨rfl, rfl⟩
      · rw [if_neg c_7] at h
        refine q_aload rfl ?_
        refine q_iconst (27) (by decide) ?_
        refine q_iconst (0) (by decide) ?_
        obtain ⟨d_14, h⟩ := ite_some h
        obtain ⟨⟨I1_14, L1_14⟩, e_14, h⟩ := Option.bind_eq_some_iff.mp h
        dsimp only at h
        refine q_fv3V (a_225 X hS (d := d - 1) (by omega) e_14) (by omega) (Nat.le_refl _) (Nat.le_refl _) rfl (Nat.le_of_ble_eq_true rfl) ⟨(zl hS 105 (by decide)), congrArg Prod.fst (sk hS 105 (by decide) rfl), by decide⟩ ?_
        refine q_aload rfl ?_
        obtain ⟨d_18, h⟩ := ite_some h
        obtain ⟨⟨I2_18, L2_18⟩, e_18, h⟩ := Option.bind_eq_some_iff.mp h
        dsimp only at h
        refine q_fv1V (a_214 X hS (d := d - 1) (by omega) e_18) (by omega) (Nat.le_refl _) (Nat.le_refl _) rfl (Nat.le_of_ble_eq_true rfl) ⟨(zl hS 105 (by decide)), congrArg Prod.fst (sk hS 105 (by decide) rfl), by decide⟩ ?_
        refine q_iconst (0) (by decide) ?_
        cases h
        exact q_iret rfl (Nat.le_refl _) (Nat.le_refl _) ⟨rfl, rfl⟩
theorem a_224 (X : GX) {z : Nat} {kd : Nat → Nat × Nat} {Rf : Nat → Nat → Option Nat} (hS : Sh z kd Rf) {n dp d : Nat} (hd : dp ≤ d) {I : (Nat → Nat → Int32)} {L : (Nat → Nat → Int64)} {I1 : (Nat → Nat → Int32)} {L1 : (Nat → Nat → Int64)} {r : Int32} (h : g_224 n dp (z, kd, Rf) 0 I L = some (r, I1, L1)) : Ct X d 224 0 0 [.ref 105] (z, kd, I, L, Rf) (AI (fun x τ => x = r ∧ τ = (z, kd, I1, L1, Rf))) :=
  Ct_of mu_224 (Nat.le_of_ble_eq_true rfl) ((w_224 X hS n dp d hd I L _ _ _) h)

/-! 233 CutFloorModel.binds(I)I -/
set_option maxHeartbeats 4000000 in
set_option maxRecDepth 100000 in
def g_233 : Nat → Nat → EN → Nat → (Nat → Nat → Int32) → (Nat → Nat → Int64) → Int32 →  Option (Int32 × (Nat → Nat → Int32) × (Nat → Nat → Int64))
  | 0, _, _, _, _, _, _ => none
  | n + 1, dp, e, lab, I, L, i0 =>
    if lab = 0 then (if i0 < (30 : Int32) then (if i0 = (29 : Int32) then (some ((1 : Int32), I, L)) else (if i0 = (28 : Int32) then (some ((2 : Int32), I, L)) else (if i0 = (27 : Int32) then (some ((3 : Int32), I, L)) else (if i0 < (24 : Int32) then (if i0 < (22 : Int32) then (some ((5 : Int32), I, L)) else (some ((6 : Int32), I, L))) else (some ((4 : Int32), I, L)))))) else (some ((0 : Int32), I, L)))
    else none
set_option maxRecDepth 100000 in
theorem e_233_0 (n dp : Nat) (e : EN) (I : (Nat → Nat → Int32)) (L : (Nat → Nat → Int64)) (i0 : Int32) : g_233 (n + 1) dp e 0 I L i0 = (if i0 < (30 : Int32) then (if i0 = (29 : Int32) then (some ((1 : Int32), I, L)) else (if i0 = (28 : Int32) then (some ((2 : Int32), I, L)) else (if i0 = (27 : Int32) then (some ((3 : Int32), I, L)) else (if i0 < (24 : Int32) then (if i0 < (22 : Int32) then (some ((5 : Int32), I, L)) else (some ((6 : Int32), I, L))) else (some ((4 : Int32), I, L)))))) else (some ((0 : Int32), I, L))) := by rw [g_233.eq_2, if_pos (show (0 : Nat) = 0 from rfl)]
set_option maxHeartbeats 8000000 in
set_option maxRecDepth 100000 in
theorem w_233 (X : GX) {z : Nat} {kd : Nat → Nat × Nat} {Rf : Nat → Nat → Option Nat} (hS : Sh z kd Rf) : ∀ (n dp d : Nat), dp ≤ d → ∀ (I : (Nat → Nat → Int32)) (L : (Nat → Nat → Int64)) (i0 : Int32) (r : Int32) (I1 : (Nat → Nat → Int32)) (L1 : (Nat → Nat → Int64)), (g_233 n dp (z, kd, Rf) 0 I L i0 = some (r, I1, L1) → K X d 233 0 0 (AI (fun x τ => x = r ∧ τ = (z, kd, I1, L1, Rf))) 0 [some (.int i0)] [] (z, kd, I, L, Rf) 0 0) := by
  intro n
  induction n with
  | zero => intro dp d hdp I L i0 r I1 L1; exact fun h => by cases h
  | succ n ih =>
    intro dp d hdp I L i0 r I1 L1
    · intro h
      rw [e_233_0] at h
      refine K_of b_233_0 h_233_0 ?_
      refine q_iload rfl ?_
      refine q_iconst (30) (by decide) ?_
      refine q_icmp_lt (fun c_3 => ?_) (fun c_3 => ?_)
      · rw [if_pos c_3] at h
        refine K_of b_233_10 h_233_10 ?_
        refine q_iload rfl ?_
        refine q_iconst (29) (by decide) ?_
        refine q_icmp_ne (fun c_13 => ?_) (fun c_13 => ?_)
        · rw [if_neg c_13] at h
          refine K_of b_233_20 h_233_20 ?_
          refine q_iload rfl ?_
          refine q_iconst (28) (by decide) ?_
          refine q_icmp_ne (fun c_23 => ?_) (fun c_23 => ?_)
          · rw [if_neg c_23] at h
            refine K_of b_233_30 h_233_30 ?_
            refine q_iload rfl ?_
            refine q_iconst (27) (by decide) ?_
            refine q_icmp_ne (fun c_33 => ?_) (fun c_33 => ?_)
            · rw [if_neg c_33] at h
              refine K_of b_233_40 h_233_40 ?_
              refine q_iload rfl ?_
              refine q_iconst (24) (by decide) ?_
              refine q_icmp_lt (fun c_43 => ?_) (fun c_43 => ?_)
              · rw [if_pos c_43] at h
                refine K_of b_233_50 h_233_50 ?_
                refine q_iload rfl ?_
                refine q_iconst (22) (by decide) ?_
                refine q_icmp_lt (fun c_53 => ?_) (fun c_53 => ?_)
                · rw [if_pos c_53] at h
                  refine K_of b_233_61 h_233_61 ?_
                  refine q_iconst (5) (by decide) ?_
                  refine q_end ?_
                  refine K_of b_233_62 h_233_62 ?_
                  cases h
                  exact q_iret rfl (Nat.le_refl _) (Nat.le_refl _) ⟨rfl, rfl⟩
                · rw [if_neg c_53] at h
                  refine q_iconst (6) (by decide) ?_
                  refine q_goto ?_
                  refine K_of b_233_62 h_233_62 ?_
                  cases h
                  exact q_iret rfl (Nat.le_refl _) (Nat.le_refl _) ⟨rfl, rfl⟩
              · rw [if_neg c_43] at h
                refine q_iconst (4) (by decide) ?_
                refine q_goto ?_
                refine K_of b_233_62 h_233_62 ?_
                cases h
                exact q_iret rfl (Nat.le_refl _) (Nat.le_refl _) ⟨rfl, rfl⟩
            · rw [if_pos c_33] at h
              refine q_iconst (3) (by decide) ?_
              refine q_goto ?_
              refine K_of b_233_62 h_233_62 ?_
              cases h
              exact q_iret rfl (Nat.le_refl _) (Nat.le_refl _) ⟨rfl, rfl⟩
          · rw [if_pos c_23] at h
            refine q_iconst (2) (by decide) ?_
            refine q_goto ?_
            refine K_of b_233_62 h_233_62 ?_
            cases h
            exact q_iret rfl (Nat.le_refl _) (Nat.le_refl _) ⟨rfl, rfl⟩
        · rw [if_pos c_13] at h
          refine q_iconst (1) (by decide) ?_
          refine q_goto ?_
          refine K_of b_233_62 h_233_62 ?_
          cases h
          exact q_iret rfl (Nat.le_refl _) (Nat.le_refl _) ⟨rfl, rfl⟩
      · rw [if_neg c_3] at h
        refine q_iconst (0) (by decide) ?_
        refine q_goto ?_
        refine K_of b_233_62 h_233_62 ?_
        cases h
        exact q_iret rfl (Nat.le_refl _) (Nat.le_refl _) ⟨rfl, rfl⟩
theorem a_233 (X : GX) {z : Nat} {kd : Nat → Nat × Nat} {Rf : Nat → Nat → Option Nat} (hS : Sh z kd Rf) {n dp d : Nat} (hd : dp ≤ d) {I : (Nat → Nat → Int32)} {L : (Nat → Nat → Int64)} {i0 : Int32} {I1 : (Nat → Nat → Int32)} {L1 : (Nat → Nat → Int64)} {r : Int32} (h : g_233 n dp (z, kd, Rf) 0 I L i0 = some (r, I1, L1)) : Ct X d 233 0 0 [.int i0] (z, kd, I, L, Rf) (AI (fun x τ => x = r ∧ τ = (z, kd, I1, L1, Rf))) :=
  Ct_of mu_233 (Nat.le_of_ble_eq_true rfl) ((w_233 X hS n dp d hd I L i0 _ _ _) h)

/-! 234 CutFloorModel.settle(I)V -/
set_option maxHeartbeats 4000000 in
set_option maxRecDepth 100000 in
def g_234 : Nat → Nat → EN → Nat → (Nat → Nat → Int32) → (Nat → Nat → Int64) → Int32 →  Option ((Nat → Nat → Int32) × (Nat → Nat → Int64))
  | 0, _, _, _, _, _, _ => none
  | n + 1, dp, e, lab, I, L, i1 =>
    if lab = 0 then (if (I 105 22) ≤ 0 then (some (I, L)) else (if 0 ≤ ((I 105 22) - (1 : Int32)) ∧ (Int32.toNatClampNeg ((I 105 22) - (1 : Int32))) < 400 then (if 1 ≤ dp then (g_233 n (dp - 1) e 0 I L (I 114 (Int32.toNatClampNeg ((I 105 22) - (1 : Int32))))).bind (fun ⟨x0_18, I0_18, L0_18⟩ => (if x0_18 < i1 then (some (I0_18, L0_18)) else (stI (u2 I0_18 105 22 ((I0_18 105 22) - (1 : Int32))) (fun I_32 => (if 0 ≤ (I_32 105 22) ∧ (Int32.toNatClampNeg (I_32 105 22)) < 400 then (if (I_32 114 (Int32.toNatClampNeg (I_32 105 22))) = (28 : Int32) then (g_234 n dp e 1 I_32 L0_18 i1) else (if 0 ≤ (I_32 105 22) ∧ (Int32.toNatClampNeg (I_32 105 22)) < 400 then (if (I_32 114 (Int32.toNatClampNeg (I_32 105 22))) = (29 : Int32) then (g_234 n dp e 1 I_32 L0_18 i1) else (if 0 ≤ (I_32 105 22) ∧ (Int32.toNatClampNeg (I_32 105 22)) < 400 then (if 1 ≤ dp then (g_231 n (dp - 1) e 0 I_32 L0_18 (I_32 114 (Int32.toNatClampNeg (I_32 105 22))) (0 : Int32)).bind (fun ⟨I1_95, L1_95⟩ => (g_234 n dp e 0 I1_95 L1_95 i1)) else none) else none)) else none)) else none))))) else none) else none))
    else if lab = 1 then (if 0 ≤ (I 105 22) ∧ (Int32.toNatClampNeg (I 105 22)) < 400 then (if 0 ≤ (I 115 (Int32.toNatClampNeg (I 105 22))) ∧ (Int32.toNatClampNeg (I 115 (Int32.toNatClampNeg (I 105 22)))) < 400 then (stI (u2 I 113 (Int32.toNatClampNeg (I 115 (Int32.toNatClampNeg (I 105 22)))) (I 105 16)) (fun I_80 => (g_234 n dp e 0 I_80 L i1))) else none) else none)
    else none
set_option maxRecDepth 100000 in
theorem e_234_0 (n dp : Nat) (e : EN) (I : (Nat → Nat → Int32)) (L : (Nat → Nat → Int64)) (i1 : Int32) : g_234 (n + 1) dp e 0 I L i1 = (if (I 105 22) ≤ 0 then (some (I, L)) else (if 0 ≤ ((I 105 22) - (1 : Int32)) ∧ (Int32.toNatClampNeg ((I 105 22) - (1 : Int32))) < 400 then (if 1 ≤ dp then (g_233 n (dp - 1) e 0 I L (I 114 (Int32.toNatClampNeg ((I 105 22) - (1 : Int32))))).bind (fun ⟨x0_18, I0_18, L0_18⟩ => (if x0_18 < i1 then (some (I0_18, L0_18)) else (stI (u2 I0_18 105 22 ((I0_18 105 22) - (1 : Int32))) (fun I_32 => (if 0 ≤ (I_32 105 22) ∧ (Int32.toNatClampNeg (I_32 105 22)) < 400 then (if (I_32 114 (Int32.toNatClampNeg (I_32 105 22))) = (28 : Int32) then (g_234 n dp e 1 I_32 L0_18 i1) else (if 0 ≤ (I_32 105 22) ∧ (Int32.toNatClampNeg (I_32 105 22)) < 400 then (if (I_32 114 (Int32.toNatClampNeg (I_32 105 22))) = (29 : Int32) then (g_234 n dp e 1 I_32 L0_18 i1) else (if 0 ≤ (I_32 105 22) ∧ (Int32.toNatClampNeg (I_32 105 22)) < 400 then (if 1 ≤ dp then (g_231 n (dp - 1) e 0 I_32 L0_18 (I_32 114 (Int32.toNatClampNeg (I_32 105 22))) (0 : Int32)).bind (fun ⟨I1_95, L1_95⟩ => (g_234 n dp e 0 I1_95 L1_95 i1)) else none) else none)) else none)) else none))))) else none) else none)) := by rw [g_234.eq_2, if_pos (show (0 : Nat) = 0 from rfl)]
set_option maxRecDepth 100000 in
theorem e_234_1 (n dp : Nat) (e : EN) (I : (Nat → Nat → Int32)) (L : (Nat → Nat → Int64)) (i1 : Int32) : g_234 (n + 1) dp e 1 I L i1 = (if 0 ≤ (I 105 22) ∧ (Int32.toNatClampNeg (I 105 22)) < 400 then (if 0 ≤ (I 115 (Int32.toNatClampNeg (I 105 22))) ∧ (Int32.toNatClampNeg (I 115 (Int32.toNatClampNeg (I 105 22)))) < 400 then (stI (u2 I 113 (Int32.toNatClampNeg (I 115 (Int32.toNatClampNeg (I 105 22)))) (I 105 16)) (fun I_80 => (g_234 n dp e 0 I_80 L i1))) else none) else none) := by rw [g_234.eq_2, if_neg (show ¬ ((1 : Nat) = 0) by decide), if_pos (show (1 : Nat) = 1 from rfl)]
set_option maxHeartbeats 8000000 in
set_option maxRecDepth 100000 in
theorem w_234 (X : GX) {z : Nat} {kd : Nat → Nat × Nat} {Rf : Nat → Nat → Option Nat} (hS : Sh z kd Rf) : ∀ (n dp d : Nat), dp ≤ d → ∀ (I : (Nat → Nat → Int32)) (L : (Nat → Nat → Int64)) (i1 : Int32) (I1 : (Nat → Nat → Int32)) (L1 : (Nat → Nat → Int64)), (g_234 n dp (z, kd, Rf) 0 I L i1 = some (I1, L1) → K X d 234 0 0 (AV (fun τ => τ = (z, kd, I1, L1, Rf))) 0 [some (.ref 105), some (.int i1)] [] (z, kd, I, L, Rf) 0 0) ∧
    (g_234 n dp (z, kd, Rf) 1 I L i1 = some (I1, L1) → K X d 234 0 0 (AV (fun τ => τ = (z, kd, I1, L1, Rf))) 63 [some (.ref 105), some (.int i1)] [] (z, kd, I, L, Rf) 0 0) := by
  intro n
  induction n with
  | zero => intro dp d hdp I L i1 I1 L1; exact ⟨(fun h => by cases h), (fun h => by cases h)⟩
  | succ n ih =>
    intro dp d hdp I L i1 I1 L1
    refine ⟨?_, ?_⟩
    · intro h
      rw [e_234_0] at h
      refine K_of b_234_0 h_234_0 ?_
      refine q_aload rfl ?_
      refine q_getI (c0 := 12) (j := 22) rfl rfl (zl hS 105 (by decide)) (sk hS 105 (by decide) rfl) (Or.inl rfl) (by decide) ?_
      refine q_if_le (fun c_4 => ?_) (fun c_4 => ?_)
      · rw [if_pos c_4] at h
        refine K_of b_234_101 h_234_101 ?_
        cases h
        exact q_vret rfl (Nat.le_refl _) (Nat.le_refl _) rfl
      · rw [if_neg c_4] at h
        refine q_aload rfl ?_
        refine q_getRs (c0 := 12) (j := 20) rfl rfl (zl hS 105 (by decide)) (sk hS 105 (by decide) rfl) rfl (by decide) (r_105_20 hS) ?_
        refine q_aload rfl ?_
        refine q_getI (c0 := 12) (j := 22) rfl rfl (zl hS 105 (by decide)) (sk hS 105 (by decide) rfl) (Or.inl rfl) (by decide) ?_
        refine q_iconst (1) (by decide) ?_
        refine q_isub ?_
        obtain ⟨⟨u_17, v_17⟩, h⟩ := ite_some h
        refine q_ialN (Int32.toNatClampNeg ((I 105 22) - (1 : Int32))) (nx u_17) (zl hS 114 (by decide)) (sk hS 114 (by decide) rfl) v_17 (by decide) ?_
        obtain ⟨d_18, h⟩ := ite_some h
        obtain ⟨⟨x0_18, I0_18, L0_18⟩, e_18, h⟩ := Option.bind_eq_some_iff.mp h
        dsimp only at h
        refine q_fs1I (a_233 X hS (d := d - 1) (by omega) e_18) (by omega) (Nat.le_refl _) (Nat.le_refl _) rfl (Nat.le_of_ble_eq_true rfl) ?_
        refine q_iload rfl ?_
        refine q_icmp_lt (fun c_22 => ?_) (fun c_22 => ?_)
        · rw [if_pos c_22] at h
          refine K_of b_234_101 h_234_101 ?_
          cases h
          exact q_vret rfl (Nat.le_refl _) (Nat.le_refl _) rfl
        · rw [if_neg c_22] at h
          refine q_aload rfl ?_
          refine q_dup rfl ?_
          refine q_getI (c0 := 12) (j := 22) rfl rfl (zl hS 105 (by decide)) (sk hS 105 (by decide) rfl) (Or.inl rfl) (by decide) ?_
          refine q_iconst (1) (by decide) ?_
          refine q_isub ?_
          refine q_putI (c0 := 12) (j := 22) rfl rfl (zl hS 105 (by decide)) (sk hS 105 (by decide) rfl) rfl ?_
          obtain ⟨I_32, nI_32, h⟩ := stI_some h
          refine q_nI nI_32 ?_
          refine q_aload rfl ?_
          refine q_getRs (c0 := 12) (j := 20) rfl rfl (zl hS 105 (by decide)) (sk hS 105 (by decide) rfl) rfl (by decide) (r_105_20 hS) ?_
          refine q_aload rfl ?_
          refine q_getI (c0 := 12) (j := 22) rfl rfl (zl hS 105 (by decide)) (sk hS 105 (by decide) rfl) (Or.inl rfl) (by decide) ?_
          obtain ⟨⟨u_43, v_43⟩, h⟩ := ite_some h
          refine q_ialN (Int32.toNatClampNeg (I_32 105 22)) (nx u_43) (zl hS 114 (by decide)) (sk hS 114 (by decide) rfl) v_43 (by decide) ?_
          refine q_iconst (28) (by decide) ?_
          refine q_icmp_eq (fun c_46 => ?_) (fun c_46 => ?_)
          · rw [if_pos c_46] at h
            exact (ih dp d hdp _ _ i1 _ _).2 h
          · rw [if_neg c_46] at h
            refine q_aload rfl ?_
            refine q_getRs (c0 := 12) (j := 20) rfl rfl (zl hS 105 (by decide)) (sk hS 105 (by decide) rfl) rfl (by decide) (r_105_20 hS) ?_
            refine q_aload rfl ?_
            refine q_getI (c0 := 12) (j := 22) rfl rfl (zl hS 105 (by decide)) (sk hS 105 (by decide) rfl) (Or.inl rfl) (by decide) ?_
            obtain ⟨⟨u_57, v_57⟩, h⟩ := ite_some h
            refine q_ialN (Int32.toNatClampNeg (I_32 105 22)) (nx u_57) (zl hS 114 (by decide)) (sk hS 114 (by decide) rfl) v_57 (by decide) ?_
            refine q_iconst (29) (by decide) ?_
            refine q_icmp_ne (fun c_60 => ?_) (fun c_60 => ?_)
            · rw [if_neg c_60] at h
              refine K_of b_234_84 h_234_84 ?_
              refine q_aload rfl ?_
              refine q_aload rfl ?_
              refine q_getRs (c0 := 12) (j := 20) rfl rfl (zl hS 105 (by decide)) (sk hS 105 (by decide) rfl) rfl (by decide) (r_105_20 hS) ?_
              refine q_aload rfl ?_
              refine q_getI (c0 := 12) (j := 22) rfl rfl (zl hS 105 (by decide)) (sk hS 105 (by decide) rfl) (Or.inl rfl) (by decide) ?_
              obtain ⟨⟨u_93, v_93⟩, h⟩ := ite_some h
              refine q_ialN (Int32.toNatClampNeg (I_32 105 22)) (nx u_93) (zl hS 114 (by decide)) (sk hS 114 (by decide) rfl) v_93 (by decide) ?_
              refine q_iconst (0) (by decide) ?_
              obtain ⟨d_95, h⟩ := ite_some h
              obtain ⟨⟨I1_95, L1_95⟩, e_95, h⟩ := Option.bind_eq_some_iff.mp h
              dsimp only at h
              refine q_fv3V (a_231 X hS (d := d - 1) (by omega) e_95) (by omega) (Nat.le_refl _) (Nat.le_refl _) rfl (Nat.le_of_ble_eq_true rfl) ⟨(zl hS 105 (by decide)), congrArg Prod.fst (sk hS 105 (by decide) rfl), by decide⟩ ?_
              refine q_goto ?_
              exact (ih dp d hdp _ _ i1 _ _).1 h
            · rw [if_pos c_60] at h
              refine q_end ?_
              exact (ih dp d hdp _ _ i1 _ _).2 h
    · intro h
      rw [e_234_1] at h
      refine K_of b_234_63 h_234_63 ?_
      refine q_aload rfl ?_
      refine q_getRs (c0 := 12) (j := 18) rfl rfl (zl hS 105 (by decide)) (sk hS 105 (by decide) rfl) rfl (by decide) (r_105_18 hS) ?_
      refine q_aload rfl ?_
      refine q_getRs (c0 := 12) (j := 21) rfl rfl (zl hS 105 (by decide)) (sk hS 105 (by decide) rfl) rfl (by decide) (r_105_21 hS) ?_
      refine q_aload rfl ?_
      refine q_getI (c0 := 12) (j := 22) rfl rfl (zl hS 105 (by decide)) (sk hS 105 (by decide) rfl) (Or.inl rfl) (by decide) ?_
      obtain ⟨⟨u_75, v_75⟩, h⟩ := ite_some h
      refine q_ialN (Int32.toNatClampNeg (I 105 22)) (nx u_75) (zl hS 115 (by decide)) (sk hS 115 (by decide) rfl) v_75 (by decide) ?_
      refine q_aload rfl ?_
      refine q_getI (c0 := 12) (j := 16) rfl rfl (zl hS 105 (by decide)) (sk hS 105 (by decide) rfl) (Or.inl rfl) (by decide) ?_
      obtain ⟨⟨u_80, v_80⟩, h⟩ := ite_some h
      refine q_iasN (Int32.toNatClampNeg (I 115 (Int32.toNatClampNeg (I 105 22)))) (nx u_80) (zl hS 113 (by decide)) (sk hS 113 (by decide) rfl) v_80 (by decide) ?_
      obtain ⟨I_80, nI_80, h⟩ := stI_some h
      refine q_nI nI_80 ?_
      refine q_goto ?_
      exact (ih dp d hdp _ _ i1 _ _).1 h
theorem a_234 (X : GX) {z : Nat} {kd : Nat → Nat × Nat} {Rf : Nat → Nat → Option Nat} (hS : Sh z kd Rf) {n dp d : Nat} (hd : dp ≤ d) {I : (Nat → Nat → Int32)} {L : (Nat → Nat → Int64)} {i1 : Int32} {I1 : (Nat → Nat → Int32)} {L1 : (Nat → Nat → Int64)} (h : g_234 n dp (z, kd, Rf) 0 I L i1 = some (I1, L1)) : Ct X d 234 0 0 [.ref 105, .int i1] (z, kd, I, L, Rf) (AV (fun τ => τ = (z, kd, I1, L1, Rf))) :=
  Ct_of mu_234 (Nat.le_of_ble_eq_true rfl) ((w_234 X hS n dp d hd I L i1 _ _).1 h)

/-! 235 CutFloorModel.inner()I -/
set_option maxHeartbeats 4000000 in
set_option maxRecDepth 100000 in
def g_235 : Nat → Nat → EN → Nat → (Nat → Nat → Int32) → (Nat → Nat → Int64) → Int32 → Int32 →  Option (Int32 × (Nat → Nat → Int32) × (Nat → Nat → Int64))
  | 0, _, _, _, _, _, _, _ => none
  | n + 1, dp, e, lab, I, L, i1, i2 =>
    if lab = 0 then (g_235 n dp e 1 I L (-1 : Int32) (0 : Int32))
    else if lab = 1 then (if (I 105 22) ≤ i2 then (some (i1, I, L)) else (if 0 ≤ i2 ∧ (Int32.toNatClampNeg i2) < 400 then (if (I 114 (Int32.toNatClampNeg i2)) < (30 : Int32) then (g_235 n dp e 1 I L i1 (i2 + Int32.ofInt (1))) else (if 0 ≤ i2 ∧ (Int32.toNatClampNeg i2) < 400 then (stI (I 114 (Int32.toNatClampNeg i2)) (fun v_33 => (g_235 n dp e 1 I L v_33 (i2 + Int32.ofInt (1))))) else none)) else none))
    else none
set_option maxRecDepth 100000 in
theorem e_235_0 (n dp : Nat) (e : EN) (I : (Nat → Nat → Int32)) (L : (Nat → Nat → Int64)) (i1 : Int32) (i2 : Int32) : g_235 (n + 1) dp e 0 I L i1 i2 = (g_235 n dp e 1 I L (-1 : Int32) (0 : Int32)) := by rw [g_235.eq_2, if_pos (show (0 : Nat) = 0 from rfl)]
set_option maxRecDepth 100000 in
theorem e_235_1 (n dp : Nat) (e : EN) (I : (Nat → Nat → Int32)) (L : (Nat → Nat → Int64)) (i1 : Int32) (i2 : Int32) : g_235 (n + 1) dp e 1 I L i1 i2 = (if (I 105 22) ≤ i2 then (some (i1, I, L)) else (if 0 ≤ i2 ∧ (Int32.toNatClampNeg i2) < 400 then (if (I 114 (Int32.toNatClampNeg i2)) < (30 : Int32) then (g_235 n dp e 1 I L i1 (i2 + Int32.ofInt (1))) else (if 0 ≤ i2 ∧ (Int32.toNatClampNeg i2) < 400 then (stI (I 114 (Int32.toNatClampNeg i2)) (fun v_33 => (g_235 n dp e 1 I L v_33 (i2 + Int32.ofInt (1))))) else none)) else none)) := by rw [g_235.eq_2, if_neg (show ¬ ((1 : Nat) = 0) by decide), if_pos (show (1 : Nat) = 1 from rfl)]
set_option maxHeartbeats 8000000 in
set_option maxRecDepth 100000 in
theorem w_235 (X : GX) {z : Nat} {kd : Nat → Nat × Nat} {Rf : Nat → Nat → Option Nat} (hS : Sh z kd Rf) : ∀ (n dp d : Nat), dp ≤ d → ∀ (I : (Nat → Nat → Int32)) (L : (Nat → Nat → Int64)) (i1 : Int32) (i2 : Int32) (r : Int32) (I1 : (Nat → Nat → Int32)) (L1 : (Nat → Nat → Int64)), (g_235 n dp (z, kd, Rf) 0 I L i1 i2 = some (r, I1, L1) → K X d 235 0 0 (AI (fun x τ => x = r ∧ τ = (z, kd, I1, L1, Rf))) 0 [some (.ref 105), none, none] [] (z, kd, I, L, Rf) 0 0) ∧
    (g_235 n dp (z, kd, Rf) 1 I L i1 i2 = some (r, I1, L1) → K X d 235 0 0 (AI (fun x τ => x = r ∧ τ = (z, kd, I1, L1, Rf))) 4 [some (.ref 105), some (.int i1), some (.int i2)] [] (z, kd, I, L, Rf) 0 0) := by
  intro n
  induction n with
  | zero => intro dp d hdp I L i1 i2 r I1 L1; exact ⟨(fun h => by cases h), (fun h => by cases h)⟩
  | succ n ih =>
    intro dp d hdp I L i1 i2 r I1 L1
    refine ⟨?_, ?_⟩
    · intro h
      rw [e_235_0] at h
      refine K_of b_235_0 h_235_0 ?_
      refine q_iconst (-1) (by decide) ?_
      refine q_istore (ls1 := [some (.ref 105), some (.int (-1 : Int32)), none]) (Nat.le_of_ble_eq_true rfl) rfl ?_
      refine q_iconst (0) (by decide) ?_
      refine q_istore (ls1 := [some (.ref 105), some (.int (-1 : Int32)), some (.int (0 : Int32))]) (Nat.le_of_ble_eq_true rfl) rfl ?_
      refine q_end ?_
      exact (ih dp d hdp _ _ (-1 : Int32) (0 : Int32) _ _ _).2 h
    · intro h
      rw [e_235_1] at h
      refine K_of b_235_4 h_235_4 ?_
      refine q_iload rfl ?_
      refine q_aload rfl ?_
      refine q_getI (c0 := 12) (j := 22) rfl rfl (zl hS 105 (by decide)) (sk hS 105 (by decide) rfl) (Or.inl rfl) (by decide) ?_
      refine q_icmp_ge (fun c_9 => ?_) (fun c_9 => ?_)
      · rw [if_pos c_9] at h
        refine K_of b_235_40 h_235_40 ?_
        refine q_iload rfl ?_
        cases h
        exact q_iret rfl (Nat.le_refl _) (Nat.le_refl _) ⟨rfl, rfl⟩
      · rw [if_neg c_9] at h
        refine q_aload rfl ?_
        refine q_getRs (c0 := 12) (j := 20) rfl rfl (zl hS 105 (by decide)) (sk hS 105 (by decide) rfl) rfl (by decide) (r_105_20 hS) ?_
        refine q_iload rfl ?_
        obtain ⟨⟨u_17, v_17⟩, h⟩ := ite_some h
        refine q_ialN (Int32.toNatClampNeg i2) (nx u_17) (zl hS 114 (by decide)) (sk hS 114 (by decide) rfl) v_17 (by decide) ?_
        refine q_iconst (30) (by decide) ?_
        refine q_icmp_lt (fun c_20 => ?_) (fun c_20 => ?_)
        · rw [if_pos c_20] at h
          refine K_of b_235_32 h_235_32 ?_
          refine q_iload rfl ?_
          refine q_end ?_
          refine K_of b_235_33 h_235_33 ?_
          refine q_istore (ls1 := [some (.ref 105), some (.int i1), some (.int i2)]) (Nat.le_of_ble_eq_true rfl) rfl ?_
          refine q_iinc (ls1 := [some (.ref 105), some (.int i1), some (.int (i2 + Int32.ofInt (1)))]) rfl rfl ?_
          refine q_goto ?_
          exact (ih dp d hdp _ _ i1 (i2 + Int32.ofInt (1)) _ _ _).2 h
        · rw [if_neg c_20] at h
          refine q_aload rfl ?_
          refine q_getRs (c0 := 12) (j := 20) rfl rfl (zl hS 105 (by decide)) (sk hS 105 (by decide) rfl) rfl (by decide) (r_105_20 hS) ?_
          refine q_iload rfl ?_
          obtain ⟨⟨u_28, v_28⟩, h⟩ := ite_some h
          refine q_ialN (Int32.toNatClampNeg i2) (nx u_28) (zl hS 114 (by decide)) (sk hS 114 (by decide) rfl) v_28 (by decide) ?_
          refine q_goto ?_
          refine K_of b_235_33 h_235_33 ?_
          obtain ⟨v_33, nv_33, h⟩ := stI_some h
          refine q_eqi nv_33.symm ?_
          refine q_istore (ls1 := [some (.ref 105), some (.int v_33), some (.int i2)]) (Nat.le_of_ble_eq_true rfl) rfl ?_
          refine q_iinc (ls1 := [some (.ref 105), some (.int v_33), some (.int (i2 + Int32.ofInt (1)))]) rfl rfl ?_
          refine q_goto ?_
          exact (ih dp d hdp _ _ v_33 (i2 + Int32.ofInt (1)) _ _ _).2 h
theorem a_235 (X : GX) {z : Nat} {kd : Nat → Nat × Nat} {Rf : Nat → Nat → Option Nat} (hS : Sh z kd Rf) {n dp d : Nat} (hd : dp ≤ d) {I : (Nat → Nat → Int32)} {L : (Nat → Nat → Int64)} {I1 : (Nat → Nat → Int32)} {L1 : (Nat → Nat → Int64)} {r : Int32} (h : g_235 n dp (z, kd, Rf) 0 I L 0 0 = some (r, I1, L1)) : Ct X d 235 0 0 [.ref 105] (z, kd, I, L, Rf) (AI (fun x τ => x = r ∧ τ = (z, kd, I1, L1, Rf))) :=
  Ct_of mu_235 (Nat.le_of_ble_eq_true rfl) ((w_235 X hS n dp d hd I L 0 0 _ _ _).1 h)

/-! 236 CutFloorModel.isCompared()Z -/
set_option maxHeartbeats 4000000 in
set_option maxRecDepth 100000 in
def g_236 : Nat → Nat → EN → Nat → (Nat → Nat → Int32) → (Nat → Nat → Int64) → Int32 →  Option (Int32 × (Nat → Nat → Int32) × (Nat → Nat → Int64))
  | 0, _, _, _, _, _, _ => none
  | n + 1, dp, e, lab, I, L, i1 =>
    if lab = 0 then (stI ((I 105 22) - (1 : Int32)) (fun v_6 => (g_236 n dp e 1 I L v_6)))
    else if lab = 1 then (if i1 < 0 then (g_236 n dp e 2 I L i1) else (if 0 ≤ i1 ∧ (Int32.toNatClampNeg i1) < 400 then (if 1 ≤ dp then (g_193 n (dp - 1) e 0 I L (Int32.toInt64 (I 114 (Int32.toNatClampNeg i1))) (20 : Int64) (23 : Int64)).bind (fun ⟨x0_24, I0_24, L0_24⟩ => (if x0_24 = 0 then (g_236 n dp e 2 I0_24 L0_24 i1) else (g_236 n dp e 1 I0_24 L0_24 (i1 + Int32.ofInt (-1))))) else none) else none))
    else if lab = 2 then (if i1 < 0 then (some ((0 : Int32), I, L)) else (if 0 ≤ i1 ∧ (Int32.toNatClampNeg i1) < 400 then (if 1 ≤ dp then (g_193 n (dp - 1) e 0 I L (Int32.toInt64 (I 114 (Int32.toNatClampNeg i1))) (24 : Int64) (26 : Int64)).bind (fun ⟨x0_53, I0_53, L0_53⟩ => (if x0_53 = 0 then (some ((0 : Int32), I0_53, L0_53)) else (some ((1 : Int32), I0_53, L0_53)))) else none) else none))
    else none
set_option maxRecDepth 100000 in
theorem e_236_0 (n dp : Nat) (e : EN) (I : (Nat → Nat → Int32)) (L : (Nat → Nat → Int64)) (i1 : Int32) : g_236 (n + 1) dp e 0 I L i1 = (stI ((I 105 22) - (1 : Int32)) (fun v_6 => (g_236 n dp e 1 I L v_6))) := by rw [g_236.eq_2, if_pos (show (0 : Nat) = 0 from rfl)]
set_option maxRecDepth 100000 in
theorem e_236_1 (n dp : Nat) (e : EN) (I : (Nat → Nat → Int32)) (L : (Nat → Nat → Int64)) (i1 : Int32) : g_236 (n + 1) dp e 1 I L i1 = (if i1 < 0 then (g_236 n dp e 2 I L i1) else (if 0 ≤ i1 ∧ (Int32.toNatClampNeg i1) < 400 then (if 1 ≤ dp then (g_193 n (dp - 1) e 0 I L (Int32.toInt64 (I 114 (Int32.toNatClampNeg i1))) (20 : Int64) (23 : Int64)).bind (fun ⟨x0_24, I0_24, L0_24⟩ => (if x0_24 = 0 then (g_236 n dp e 2 I0_24 L0_24 i1) else (g_236 n dp e 1 I0_24 L0_24 (i1 + Int32.ofInt (-1))))) else none) else none)) := by rw [g_236.eq_2, if_neg (show ¬ ((1 : Nat) = 0) by decide), if_pos (show (1 : Nat) = 1 from rfl)]
set_option maxRecDepth 100000 in
theorem e_236_2 (n dp : Nat) (e : EN) (I : (Nat → Nat → Int32)) (L : (Nat → Nat → Int64)) (i1 : Int32) : g_236 (n + 1) dp e 2 I L i1 = (if i1 < 0 then (some ((0 : Int32), I, L)) else (if 0 ≤ i1 ∧ (Int32.toNatClampNeg i1) < 400 then (if 1 ≤ dp then (g_193 n (dp - 1) e 0 I L (Int32.toInt64 (I 114 (Int32.toNatClampNeg i1))) (24 : Int64) (26 : Int64)).bind (fun ⟨x0_53, I0_53, L0_53⟩ => (if x0_53 = 0 then (some ((0 : Int32), I0_53, L0_53)) else (some ((1 : Int32), I0_53, L0_53)))) else none) else none)) := by rw [g_236.eq_2, if_neg (show ¬ ((2 : Nat) = 0) by decide), if_neg (show ¬ ((2 : Nat) = 1) by decide), if_pos (show (2 : Nat) = 2 from rfl)]
set_option maxHeartbeats 8000000 in
set_option maxRecDepth 100000 in
theorem w_236 (X : GX) {z : Nat} {kd : Nat → Nat × Nat} {Rf : Nat → Nat → Option Nat} (hS : Sh z kd Rf) : ∀ (n dp d : Nat), dp ≤ d → ∀ (I : (Nat → Nat → Int32)) (L : (Nat → Nat → Int64)) (i1 : Int32) (r : Int32) (I1 : (Nat → Nat → Int32)) (L1 : (Nat → Nat → Int64)), (g_236 n dp (z, kd, Rf) 0 I L i1 = some (r, I1, L1) → K X d 236 0 0 (AI (fun x τ => x = r ∧ τ = (z, kd, I1, L1, Rf))) 0 [some (.ref 105), none] [] (z, kd, I, L, Rf) 0 0) ∧
    (g_236 n dp (z, kd, Rf) 1 I L i1 = some (r, I1, L1) → K X d 236 0 0 (AI (fun x τ => x = r ∧ τ = (z, kd, I1, L1, Rf))) 7 [some (.ref 105), some (.int i1)] [] (z, kd, I, L, Rf) 0 0) ∧
    (g_236 n dp (z, kd, Rf) 2 I L i1 = some (r, I1, L1) → K X d 236 0 0 (AI (fun x τ => x = r ∧ τ = (z, kd, I1, L1, Rf))) 36 [some (.ref 105), some (.int i1)] [] (z, kd, I, L, Rf) 0 0) := by
  intro n
  induction n with
  | zero => intro dp d hdp I L i1 r I1 L1; exact ⟨(fun h => by cases h), (fun h => by cases h), (fun h => by cases h)⟩
  | succ n ih =>
    intro dp d hdp I L i1 r I1 L1
    refine ⟨?_, ?_, ?_⟩
    · intro h
      rw [e_236_0] at h
      refine K_of b_236_0 h_236_0 ?_
      refine q_aload rfl ?_
      refine q_getI (c0 := 12) (j := 22) rfl rfl (zl hS 105 (by decide)) (sk hS 105 (by decide) rfl) (Or.inl rfl) (by decide) ?_
      refine q_iconst (1) (by decide) ?_
      refine q_isub ?_
      obtain ⟨v_6, nv_6, h⟩ := stI_some h
      refine q_eqi nv_6.symm ?_
      refine q_istore (ls1 := [some (.ref 105), some (.int v_6)]) (Nat.le_of_ble_eq_true rfl) rfl ?_
      refine q_end ?_
      exact (ih dp d hdp _ _ v_6 _ _ _).2.1 h
    · intro h
      rw [e_236_1] at h
      refine K_of b_236_7 h_236_7 ?_
      refine q_iload rfl ?_
      refine q_if_lt (fun c_8 => ?_) (fun c_8 => ?_)
      · rw [if_pos c_8] at h
        exact (ih dp d hdp _ _ i1 _ _ _).2.2 h
      · rw [if_neg c_8] at h
        refine q_aload rfl ?_
        refine q_getRs (c0 := 12) (j := 20) rfl rfl (zl hS 105 (by decide)) (sk hS 105 (by decide) rfl) rfl (by decide) (r_105_20 hS) ?_
        refine q_iload rfl ?_
        obtain ⟨⟨u_16, v_16⟩, h⟩ := ite_some h
        refine q_ialN (Int32.toNatClampNeg i1) (nx u_16) (zl hS 114 (by decide)) (sk hS 114 (by decide) rfl) v_16 (by decide) ?_
        refine q_i2l ?_
        refine q_lconst (20) (by decide) ?_
        refine q_lconst (23) (by decide) ?_
        obtain ⟨d_24, h⟩ := ite_some h
        obtain ⟨⟨x0_24, I0_24, L0_24⟩, e_24, h⟩ := Option.bind_eq_some_iff.mp h
        dsimp only at h
        refine q_fs3I (a_193 X hS (d := d - 1) (by omega) e_24) (by omega) (Nat.le_refl _) (Nat.le_refl _) rfl (Nat.le_of_ble_eq_true rfl) ?_
        refine q_if_eq (fun c_27 => ?_) (fun c_27 => ?_)
        · rw [if_pos c_27] at h
          exact (ih dp d hdp _ _ i1 _ _ _).2.2 h
        · rw [if_neg c_27] at h
          refine q_iinc (ls1 := [some (.ref 105), some (.int (i1 + Int32.ofInt (-1)))]) rfl rfl ?_
          refine q_goto ?_
          exact (ih dp d hdp _ _ (i1 + Int32.ofInt (-1)) _ _ _).2.1 h
    · intro h
      rw [e_236_2] at h
      refine K_of b_236_36 h_236_36 ?_
      refine q_iload rfl ?_
      refine q_if_lt (fun c_37 => ?_) (fun c_37 => ?_)
      · rw [if_pos c_37] at h
        refine K_of b_236_63 h_236_63 ?_
        refine q_iconst (0) (by decide) ?_
        refine q_end ?_
        refine K_of b_236_64 h_236_64 ?_
        cases h
        exact q_iret rfl (Nat.le_refl _) (Nat.le_refl _) ⟨rfl, rfl⟩
      · rw [if_neg c_37] at h
        refine q_aload rfl ?_
        refine q_getRs (c0 := 12) (j := 20) rfl rfl (zl hS 105 (by decide)) (sk hS 105 (by decide) rfl) rfl (by decide) (r_105_20 hS) ?_
        refine q_iload rfl ?_
        obtain ⟨⟨u_45, v_45⟩, h⟩ := ite_some h
        refine q_ialN (Int32.toNatClampNeg i1) (nx u_45) (zl hS 114 (by decide)) (sk hS 114 (by decide) rfl) v_45 (by decide) ?_
        refine q_i2l ?_
        refine q_lconst (24) (by decide) ?_
        refine q_lconst (26) (by decide) ?_
        obtain ⟨d_53, h⟩ := ite_some h
        obtain ⟨⟨x0_53, I0_53, L0_53⟩, e_53, h⟩ := Option.bind_eq_some_iff.mp h
        dsimp only at h
        refine q_fs3I (a_193 X hS (d := d - 1) (by omega) e_53) (by omega) (Nat.le_refl _) (Nat.le_refl _) rfl (Nat.le_of_ble_eq_true rfl) ?_
        refine q_if_eq (fun c_56 => ?_) (fun c_56 => ?_)
        · rw [if_pos c_56] at h
          refine K_of b_236_63 h_236_63 ?_
          refine q_iconst (0) (by decide) ?_
          refine q_end ?_
          refine K_of b_236_64 h_236_64 ?_
          cases h
          exact q_iret rfl (Nat.le_refl _) (Nat.le_refl _) ⟨rfl, rfl⟩
        · rw [if_neg c_56] at h
          refine q_iconst (1) (by decide) ?_
          refine q_goto ?_
          refine K_of b_236_64 h_236_64 ?_
          cases h
          exact q_iret rfl (Nat.le_refl _) (Nat.le_refl _) ⟨rfl, rfl⟩
theorem a_236 (X : GX) {z : Nat} {kd : Nat → Nat × Nat} {Rf : Nat → Nat → Option Nat} (hS : Sh z kd Rf) {n dp d : Nat} (hd : dp ≤ d) {I : (Nat → Nat → Int32)} {L : (Nat → Nat → Int64)} {I1 : (Nat → Nat → Int32)} {L1 : (Nat → Nat → Int64)} {r : Int32} (h : g_236 n dp (z, kd, Rf) 0 I L 0 = some (r, I1, L1)) : Ct X d 236 0 0 [.ref 105] (z, kd, I, L, Rf) (AI (fun x τ => x = r ∧ τ = (z, kd, I1, L1, Rf))) :=
  Ct_of mu_236 (Nat.le_of_ble_eq_true rfl) ((w_236 X hS n dp d hd I L 0 _ _ _).1 h)

/-! 232 CutFloorModel.behindSum(Z)I -/
set_option maxHeartbeats 4000000 in
set_option maxRecDepth 100000 in
def g_232 : Nat → Nat → EN → Nat → (Nat → Nat → Int32) → (Nat → Nat → Int64) → Int32 → Int32 → Int32 →  Option (Int32 × (Nat → Nat → Int32) × (Nat → Nat → Int64))
  | 0, _, _, _, _, _, _, _, _ => none
  | n + 1, dp, e, lab, I, L, i1, i2, i3 =>
    if lab = 0 then (if 1 ≤ dp then (g_226 n (dp - 1) e 0 I L (43 : Int32)).bind (fun ⟨x0_3, I0_3, L0_3⟩ => (if x0_3 = 0 then (if 1 ≤ dp then (g_226 n (dp - 1) e 0 I0_3 L0_3 (45 : Int32)).bind (fun ⟨x1_17, I1_17, L1_17⟩ => (if x1_17 = 0 then (if 1 ≤ dp then (g_226 n (dp - 1) e 0 I1_17 L1_17 (42 : Int32)).bind (fun ⟨x2_31, I2_31, L2_31⟩ => (if x2_31 = 0 then (if 1 ≤ dp then (g_226 n (dp - 1) e 0 I2_31 L2_31 (47 : Int32)).bind (fun ⟨x3_45, I3_45, L3_45⟩ => (if x3_45 = 0 then (if (-1 : Int32) = (-1 : Int32) then (if 1 ≤ dp then (g_235 n (dp - 1) e 0 I3_45 L3_45 0 0).bind (fun ⟨x4_84, I4_84, L4_84⟩ => (if x4_84 = (31 : Int32) then (if 1 ≤ dp then (g_226 n (dp - 1) e 0 I4_84 L4_84 (93 : Int32)).bind (fun ⟨x5_98, I5_98, L5_98⟩ => (if 1 ≤ dp then (g_219 n (dp - 1) e 0 I5_98 L5_98 x5_98).bind (fun ⟨I6_101, L6_101⟩ => (if (I6_101 105 13) = 0 then (if 1 ≤ dp then (g_234 n (dp - 1) e 0 I6_101 L6_101 (5 : Int32)).bind (fun ⟨I7_113, L7_113⟩ => (stI (u2 I7_113 105 22 ((I7_113 105 22) - (1 : Int32))) (fun I_123 => (stI (u2 I_123 105 23 ((I_123 105 23) - (1 : Int32))) (fun I_133 => (some ((3 : Int32), I_133, L7_113))))))) else none) else (some ((3 : Int32), I6_101, L6_101)))) else none)) else none) else (if x4_84 = (-1 : Int32) then (if i1 = 0 then (some ((4 : Int32), I4_84, L4_84)) else (g_232 n dp e 1 I4_84 L4_84 i1 (-1 : Int32) x4_84)) else (g_232 n dp e 1 I4_84 L4_84 i1 (-1 : Int32) x4_84)))) else none) else (if 1 ≤ dp then (g_233 n (dp - 1) e 0 I3_45 L3_45 (-1 : Int32)).bind (fun ⟨x4_65, I4_65, L4_65⟩ => (if 1 ≤ dp then (g_234 n (dp - 1) e 0 I4_65 L4_65 x4_65).bind (fun ⟨I5_68, L5_68⟩ => (if 1 ≤ dp then (g_225 n (dp - 1) e 0 I5_68 L5_68 (-1 : Int32) (0 : Int32)).bind (fun ⟨I6_74, L6_74⟩ => (if 1 ≤ dp then (g_214 n (dp - 1) e 0 I6_74 L6_74).bind (fun ⟨I7_78, L7_78⟩ => (some ((1 : Int32), I7_78, L7_78))) else none)) else none)) else none)) else none)) else (if (23 : Int32) = (-1 : Int32) then (if 1 ≤ dp then (g_235 n (dp - 1) e 0 I3_45 L3_45 0 0).bind (fun ⟨x4_84, I4_84, L4_84⟩ => (if x4_84 = (31 : Int32) then (if 1 ≤ dp then (g_226 n (dp - 1) e 0 I4_84 L4_84 (93 : Int32)).bind (fun ⟨x5_98, I5_98, L5_98⟩ => (if 1 ≤ dp then (g_219 n (dp - 1) e 0 I5_98 L5_98 x5_98).bind (fun ⟨I6_101, L6_101⟩ => (if (I6_101 105 13) = 0 then (if 1 ≤ dp then (g_234 n (dp - 1) e 0 I6_101 L6_101 (5 : Int32)).bind (fun ⟨I7_113, L7_113⟩ => (stI (u2 I7_113 105 22 ((I7_113 105 22) - (1 : Int32))) (fun I_123 => (stI (u2 I_123 105 23 ((I_123 105 23) - (1 : Int32))) (fun I_133 => (some ((3 : Int32), I_133, L7_113))))))) else none) else (some ((3 : Int32), I6_101, L6_101)))) else none)) else none) else (if x4_84 = (-1 : Int32) then (if i1 = 0 then (some ((4 : Int32), I4_84, L4_84)) else (g_232 n dp e 1 I4_84 L4_84 i1 (23 : Int32) x4_84)) else (g_232 n dp e 1 I4_84 L4_84 i1 (23 : Int32) x4_84)))) else none) else (if 1 ≤ dp then (g_233 n (dp - 1) e 0 I3_45 L3_45 (23 : Int32)).bind (fun ⟨x4_65, I4_65, L4_65⟩ => (if 1 ≤ dp then (g_234 n (dp - 1) e 0 I4_65 L4_65 x4_65).bind (fun ⟨I5_68, L5_68⟩ => (if 1 ≤ dp then (g_225 n (dp - 1) e 0 I5_68 L5_68 (23 : Int32) (0 : Int32)).bind (fun ⟨I6_74, L6_74⟩ => (if 1 ≤ dp then (g_214 n (dp - 1) e 0 I6_74 L6_74).bind (fun ⟨I7_78, L7_78⟩ => (some ((1 : Int32), I7_78, L7_78))) else none)) else none)) else none)) else none)))) else none) else (if (22 : Int32) = (-1 : Int32) then (if 1 ≤ dp then (g_235 n (dp - 1) e 0 I2_31 L2_31 0 0).bind (fun ⟨x3_84, I3_84, L3_84⟩ => (if x3_84 = (31 : Int32) then (if 1 ≤ dp then (g_226 n (dp - 1) e 0 I3_84 L3_84 (93 : Int32)).bind (fun ⟨x4_98, I4_98, L4_98⟩ => (if 1 ≤ dp then (g_219 n (dp - 1) e 0 I4_98 L4_98 x4_98).bind (fun ⟨I5_101, L5_101⟩ => (if (I5_101 105 13) = 0 then (if 1 ≤ dp then (g_234 n (dp - 1) e 0 I5_101 L5_101 (5 : Int32)).bind (fun ⟨I6_113, L6_113⟩ => (stI (u2 I6_113 105 22 ((I6_113 105 22) - (1 : Int32))) (fun I_123 => (stI (u2 I_123 105 23 ((I_123 105 23) - (1 : Int32))) (fun I_133 => (some ((3 : Int32), I_133, L6_113))))))) else none) else (some ((3 : Int32), I5_101, L5_101)))) else none)) else none) else (if x3_84 = (-1 : Int32) then (if i1 = 0 then (some ((4 : Int32), I3_84, L3_84)) else (g_232 n dp e 1 I3_84 L3_84 i1 (22 : Int32) x3_84)) else (g_232 n dp e 1 I3_84 L3_84 i1 (22 : Int32) x3_84)))) else none) else (if 1 ≤ dp then (g_233 n (dp - 1) e 0 I2_31 L2_31 (22 : Int32)).bind (fun ⟨x3_65, I3_65, L3_65⟩ => (if 1 ≤ dp then (g_234 n (dp - 1) e 0 I3_65 L3_65 x3_65).bind (fun ⟨I4_68, L4_68⟩ => (if 1 ≤ dp then (g_225 n (dp - 1) e 0 I4_68 L4_68 (22 : Int32) (0 : Int32)).bind (fun ⟨I5_74, L5_74⟩ => (if 1 ≤ dp then (g_214 n (dp - 1) e 0 I5_74 L5_74).bind (fun ⟨I6_78, L6_78⟩ => (some ((1 : Int32), I6_78, L6_78))) else none)) else none)) else none)) else none)))) else none) else (if (21 : Int32) = (-1 : Int32) then (if 1 ≤ dp then (g_235 n (dp - 1) e 0 I1_17 L1_17 0 0).bind (fun ⟨x2_84, I2_84, L2_84⟩ => (if x2_84 = (31 : Int32) then (if 1 ≤ dp then (g_226 n (dp - 1) e 0 I2_84 L2_84 (93 : Int32)).bind (fun ⟨x3_98, I3_98, L3_98⟩ => (if 1 ≤ dp then (g_219 n (dp - 1) e 0 I3_98 L3_98 x3_98).bind (fun ⟨I4_101, L4_101⟩ => (if (I4_101 105 13) = 0 then (if 1 ≤ dp then (g_234 n (dp - 1) e 0 I4_101 L4_101 (5 : Int32)).bind (fun ⟨I5_113, L5_113⟩ => (stI (u2 I5_113 105 22 ((I5_113 105 22) - (1 : Int32))) (fun I_123 => (stI (u2 I_123 105 23 ((I_123 105 23) - (1 : Int32))) (fun I_133 => (some ((3 : Int32), I_133, L5_113))))))) else none) else (some ((3 : Int32), I4_101, L4_101)))) else none)) else none) else (if x2_84 = (-1 : Int32) then (if i1 = 0 then (some ((4 : Int32), I2_84, L2_84)) else (g_232 n dp e 1 I2_84 L2_84 i1 (21 : Int32) x2_84)) else (g_232 n dp e 1 I2_84 L2_84 i1 (21 : Int32) x2_84)))) else none) else (if 1 ≤ dp then (g_233 n (dp - 1) e 0 I1_17 L1_17 (21 : Int32)).bind (fun ⟨x2_65, I2_65, L2_65⟩ => (if 1 ≤ dp then (g_234 n (dp - 1) e 0 I2_65 L2_65 x2_65).bind (fun ⟨I3_68, L3_68⟩ => (if 1 ≤ dp then (g_225 n (dp - 1) e 0 I3_68 L3_68 (21 : Int32) (0 : Int32)).bind (fun ⟨I4_74, L4_74⟩ => (if 1 ≤ dp then (g_214 n (dp - 1) e 0 I4_74 L4_74).bind (fun ⟨I5_78, L5_78⟩ => (some ((1 : Int32), I5_78, L5_78))) else none)) else none)) else none)) else none)))) else none) else (if (20 : Int32) = (-1 : Int32) then (if 1 ≤ dp then (g_235 n (dp - 1) e 0 I0_3 L0_3 0 0).bind (fun ⟨x1_84, I1_84, L1_84⟩ => (if x1_84 = (31 : Int32) then (if 1 ≤ dp then (g_226 n (dp - 1) e 0 I1_84 L1_84 (93 : Int32)).bind (fun ⟨x2_98, I2_98, L2_98⟩ => (if 1 ≤ dp then (g_219 n (dp - 1) e 0 I2_98 L2_98 x2_98).bind (fun ⟨I3_101, L3_101⟩ => (if (I3_101 105 13) = 0 then (if 1 ≤ dp then (g_234 n (dp - 1) e 0 I3_101 L3_101 (5 : Int32)).bind (fun ⟨I4_113, L4_113⟩ => (stI (u2 I4_113 105 22 ((I4_113 105 22) - (1 : Int32))) (fun I_123 => (stI (u2 I_123 105 23 ((I_123 105 23) - (1 : Int32))) (fun I_133 => (some ((3 : Int32), I_133, L4_113))))))) else none) else (some ((3 : Int32), I3_101, L3_101)))) else none)) else none) else (if x1_84 = (-1 : Int32) then (if i1 = 0 then (some ((4 : Int32), I1_84, L1_84)) else (g_232 n dp e 1 I1_84 L1_84 i1 (20 : Int32) x1_84)) else (g_232 n dp e 1 I1_84 L1_84 i1 (20 : Int32) x1_84)))) else none) else (if 1 ≤ dp then (g_233 n (dp - 1) e 0 I0_3 L0_3 (20 : Int32)).bind (fun ⟨x1_65, I1_65, L1_65⟩ => (if 1 ≤ dp then (g_234 n (dp - 1) e 0 I1_65 L1_65 x1_65).bind (fun ⟨I2_68, L2_68⟩ => (if 1 ≤ dp then (g_225 n (dp - 1) e 0 I2_68 L2_68 (20 : Int32) (0 : Int32)).bind (fun ⟨I3_74, L3_74⟩ => (if 1 ≤ dp then (g_214 n (dp - 1) e 0 I3_74 L3_74).bind (fun ⟨I4_78, L4_78⟩ => (some ((1 : Int32), I4_78, L4_78))) else none)) else none)) else none)) else none)))) else none)
    else if lab = 1 then (if 1 ≤ dp then (g_236 n (dp - 1) e 0 I L 0).bind (fun ⟨x0_150, I0_150, L0_150⟩ => (if x0_150 = 0 then (if 1 ≤ dp then (g_226 n (dp - 1) e 0 I0_150 L0_150 (60 : Int32)).bind (fun ⟨x1_161, I1_161, L1_161⟩ => (if x1_161 = 0 then (if 1 ≤ dp then (g_226 n (dp - 1) e 0 I1_161 L1_161 (62 : Int32)).bind (fun ⟨x2_175, I2_175, L2_175⟩ => (if x2_175 = 0 then (if (26 : Int32) = (26 : Int32) then (if 1 ≤ dp then (g_226 n (dp - 1) e 0 I2_175 L2_175 (61 : Int32)).bind (fun ⟨x3_199, I3_199, L3_199⟩ => (if x3_199 = 0 then (if 1 ≤ dp then (g_219 n (dp - 1) e 0 I3_199 L3_199 (0 : Int32)).bind (fun ⟨I4_210, L4_210⟩ => (if (I4_210 105 13) = 0 then (if 1 ≤ dp then (g_234 n (dp - 1) e 0 I4_210 L4_210 (5 : Int32)).bind (fun ⟨I5_222, L5_222⟩ => (if 1 ≤ dp then (g_225 n (dp - 1) e 0 I5_222 L5_222 (26 : Int32) (0 : Int32)).bind (fun ⟨I6_228, L6_228⟩ => (some ((1 : Int32), I6_228, L6_228))) else none)) else none) else (some ((1 : Int32), I4_210, L4_210)))) else none) else (if 1 ≤ dp then (g_219 n (dp - 1) e 0 I3_199 L3_199 (1 : Int32)).bind (fun ⟨I4_210, L4_210⟩ => (if (I4_210 105 13) = 0 then (if 1 ≤ dp then (g_234 n (dp - 1) e 0 I4_210 L4_210 (5 : Int32)).bind (fun ⟨I5_222, L5_222⟩ => (if 1 ≤ dp then (g_225 n (dp - 1) e 0 I5_222 L5_222 (26 : Int32) (0 : Int32)).bind (fun ⟨I6_228, L6_228⟩ => (some ((1 : Int32), I6_228, L6_228))) else none)) else none) else (some ((1 : Int32), I4_210, L4_210)))) else none))) else none) else (if 1 ≤ dp then (g_219 n (dp - 1) e 0 I2_175 L2_175 (1 : Int32)).bind (fun ⟨I3_210, L3_210⟩ => (if (I3_210 105 13) = 0 then (if 1 ≤ dp then (g_234 n (dp - 1) e 0 I3_210 L3_210 (5 : Int32)).bind (fun ⟨I4_222, L4_222⟩ => (if 1 ≤ dp then (g_225 n (dp - 1) e 0 I4_222 L4_222 (26 : Int32) (0 : Int32)).bind (fun ⟨I5_228, L5_228⟩ => (some ((1 : Int32), I5_228, L5_228))) else none)) else none) else (some ((1 : Int32), I3_210, L3_210)))) else none)) else (if (25 : Int32) = (26 : Int32) then (if 1 ≤ dp then (g_226 n (dp - 1) e 0 I2_175 L2_175 (61 : Int32)).bind (fun ⟨x3_199, I3_199, L3_199⟩ => (if x3_199 = 0 then (if 1 ≤ dp then (g_219 n (dp - 1) e 0 I3_199 L3_199 (0 : Int32)).bind (fun ⟨I4_210, L4_210⟩ => (if (I4_210 105 13) = 0 then (if 1 ≤ dp then (g_234 n (dp - 1) e 0 I4_210 L4_210 (5 : Int32)).bind (fun ⟨I5_222, L5_222⟩ => (if 1 ≤ dp then (g_225 n (dp - 1) e 0 I5_222 L5_222 (25 : Int32) (0 : Int32)).bind (fun ⟨I6_228, L6_228⟩ => (some ((1 : Int32), I6_228, L6_228))) else none)) else none) else (some ((1 : Int32), I4_210, L4_210)))) else none) else (if 1 ≤ dp then (g_219 n (dp - 1) e 0 I3_199 L3_199 (1 : Int32)).bind (fun ⟨I4_210, L4_210⟩ => (if (I4_210 105 13) = 0 then (if 1 ≤ dp then (g_234 n (dp - 1) e 0 I4_210 L4_210 (5 : Int32)).bind (fun ⟨I5_222, L5_222⟩ => (if 1 ≤ dp then (g_225 n (dp - 1) e 0 I5_222 L5_222 (25 : Int32) (0 : Int32)).bind (fun ⟨I6_228, L6_228⟩ => (some ((1 : Int32), I6_228, L6_228))) else none)) else none) else (some ((1 : Int32), I4_210, L4_210)))) else none))) else none) else (if 1 ≤ dp then (g_219 n (dp - 1) e 0 I2_175 L2_175 (1 : Int32)).bind (fun ⟨I3_210, L3_210⟩ => (if (I3_210 105 13) = 0 then (if 1 ≤ dp then (g_234 n (dp - 1) e 0 I3_210 L3_210 (5 : Int32)).bind (fun ⟨I4_222, L4_222⟩ => (if 1 ≤ dp then (g_225 n (dp - 1) e 0 I4_222 L4_222 (25 : Int32) (0 : Int32)).bind (fun ⟨I5_228, L5_228⟩ => (some ((1 : Int32), I5_228, L5_228))) else none)) else none) else (some ((1 : Int32), I3_210, L3_210)))) else none)))) else none) else (if (24 : Int32) = (26 : Int32) then (if 1 ≤ dp then (g_226 n (dp - 1) e 0 I1_161 L1_161 (61 : Int32)).bind (fun ⟨x2_199, I2_199, L2_199⟩ => (if x2_199 = 0 then (if 1 ≤ dp then (g_219 n (dp - 1) e 0 I2_199 L2_199 (0 : Int32)).bind (fun ⟨I3_210, L3_210⟩ => (if (I3_210 105 13) = 0 then (if 1 ≤ dp then (g_234 n (dp - 1) e 0 I3_210 L3_210 (5 : Int32)).bind (fun ⟨I4_222, L4_222⟩ => (if 1 ≤ dp then (g_225 n (dp - 1) e 0 I4_222 L4_222 (24 : Int32) (0 : Int32)).bind (fun ⟨I5_228, L5_228⟩ => (some ((1 : Int32), I5_228, L5_228))) else none)) else none) else (some ((1 : Int32), I3_210, L3_210)))) else none) else (if 1 ≤ dp then (g_219 n (dp - 1) e 0 I2_199 L2_199 (1 : Int32)).bind (fun ⟨I3_210, L3_210⟩ => (if (I3_210 105 13) = 0 then (if 1 ≤ dp then (g_234 n (dp - 1) e 0 I3_210 L3_210 (5 : Int32)).bind (fun ⟨I4_222, L4_222⟩ => (if 1 ≤ dp then (g_225 n (dp - 1) e 0 I4_222 L4_222 (24 : Int32) (0 : Int32)).bind (fun ⟨I5_228, L5_228⟩ => (some ((1 : Int32), I5_228, L5_228))) else none)) else none) else (some ((1 : Int32), I3_210, L3_210)))) else none))) else none) else (if 1 ≤ dp then (g_219 n (dp - 1) e 0 I1_161 L1_161 (1 : Int32)).bind (fun ⟨I2_210, L2_210⟩ => (if (I2_210 105 13) = 0 then (if 1 ≤ dp then (g_234 n (dp - 1) e 0 I2_210 L2_210 (5 : Int32)).bind (fun ⟨I3_222, L3_222⟩ => (if 1 ≤ dp then (g_225 n (dp - 1) e 0 I3_222 L3_222 (24 : Int32) (0 : Int32)).bind (fun ⟨I4_228, L4_228⟩ => (some ((1 : Int32), I4_228, L4_228))) else none)) else none) else (some ((1 : Int32), I2_210, L2_210)))) else none)))) else none) else (some ((2 : Int32), I0_150, L0_150)))) else none)
    else none
set_option maxRecDepth 100000 in
theorem e_232_0 (n dp : Nat) (e : EN) (I : (Nat → Nat → Int32)) (L : (Nat → Nat → Int64)) (i1 : Int32) (i2 : Int32) (i3 : Int32) : g_232 (n + 1) dp e 0 I L i1 i2 i3 = (if 1 ≤ dp then (g_226 n (dp - 1) e 0 I L (43 : Int32)).bind (fun ⟨x0_3, I0_3, L0_3⟩ => (if x0_3 = 0 then (if 1 ≤ dp then (g_226 n (dp - 1) e 0 I0_3 L0_3 (45 : Int32)).bind (fun ⟨x1_17, I1_17, L1_17⟩ => (if x1_17 = 0 then (if 1 ≤ dp then (g_226 n (dp - 1) e 0 I1_17 L1_17 (42 : Int32)).bind (fun ⟨x2_31, I2_31, L2_31⟩ => (if x2_31 = 0 then (if 1 ≤ dp then (g_226 n (dp - 1) e 0 I2_31 L2_31 (47 : Int32)).bind (fun ⟨x3_45, I3_45, L3_45⟩ => (if x3_45 = 0 then (if (-1 : Int32) = (-1 : Int32) then (if 1 ≤ dp then (g_235 n (dp - 1) e 0 I3_45 L3_45 0 0).bind (fun ⟨x4_84, I4_84, L4_84⟩ => (if x4_84 = (31 : Int32) then (if 1 ≤ dp then (g_226 n (dp - 1) e 0 I4_84 L4_84 (93 : Int32)).bind (fun ⟨x5_98, I5_98, L5_98⟩ => (if 1 ≤ dp then (g_219 n (dp - 1) e 0 I5_98 L5_98 x5_98).bind (fun ⟨I6_101, L6_101⟩ => (if (I6_101 105 13) = 0 then (if 1 ≤ dp then (g_234 n (dp - 1) e 0 I6_101 L6_101 (5 : Int32)).bind (fun ⟨I7_113, L7_113⟩ => (stI (u2 I7_113 105 22 ((I7_113 105 22) - (1 : Int32))) (fun I_123 => (stI (u2 I_123 105 23 ((I_123 105 23) - (1 : Int32))) (fun I_133 => (some ((3 : Int32), I_133, L7_113))))))) else none) else (some ((3 : Int32), I6_101, L6_101)))) else none)) else none) else (if x4_84 = (-1 : Int32) then (if i1 = 0 then (some ((4 : Int32), I4_84, L4_84)) else (g_232 n dp e 1 I4_84 L4_84 i1 (-1 : Int32) x4_84)) else (g_232 n dp e 1 I4_84 L4_84 i1 (-1 : Int32) x4_84)))) else none) else (if 1 ≤ dp then (g_233 n (dp - 1) e 0 I3_45 L3_45 (-1 : Int32)).bind (fun ⟨x4_65, I4_65, L4_65⟩ => (if 1 ≤ dp then (g_234 n (dp - 1) e 0 I4_65 L4_65 x4_65).bind (fun ⟨I5_68, L5_68⟩ => (if 1 ≤ dp then (g_225 n (dp - 1) e 0 I5_68 L5_68 (-1 : Int32) (0 : Int32)).bind (fun ⟨I6_74, L6_74⟩ => (if 1 ≤ dp then (g_214 n (dp - 1) e 0 I6_74 L6_74).bind (fun ⟨I7_78, L7_78⟩ => (some ((1 : Int32), I7_78, L7_78))) else none)) else none)) else none)) else none)) else (if (23 : Int32) = (-1 : Int32) then (if 1 ≤ dp then (g_235 n (dp - 1) e 0 I3_45 L3_45 0 0).bind (fun ⟨x4_84, I4_84, L4_84⟩ => (if x4_84 = (31 : Int32) then (if 1 ≤ dp then (g_226 n (dp - 1) e 0 I4_84 L4_84 (93 : Int32)).bind (fun ⟨x5_98, I5_98, L5_98⟩ => (if 1 ≤ dp then (g_219 n (dp - 1) e 0 I5_98 L5_98 x5_98).bind (fun ⟨I6_101, L6_101⟩ => (if (I6_101 105 13) = 0 then (if 1 ≤ dp then (g_234 n (dp - 1) e 0 I6_101 L6_101 (5 : Int32)).bind (fun ⟨I7_113, L7_113⟩ => (stI (u2 I7_113 105 22 ((I7_113 105 22) - (1 : Int32))) (fun I_123 => (stI (u2 I_123 105 23 ((I_123 105 23) - (1 : Int32))) (fun I_133 => (some ((3 : Int32), I_133, L7_113))))))) else none) else (some ((3 : Int32), I6_101, L6_101)))) else none)) else none) else (if x4_84 = (-1 : Int32) then (if i1 = 0 then (some ((4 : Int32), I4_84, L4_84)) else (g_232 n dp e 1 I4_84 L4_84 i1 (23 : Int32) x4_84)) else (g_232 n dp e 1 I4_84 L4_84 i1 (23 : Int32) x4_84)))) else none) else (if 1 ≤ dp then (g_233 n (dp - 1) e 0 I3_45 L3_45 (23 : Int32)).bind (fun ⟨x4_65, I4_65, L4_65⟩ => (if 1 ≤ dp then (g_234 n (dp - 1) e 0 I4_65 L4_65 x4_65).bind (fun ⟨I5_68, L5_68⟩ => (if 1 ≤ dp then (g_225 n (dp - 1) e 0 I5_68 L5_68 (23 : Int32) (0 : Int32)).bind (fun ⟨I6_74, L6_74⟩ => (if 1 ≤ dp then (g_214 n (dp - 1) e 0 I6_74 L6_74).bind (fun ⟨I7_78, L7_78⟩ => (some ((1 : Int32), I7_78, L7_78))) else none)) else none)) else none)) else none)))) else none) else (if (22 : Int32) = (-1 : Int32) then (if 1 ≤ dp then (g_235 n (dp - 1) e 0 I2_31 L2_31 0 0).bind (fun ⟨x3_84, I3_84, L3_84⟩ => (if x3_84 = (31 : Int32) then (if 1 ≤ dp then (g_226 n (dp - 1) e 0 I3_84 L3_84 (93 : Int32)).bind (fun ⟨x4_98, I4_98, L4_98⟩ => (if 1 ≤ dp then (g_219 n (dp - 1) e 0 I4_98 L4_98 x4_98).bind (fun ⟨I5_101, L5_101⟩ => (if (I5_101 105 13) = 0 then (if 1 ≤ dp then (g_234 n (dp - 1) e 0 I5_101 L5_101 (5 : Int32)).bind (fun ⟨I6_113, L6_113⟩ => (stI (u2 I6_113 105 22 ((I6_113 105 22) - (1 : Int32))) (fun I_123 => (stI (u2 I_123 105 23 ((I_123 105 23) - (1 : Int32))) (fun I_133 => (some ((3 : Int32), I_133, L6_113))))))) else none) else (some ((3 : Int32), I5_101, L5_101)))) else none)) else none) else (if x3_84 = (-1 : Int32) then (if i1 = 0 then (some ((4 : Int32), I3_84, L3_84)) else (g_232 n dp e 1 I3_84 L3_84 i1 (22 : Int32) x3_84)) else (g_232 n dp e 1 I3_84 L3_84 i1 (22 : Int32) x3_84)))) else none) else (if 1 ≤ dp then (g_233 n (dp - 1) e 0 I2_31 L2_31 (22 : Int32)).bind (fun ⟨x3_65, I3_65, L3_65⟩ => (if 1 ≤ dp then (g_234 n (dp - 1) e 0 I3_65 L3_65 x3_65).bind (fun ⟨I4_68, L4_68⟩ => (if 1 ≤ dp then (g_225 n (dp - 1) e 0 I4_68 L4_68 (22 : Int32) (0 : Int32)).bind (fun ⟨I5_74, L5_74⟩ => (if 1 ≤ dp then (g_214 n (dp - 1) e 0 I5_74 L5_74).bind (fun ⟨I6_78, L6_78⟩ => (some ((1 : Int32), I6_78, L6_78))) else none)) else none)) else none)) else none)))) else none) else (if (21 : Int32) = (-1 : Int32) then (if 1 ≤ dp then (g_235 n (dp - 1) e 0 I1_17 L1_17 0 0).bind (fun ⟨x2_84, I2_84, L2_84⟩ => (if x2_84 = (31 : Int32) then (if 1 ≤ dp then (g_226 n (dp - 1) e 0 I2_84 L2_84 (93 : Int32)).bind (fun ⟨x3_98, I3_98, L3_98⟩ => (if 1 ≤ dp then (g_219 n (dp - 1) e 0 I3_98 L3_98 x3_98).bind (fun ⟨I4_101, L4_101⟩ => (if (I4_101 105 13) = 0 then (if 1 ≤ dp then (g_234 n (dp - 1) e 0 I4_101 L4_101 (5 : Int32)).bind (fun ⟨I5_113, L5_113⟩ => (stI (u2 I5_113 105 22 ((I5_113 105 22) - (1 : Int32))) (fun I_123 => (stI (u2 I_123 105 23 ((I_123 105 23) - (1 : Int32))) (fun I_133 => (some ((3 : Int32), I_133, L5_113))))))) else none) else (some ((3 : Int32), I4_101, L4_101)))) else none)) else none) else (if x2_84 = (-1 : Int32) then (if i1 = 0 then (some ((4 : Int32), I2_84, L2_84)) else (g_232 n dp e 1 I2_84 L2_84 i1 (21 : Int32) x2_84)) else (g_232 n dp e 1 I2_84 L2_84 i1 (21 : Int32) x2_84)))) else none) else (if 1 ≤ dp then (g_233 n (dp - 1) e 0 I1_17 L1_17 (21 : Int32)).bind (fun ⟨x2_65, I2_65, L2_65⟩ => (if 1 ≤ dp then (g_234 n (dp - 1) e 0 I2_65 L2_65 x2_65).bind (fun ⟨I3_68, L3_68⟩ => (if 1 ≤ dp then (g_225 n (dp - 1) e 0 I3_68 L3_68 (21 : Int32) (0 : Int32)).bind (fun ⟨I4_74, L4_74⟩ => (if 1 ≤ dp then (g_214 n (dp - 1) e 0 I4_74 L4_74).bind (fun ⟨I5_78, L5_78⟩ => (some ((1 : Int32), I5_78, L5_78))) else none)) else none)) else none)) else none)))) else none) else (if (20 : Int32) = (-1 : Int32) then (if 1 ≤ dp then (g_235 n (dp - 1) e 0 I0_3 L0_3 0 0).bind (fun ⟨x1_84, I1_84, L1_84⟩ => (if x1_84 = (31 : Int32) then (if 1 ≤ dp then (g_226 n (dp - 1) e 0 I1_84 L1_84 (93 : Int32)).bind (fun ⟨x2_98, I2_98, L2_98⟩ => (if 1 ≤ dp then (g_219 n (dp - 1) e 0 I2_98 L2_98 x2_98).bind (fun ⟨I3_101, L3_101⟩ => (if (I3_101 105 13) = 0 then (if 1 ≤ dp then (g_234 n (dp - 1) e 0 I3_101 L3_101 (5 : Int32)).bind (fun ⟨I4_113, L4_113⟩ => (stI (u2 I4_113 105 22 ((I4_113 105 22) - (1 : Int32))) (fun I_123 => (stI (u2 I_123 105 23 ((I_123 105 23) - (1 : Int32))) (fun I_133 => (some ((3 : Int32), I_133, L4_113))))))) else none) else (some ((3 : Int32), I3_101, L3_101)))) else none)) else none) else (if x1_84 = (-1 : Int32) then (if i1 = 0 then (some ((4 : Int32), I1_84, L1_84)) else (g_232 n dp e 1 I1_84 L1_84 i1 (20 : Int32) x1_84)) else (g_232 n dp e 1 I1_84 L1_84 i1 (20 : Int32) x1_84)))) else none) else (if 1 ≤ dp then (g_233 n (dp - 1) e 0 I0_3 L0_3 (20 : Int32)).bind (fun ⟨x1_65, I1_65, L1_65⟩ => (if 1 ≤ dp then (g_234 n (dp - 1) e 0 I1_65 L1_65 x1_65).bind (fun ⟨I2_68, L2_68⟩ => (if 1 ≤ dp then (g_225 n (dp - 1) e 0 I2_68 L2_68 (20 : Int32) (0 : Int32)).bind (fun ⟨I3_74, L3_74⟩ => (if 1 ≤ dp then (g_214 n (dp - 1) e 0 I3_74 L3_74).bind (fun ⟨I4_78, L4_78⟩ => (some ((1 : Int32), I4_78, L4_78))) else none)) else none)) else none)) else none)))) else none) := by rw [g_232.eq_2, if_pos (show (0 : Nat) = 0 from rfl)]
set_option maxRecDepth 100000 in
theorem e_232_1 (n dp : Nat) (e : EN) (I : (Nat → Nat → Int32)) (L : (Nat → Nat → Int64)) (i1 : Int32) (i2 : Int32) (i3 : Int32) : g_232 (n + 1) dp e 1 I L i1 i2 i3 = (if 1 ≤ dp then (g_236 n (dp - 1) e 0 I L 0).bind (fun ⟨x0_150, I0_150, L0_150⟩ => (if x0_150 = 0 then (if 1 ≤ dp then (g_226 n (dp - 1) e 0 I0_150 L0_150 (60 : Int32)).bind (fun ⟨x1_161, I1_161, L1_161⟩ => (if x1_161 = 0 then (if 1 ≤ dp then (g_226 n (dp - 1) e 0 I1_161 L1_161 (62 : Int32)).bind (fun ⟨x2_175, I2_175, L2_175⟩ => (if x2_175 = 0 then (if (26 : Int32) = (26 : Int32) then (if 1 ≤ dp then (g_226 n (dp - 1) e 0 I2_175 L2_175 (61 : Int32)).bind (fun ⟨x3_199, I3_199, L3_199⟩ => (if x3_199 = 0 then (if 1 ≤ dp then (g_219 n (dp - 1) e 0 I3_199 L3_199 (0 : Int32)).bind (fun ⟨I4_210, L4_210⟩ => (if (I4_210 105 13) = 0 then (if 1 ≤ dp then (g_234 n (dp - 1) e 0 I4_210 L4_210 (5 : Int32)).bind (fun ⟨I5_222, L5_222⟩ => (if 1 ≤ dp then (g_225 n (dp - 1) e 0 I5_222 L5_222 (26 : Int32) (0 : Int32)).bind (fun ⟨I6_228, L6_228⟩ => (some ((1 : Int32), I6_228, L6_228))) else none)) else none) else (some ((1 : Int32), I4_210, L4_210)))) else none) else (if 1 ≤ dp then (g_219 n (dp - 1) e 0 I3_199 L3_199 (1 : Int32)).bind (fun ⟨I4_210, L4_210⟩ => (if (I4_210 105 13) = 0 then (if 1 ≤ dp then (g_234 n (dp - 1) e 0 I4_210 L4_210 (5 : Int32)).bind (fun ⟨I5_222, L5_222⟩ => (if 1 ≤ dp then (g_225 n (dp - 1) e 0 I5_222 L5_222 (26 : Int32) (0 : Int32)).bind (fun ⟨I6_228, L6_228⟩ => (some ((1 : Int32), I6_228, L6_228))) else none)) else none) else (some ((1 : Int32), I4_210, L4_210)))) else none))) else none) else (if 1 ≤ dp then (g_219 n (dp - 1) e 0 I2_175 L2_175 (1 : Int32)).bind (fun ⟨I3_210, L3_210⟩ => (if (I3_210 105 13) = 0 then (if 1 ≤ dp then (g_234 n (dp - 1) e 0 I3_210 L3_210 (5 : Int32)).bind (fun ⟨I4_222, L4_222⟩ => (if 1 ≤ dp then (g_225 n (dp - 1) e 0 I4_222 L4_222 (26 : Int32) (0 : Int32)).bind (fun ⟨I5_228, L5_228⟩ => (some ((1 : Int32), I5_228, L5_228))) else none)) else none) else (some ((1 : Int32), I3_210, L3_210)))) else none)) else (if (25 : Int32) = (26 : Int32) then (if 1 ≤ dp then (g_226 n (dp - 1) e 0 I2_175 L2_175 (61 : Int32)).bind (fun ⟨x3_199, I3_199, L3_199⟩ => (if x3_199 = 0 then (if 1 ≤ dp then (g_219 n (dp - 1) e 0 I3_199 L3_199 (0 : Int32)).bind (fun ⟨I4_210, L4_210⟩ => (if (I4_210 105 13) = 0 then (if 1 ≤ dp then (g_234 n (dp - 1) e 0 I4_210 L4_210 (5 : Int32)).bind (fun ⟨I5_222, L5_222⟩ => (if 1 ≤ dp then (g_225 n (dp - 1) e 0 I5_222 L5_222 (25 : Int32) (0 : Int32)).bind (fun ⟨I6_228, L6_228⟩ => (some ((1 : Int32), I6_228, L6_228))) else none)) else none) else (some ((1 : Int32), I4_210, L4_210)))) else none) else (if 1 ≤ dp then (g_219 n (dp - 1) e 0 I3_199 L3_199 (1 : Int32)).bind (fun ⟨I4_210, L4_210⟩ => (if (I4_210 105 13) = 0 then (if 1 ≤ dp then (g_234 n (dp - 1) e 0 I4_210 L4_210 (5 : Int32)).bind (fun ⟨I5_222, L5_222⟩ => (if 1 ≤ dp then (g_225 n (dp - 1) e 0 I5_222 L5_222 (25 : Int32) (0 : Int32)).bind (fun ⟨I6_228, L6_228⟩ => (some ((1 : Int32), I6_228, L6_228))) else none)) else none) else (some ((1 : Int32), I4_210, L4_210)))) else none))) else none) else (if 1 ≤ dp then (g_219 n (dp - 1) e 0 I2_175 L2_175 (1 : Int32)).bind (fun ⟨I3_210, L3_210⟩ => (if (I3_210 105 13) = 0 then (if 1 ≤ dp then (g_234 n (dp - 1) e 0 I3_210 L3_210 (5 : Int32)).bind (fun ⟨I4_222, L4_222⟩ => (if 1 ≤ dp then (g_225 n (dp - 1) e 0 I4_222 L4_222 (25 : Int32) (0 : Int32)).bind (fun ⟨I5_228, L5_228⟩ => (some ((1 : Int32), I5_228, L5_228))) else none)) else none) else (some ((1 : Int32), I3_210, L3_210)))) else none)))) else none) else (if (24 : Int32) = (26 : Int32) then (if 1 ≤ dp then (g_226 n (dp - 1) e 0 I1_161 L1_161 (61 : Int32)).bind (fun ⟨x2_199, I2_199, L2_199⟩ => (if x2_199 = 0 then (if 1 ≤ dp then (g_219 n (dp - 1) e 0 I2_199 L2_199 (0 : Int32)).bind (fun ⟨I3_210, L3_210⟩ => (if (I3_210 105 13) = 0 then (if 1 ≤ dp then (g_234 n (dp - 1) e 0 I3_210 L3_210 (5 : Int32)).bind (fun ⟨I4_222, L4_222⟩ => (if 1 ≤ dp then (g_225 n (dp - 1) e 0 I4_222 L4_222 (24 : Int32) (0 : Int32)).bind (fun ⟨I5_228, L5_228⟩ => (some ((1 : Int32), I5_228, L5_228))) else none)) else none) else (some ((1 : Int32), I3_210, L3_210)))) else none) else (if 1 ≤ dp then (g_219 n (dp - 1) e 0 I2_199 L2_199 (1 : Int32)).bind (fun ⟨I3_210, L3_210⟩ => (if (I3_210 105 13) = 0 then (if 1 ≤ dp then (g_234 n (dp - 1) e 0 I3_210 L3_210 (5 : Int32)).bind (fun ⟨I4_222, L4_222⟩ => (if 1 ≤ dp then (g_225 n (dp - 1) e 0 I4_222 L4_222 (24 : Int32) (0 : Int32)).bind (fun ⟨I5_228, L5_228⟩ => (some ((1 : Int32), I5_228, L5_228))) else none)) else none) else (some ((1 : Int32), I3_210, L3_210)))) else none))) else none) else (if 1 ≤ dp then (g_219 n (dp - 1) e 0 I1_161 L1_161 (1 : Int32)).bind (fun ⟨I2_210, L2_210⟩ => (if (I2_210 105 13) = 0 then (if 1 ≤ dp then (g_234 n (dp - 1) e 0 I2_210 L2_210 (5 : Int32)).bind (fun ⟨I3_222, L3_222⟩ => (if 1 ≤ dp then (g_225 n (dp - 1) e 0 I3_222 L3_222 (24 : Int32) (0 : Int32)).bind (fun ⟨I4_228, L4_228⟩ => (some ((1 : Int32), I4_228, L4_228))) else none)) else none) else (some ((1 : Int32), I2_210, L2_210)))) else none)))) else none) else (some ((2 : Int32), I0_150, L0_150)))) else none) := by rw [g_232.eq_2, if_neg (show ¬ ((1 : Nat) = 0) by decide), if_pos (show (1 : Nat) = 1 from rfl)]
set_option maxHeartbeats 8000000 in
set_option maxRecDepth 100000 in
theorem w_232 (X : GX) {z : Nat} {kd : Nat → Nat × Nat} {Rf : Nat → Nat → Option Nat} (hS : Sh z kd Rf) : ∀ (n dp d : Nat), dp ≤ d → ∀ (I : (Nat → Nat → Int32)) (L : (Nat → Nat → Int64)) (i1 : Int32) (i2 : Int32) (i3 : Int32) (r : Int32) (I1 : (Nat → Nat → Int32)) (L1 : (Nat → Nat → Int64)), (g_232 n dp (z, kd, Rf) 0 I L i1 i2 i3 = some (r, I1, L1) → K X d 232 0 0 (AI (fun x τ => x = r ∧ τ = (z, kd, I1, L1, Rf))) 0 [some (.ref 105), some (.int i1), none, none] [] (z, kd, I, L, Rf) 0 0) ∧
    (g_232 n dp (z, kd, Rf) 1 I L i1 i2 i3 = some (r, I1, L1) → K X d 232 0 0 (AI (fun x τ => x = r ∧ τ = (z, kd, I1, L1, Rf))) 149 [some (.ref 105), some (.int i1), some (.int i2), some (.int i3)] [] (z, kd, I, L, Rf) 0 0) := by
  intro n
  induction n with
  | zero => intro dp d hdp I L i1 i2 i3 r I1 L1; exact ⟨(fun h => by cases h), (fun h => by cases h)⟩
  | succ n ih =>
    intro dp d hdp I L i1 i2 i3 r I1 L1
    refine ⟨?_, ?_⟩
    · intro h
      rw [e_232_0] at h
      refine K_of b_232_0 h_232_0 ?_
      refine q_aload rfl ?_
      refine q_iconst (43) (by decide) ?_
      obtain ⟨d_3, h⟩ := ite_some h
      obtain ⟨⟨x0_3, I0_3, L0_3⟩, e_3, h⟩ := Option.bind_eq_some_iff.mp h
      dsimp only at h
      refine q_fv2I (a_226 X hS (d := d - 1) (by omega) e_3) (by omega) (Nat.le_refl _) (Nat.le_refl _) rfl (Nat.le_of_ble_eq_true rfl) ⟨(zl hS 105 (by decide)), congrArg Prod.fst (sk hS 105 (by decide) rfl), by decide⟩ ?_
      refine q_if_eq (fun c_6 => ?_) (fun c_6 => ?_)
      · rw [if_pos c_6] at h
        refine K_of b_232_14 h_232_14 ?_
        refine q_aload rfl ?_
        refine q_iconst (45) (by decide) ?_
        obtain ⟨d_17, h⟩ := ite_some h
        obtain ⟨⟨x1_17, I1_17, L1_17⟩, e_17, h⟩ := Option.bind_eq_some_iff.mp h
        dsimp only at h
        refine q_fv2I (a_226 X hS (d := d - 1) (by omega) e_17) (by omega) (Nat.le_refl _) (Nat.le_refl _) rfl (Nat.le_of_ble_eq_true rfl) ⟨(zl hS 105 (by decide)), congrArg Prod.fst (sk hS 105 (by decide) rfl), by decide⟩ ?_
        refine q_if_eq (fun c_20 => ?_) (fun c_20 => ?_)
        · rw [if_pos c_20] at h
          refine K_of b_232_28 h_232_28 ?_
          refine q_aload rfl ?_
          refine q_iconst (42) (by decide) ?_
          obtain ⟨d_31, h⟩ := ite_some h
          obtain ⟨⟨x2_31, I2_31, L2_31⟩, e_31, h⟩ := Option.bind_eq_some_iff.mp h
          dsimp only at h
          refine q_fv2I (a_226 X hS (d := d - 1) (by omega) e_31) (by omega) (Nat.le_refl _) (Nat.le_refl _) rfl (Nat.le_of_ble_eq_true rfl) ⟨(zl hS 105 (by decide)), congrArg Prod.fst (sk hS 105 (by decide) rfl), by decide⟩ ?_
          refine q_if_eq (fun c_34 => ?_) (fun c_34 => ?_)
          · rw [if_pos c_34] at h
            refine K_of b_232_42 h_232_42 ?_
            refine q_aload rfl ?_
            refine q_iconst (47) (by decide) ?_
            obtain ⟨d_45, h⟩ := ite_some h
            obtain ⟨⟨x3_45, I3_45, L3_45⟩, e_45, h⟩ := Option.bind_eq_some_iff.mp h
            dsimp only at h
            refine q_fv2I (a_226 X hS (d := d - 1) (by omega) e_45) (by omega) (Nat.le_refl _) (Nat.le_refl _) rfl (Nat.le_of_ble_eq_true rfl) ⟨(zl hS 105 (by decide)), congrArg Prod.fst (sk hS 105 (by decide) rfl), by decide⟩ ?_
            refine q_if_eq (fun c_48 => ?_) (fun c_48 => ?_)
            · rw [if_pos c_48] at h
              refine K_of b_232_56 h_232_56 ?_
              refine q_iconst (-1) (by decide) ?_
              refine q_end ?_
              refine K_of b_232_57 h_232_57 ?_
              refine q_istore (ls1 := [some (.ref 105), some (.int i1), some (.int (-1 : Int32)), none]) (Nat.le_of_ble_eq_true rfl) rfl ?_
              refine q_iload rfl ?_
              refine q_iconst (-1) (by decide) ?_
              refine q_icmp_eq (fun c_60 => ?_) (fun c_60 => ?_)
              · rw [if_pos c_60] at h
                refine K_of b_232_83 h_232_83 ?_
                refine q_aload rfl ?_
                obtain ⟨d_84, h⟩ := ite_some h
                obtain ⟨⟨x4_84, I4_84, L4_84⟩, e_84, h⟩ := Option.bind_eq_some_iff.mp h
                dsimp only at h
                refine q_fv1I (a_235 X hS (d := d - 1) (by omega) e_84) (by omega) (Nat.le_refl _) (Nat.le_refl _) rfl (Nat.le_of_ble_eq_true rfl) ⟨(zl hS 105 (by decide)), congrArg Prod.fst (sk hS 105 (by decide) rfl), by decide⟩ ?_
                refine q_istore (ls1 := [some (.ref 105), some (.int i1), some (.int (-1 : Int32)), some (.int x4_84)]) (Nat.le_of_ble_eq_true rfl) rfl ?_
                refine q_iload rfl ?_
                refine q_iconst (31) (by decide) ?_
                refine q_icmp_ne (fun c_91 => ?_) (fun c_91 => ?_)
                · rw [if_neg c_91] at h
                  refine K_of b_232_138 h_232_138 ?_
                  refine q_iload rfl ?_
                  refine q_iconst (-1) (by decide) ?_
                  refine q_icmp_ne (fun c_140 => ?_) (fun c_140 => ?_)
                  · rw [if_neg c_140] at h
                    exact (ih dp d hdp _ _ i1 (-1 : Int32) x4_84 _ _ _).2 h
                  · rw [if_pos c_140] at h
                    refine q_iload rfl ?_
                    refine q_if_ne (fun c_144 => ?_) (fun c_144 => ?_)
                    · rw [if_neg c_144] at h
                      exact (ih dp d hdp _ _ i1 (-1 : Int32) x4_84 _ _ _).2 h
                    · rw [if_pos c_144] at h
                      refine q_iconst (4) (by decide) ?_
                      cases h
                      exact q_iret rfl (Nat.le_refl _) (Nat.le_refl _) ⟨rfl, rfl⟩
                · rw [if_pos c_91] at h
                  refine q_aload rfl ?_
                  refine q_aload rfl ?_
                  refine q_iconst (93) (by decide) ?_
                  obtain ⟨d_98, h⟩ := ite_some h
                  obtain ⟨⟨x5_98, I5_98, L5_98⟩, e_98, h⟩ := Option.bind_eq_some_iff.mp h
                  dsimp only at h
                  refine q_fv2I (a_226 X hS (d := d - 1) (by omega) e_98) (by omega) (Nat.le_refl _) (Nat.le_refl _) rfl (Nat.le_of_ble_eq_true rfl) ⟨(zl hS 105 (by decide)), congrArg Prod.fst (sk hS 105 (by decide) rfl), by decide⟩ ?_
                  obtain ⟨d_101, h⟩ := ite_some h
                  obtain ⟨⟨I6_101, L6_101⟩, e_101, h⟩ := Option.bind_eq_some_iff.mp h
                  dsimp only at h
                  refine q_fv2V (a_219 X hS (d := d - 1) (by omega) e_101) (by omega) (Nat.le_refl _) (Nat.le_refl _) rfl (Nat.le_of_ble_eq_true rfl) ⟨(zl hS 105 (by decide)), congrArg Prod.fst (sk hS 105 (by decide) rfl), by decide⟩ ?_
                  refine q_aload rfl ?_
                  refine q_getI (c0 := 12) (j := 13) rfl rfl (zl hS 105 (by decide)) (sk hS 105 (by decide) rfl) (Or.inr rfl) (by decide) ?_
                  refine q_if_ne (fun c_108 => ?_) (fun c_108 => ?_)
                  · rw [if_neg c_108] at h
                    refine K_of b_232_136 h_232_136 ?_
                    refine q_iconst (3) (by decide) ?_
                    cases h
                    exact q_iret rfl (Nat.le_refl _) (Nat.le_refl _) ⟨rfl, rfl⟩
                  · rw [if_pos c_108] at h
                    refine q_aload rfl ?_
                    refine q_iconst (5) (by decide) ?_
                    obtain ⟨d_113, h⟩ := ite_some h
                    obtain ⟨⟨I7_113, L7_113⟩, e_113, h⟩ := Option.bind_eq_some_iff.mp h
                    dsimp only at h
                    refine q_fv2V (a_234 X hS (d := d - 1) (by omega) e_113) (by omega) (Nat.le_refl _) (Nat.le_refl _) rfl (Nat.le_of_ble_eq_true rfl) ⟨(zl hS 105 (by decide)), congrArg Prod.fst (sk hS 105 (by decide) rfl), by decide⟩ ?_
                    refine q_aload rfl ?_
                    refine q_dup rfl ?_
                    refine q_getI (c0 := 12) (j := 22) rfl rfl (zl hS 105 (by decide)) (sk hS 105 (by decide) rfl) (Or.inl rfl) (by decide) ?_
                    refine q_iconst (1) (by decide) ?_
                    refine q_isub ?_
                    refine q_putI (c0 := 12) (j := 22) rfl rfl (zl hS 105 (by decide)) (sk hS 105 (by decide) rfl) rfl ?_
                    obtain ⟨I_123, nI_123, h⟩ := stI_some h
                    refine q_nI nI_123 ?_
                    refine q_aload rfl ?_
                    refine q_dup rfl ?_
                    refine q_getI (c0 := 12) (j := 23) rfl rfl (zl hS 105 (by decide)) (sk hS 105 (by decide) rfl) (Or.inl rfl) (by decide) ?_
                    refine q_iconst (1) (by decide) ?_
                    refine q_isub ?_
                    refine q_putI (c0 := 12) (j := 23) rfl rfl (zl hS 105 (by decide)) (sk hS 105 (by decide) rfl) rfl ?_
                    obtain ⟨I_133, nI_133, h⟩ := stI_some h
                    refine q_nI nI_133 ?_
                    refine q_end ?_
                    refine K_of b_232_136 h_232_136 ?_
                    refine q_iconst (3) (by decide) ?_
                    cases h
                    exact q_iret rfl (Nat.le_refl _) (Nat.le_refl _) ⟨rfl, rfl⟩
              · rw [if_neg c_60] at h
                refine q_aload rfl ?_
                refine q_iload rfl ?_
                obtain ⟨d_65, h⟩ := ite_some h
                obtain ⟨⟨x4_65, I4_65, L4_65⟩, e_65, h⟩ := Option.bind_eq_some_iff.mp h
                dsimp only at h
                refine q_fs1I (a_233 X hS (d := d - 1) (by omega) e_65) (by omega) (Nat.le_refl _) (Nat.le_refl _) rfl (Nat.le_of_ble_eq_true rfl) ?_
                obtain ⟨d_68, h⟩ := ite_some h
                obtain ⟨⟨I5_68, L5_68⟩, e_68, h⟩ := Option.bind_eq_some_iff.mp h
                dsimp only at h
                refine q_fv2V (a_234 X hS (d := d - 1) (by omega) e_68) (by omega) (Nat.le_refl _) (Nat.le_refl _) rfl (Nat.le_of_ble_eq_true rfl) ⟨(zl hS 105 (by decide)), congrArg Prod.fst (sk hS 105 (by decide) rfl), by decide⟩ ?_
                refine q_aload rfl ?_
                refine q_iload rfl ?_
                refine q_iconst (0) (by decide) ?_
                obtain ⟨d_74, h⟩ := ite_some h
                obtain ⟨⟨I6_74, L6_74⟩, e_74, h⟩ := Option.bind_eq_some_iff.mp h
                dsimp only at h
                refine q_fv3V (a_225 X hS (d := d - 1) (by omega) e_74) (by omega) (Nat.le_refl _) (Nat.le_refl _) rfl (Nat.le_of_ble_eq_true rfl) ⟨(zl hS 105 (by decide)), congrArg Prod.fst (sk hS 105 (by decide) rfl), by decide⟩ ?_
                refine q_aload rfl ?_
                obtain ⟨d_78, h⟩ := ite_some h
                obtain ⟨⟨I7_78, L7_78⟩, e_78, h⟩ := Option.bind_eq_some_iff.mp h
                dsimp only at h
                refine q_fv1V (a_214 X hS (d := d - 1) (by omega) e_78) (by omega) (Nat.le_refl _) (Nat.le_refl _) rfl (Nat.le_of_ble_eq_true rfl) ⟨(zl hS 105 (by decide)), congrArg Prod.fst (sk hS 105 (by decide) rfl), by decide⟩ ?_
                refine q_iconst (1) (by decide) ?_
                cases h
                exact q_iret rfl (Nat.le_refl _) (Nat.le_refl _) ⟨rfl, rfl⟩
            · rw [if_neg c_48] at h
              refine q_iconst (23) (by decide) ?_
              refine q_goto ?_
              refine K_of b_232_57 h_232_57 ?_
              refine q_istore (ls1 := [some (.ref 105), some (.int i1), some (.int (23 : Int32)), none]) (Nat.le_of_ble_eq_true rfl) rfl ?_
              refine q_iload rfl ?_
              refine q_iconst (-1) (by decide) ?_
              refine q_icmp_eq (fun c_60 => ?_) (fun c_60 => ?_)
              · rw [if_pos c_60] at h
                refine K_of b_232_83 h_232_83 ?_
                refine q_aload rfl ?_
                obtain ⟨d_84, h⟩ := ite_some h
                obtain ⟨⟨x4_84, I4_84, L4_84⟩, e_84, h⟩ := Option.bind_eq_some_iff.mp h
                dsimp only at h
                refine q_fv1I (a_235 X hS (d := d - 1) (by omega) e_84) (by omega) (Nat.le_refl _) (Nat.le_refl _) rfl (Nat.le_of_ble_eq_true rfl) ⟨(zl hS 105 (by decide)), congrArg Prod.fst (sk hS 105 (by decide) rfl), by decide⟩ ?_
                refine q_istore (ls1 := [some (.ref 105), some (.int i1), some (.int (23 : Int32)), some (.int x4_84)]) (Nat.le_of_ble_eq_true rfl) rfl ?_
                refine q_iload rfl ?_
                refine q_iconst (31) (by decide) ?_
                refine q_icmp_ne (fun c_91 => ?_) (fun c_91 => ?_)
                · rw [if_neg c_91] at h
                  refine K_of b_232_138 h_232_138 ?_
                  refine q_iload rfl ?_
                  refine q_iconst (-1) (by decide) ?_
                  refine q_icmp_ne (fun c_140 => ?_) (fun c_140 => ?_)
                  · rw [if_neg c_140] at h
                    exact (ih dp d hdp _ _ i1 (23 : Int32) x4_84 _ _ _).2 h
                  · rw [if_pos c_140] at h
                    refine q_iload rfl ?_
                    refine q_if_ne (fun c_144 => ?_) (fun c_144 => ?_)
                    · rw [if_neg c_144] at h
                      exact (ih dp d hdp _ _ i1 (23 : Int32) x4_84 _ _ _).2 h
                    · rw [if_pos c_144] at h
                      refine q_iconst (4) (by decide) ?_
                      cases h
                      exact q_iret rfl (Nat.le_refl _) (Nat.le_refl _) ⟨rfl, rfl⟩
                · rw [if_pos c_91] at h
                  refine q_aload rfl ?_
                  refine q_aload rfl ?_
                  refine q_iconst (93) (by decide) ?_
                  obtain ⟨d_98, h⟩ := ite_some h
                  obtain ⟨⟨x5_98, I5_98, L5_98⟩, e_98, h⟩ := Option.bind_eq_some_iff.mp h
                  dsimp only at h
                  refine q_fv2I (a_226 X hS (d := d - 1) (by omega) e_98) (by omega) (Nat.le_refl _) (Nat.le_refl _) rfl (Nat.le_of_ble_eq_true rfl) ⟨(zl hS 105 (by decide)), congrArg Prod.fst (sk hS 105 (by decide) rfl), by decide⟩ ?_
                  obtain ⟨d_101, h⟩ := ite_some h
                  obtain ⟨⟨I6_101, L6_101⟩, e_101, h⟩ := Option.bind_eq_some_iff.mp h
                  dsimp only at h
                  refine q_fv2V (a_219 X hS (d := d - 1) (by omega) e_101) (by omega) (Nat.le_refl _) (Nat.le_refl _) rfl (Nat.le_of_ble_eq_true rfl) ⟨(zl hS 105 (by decide)), congrArg Prod.fst (sk hS 105 (by decide) rfl), by decide⟩ ?_
                  refine q_aload rfl ?_
                  refine q_getI (c0 := 12) (j := 13) rfl rfl (zl hS 105 (by decide)) (sk hS 105 (by decide) rfl) (Or.inr rfl) (by decide) ?_
                  refine q_if_ne (fun c_108 => ?_) (fun c_108 => ?_)
                  · rw [if_neg c_108] at h
                    refine K_of b_232_136 h_232_136 ?_
                    refine q_iconst (3) (by decide) ?_
                    cases h
                    exact q_iret rfl (Nat.le_refl _) (Nat.le_refl _) ⟨rfl, rfl⟩
                  · rw [if_pos c_108] at h
                    refine q_aload rfl ?_
                    refine q_iconst (5) (by decide) ?_
                    obtain ⟨d_113, h⟩ := ite_some h
                    obtain ⟨⟨I7_113, L7_113⟩, e_113, h⟩ := Option.bind_eq_some_iff.mp h
                    dsimp only at h
                    refine q_fv2V (a_234 X hS (d := d - 1) (by omega) e_113) (by omega) (Nat.le_refl _) (Nat.le_refl _) rfl (Nat.le_of_ble_eq_true rfl) ⟨(zl hS 105 (by decide)), congrArg Prod.fst (sk hS 105 (by decide) rfl), by decide⟩ ?_
                    refine q_aload rfl ?_
                    refine q_dup rfl ?_
                    refine q_getI (c0 := 12) (j := 22) rfl rfl (zl hS 105 (by decide)) (sk hS 105 (by decide) rfl) (Or.inl rfl) (by decide) ?_
                    refine q_iconst (1) (by decide) ?_
                    refine q_isub ?_
                    refine q_putI (c0 := 12) (j := 22) rfl rfl (zl hS 105 (by decide)) (sk hS 105 (by decide) rfl) rfl ?_
                    obtain ⟨I_123, nI_123, h⟩ := stI_some h
                    refine q_nI nI_123 ?_
                    refine q_aload rfl ?_
                    refine q_dup rfl ?_
                    refine q_getI (c0 := 12) (j := 23) rfl rfl (zl hS 105 (by decide)) (sk hS 105 (by decide) rfl) (Or.inl rfl) (by decide) ?_
                    refine q_iconst (1) (by decide) ?_
                    refine q_isub ?_
                    refine q_putI (c0 := 12) (j := 23) rfl rfl (zl hS 105 (by decide)) (sk hS 105 (by decide) rfl) rfl ?_
                    obtain ⟨I_133, nI_133, h⟩ := stI_some h
                    refine q_nI nI_133 ?_
                    refine q_end ?_
                    refine K_of b_232_136 h_232_136 ?_
                    refine q_iconst (3) (by decide) ?_
                    cases h
                    exact q_iret rfl (Nat.le_refl _) (Nat.le_refl _) ⟨rfl, rfl⟩
              · rw [if_neg c_60] at h
                refine q_aload rfl ?_
                refine q_iload rfl ?_
                obtain ⟨d_65, h⟩ := ite_some h
                obtain ⟨⟨x4_65, I4_65, L4_65⟩, e_65, h⟩ := Option.bind_eq_some_iff.mp h
                dsimp only at h
                refine q_fs1I (a_233 X hS (d := d - 1) (by omega) e_65) (by omega) (Nat.le_refl _) (Nat.le_refl _) rfl (Nat.le_of_ble_eq_true rfl) ?_
                obtain ⟨d_68, h⟩ := ite_some h
                obtain ⟨⟨I5_68, L5_68⟩, e_68, h⟩ := Option.bind_eq_some_iff.mp h
                dsimp only at h
                refine q_fv2V (a_234 X hS (d := d - 1) (by omega) e_68) (by omega) (Nat.le_refl _) (Nat.le_refl _) rfl (Nat.le_of_ble_eq_true rfl) ⟨(zl hS 105 (by decide)), congrArg Prod.fst (sk hS 105 (by decide) rfl), by decide⟩ ?_
                refine q_aload rfl ?_
                refine q_iload rfl ?_
                refine q_iconst (0) (by decide) ?_
                obtain ⟨d_74, h⟩ := ite_some h
                obtain ⟨⟨I6_74, L6_74⟩, e_74, h⟩ := Option.bind_eq_some_iff.mp h
                dsimp only at h
                refine q_fv3V (a_225 X hS (d := d - 1) (by omega) e_74) (by omega) (Nat.le_refl _) (Nat.le_refl _) rfl (Nat.le_of_ble_eq_true rfl) ⟨(zl hS 105 (by decide)), congrArg Prod.fst (sk hS 105 (by decide) rfl), by decide⟩ ?_
                refine q_aload rfl ?_
                obtain ⟨d_78, h⟩ := ite_some h
                obtain ⟨⟨I7_78, L7_78⟩, e_78, h⟩ := Option.bind_eq_some_iff.mp h
                dsimp only at h
                refine q_fv1V (a_214 X hS (d := d - 1) (by omega) e_78) (by omega) (Nat.le_refl _) (Nat.le_refl _) rfl (Nat.le_of_ble_eq_true rfl) ⟨(zl hS 105 (by decide)), congrArg Prod.fst (sk hS 105 (by decide) rfl), by decide⟩ ?_
                refine q_iconst (1) (by decide) ?_
                cases h
                exact q_iret rfl (Nat.le_refl _) (Nat.le_refl _) ⟨rfl, rfl⟩
          · rw [if_neg c_34] at h
            refine q_iconst (22) (by decide) ?_
            refine q_goto ?_
            refine K_of b_232_57 h_232_57 ?_
            refine q_istore (ls1 := [some (.ref 105), some (.int i1), some (.int (22 : Int32)), none]) (Nat.le_of_ble_eq_true rfl) rfl ?_
            refine q_iload rfl ?_
            refine q_iconst (-1) (by decide) ?_
            refine q_icmp_eq (fun c_60 => ?_) (fun c_60 => ?_)
            · rw [if_pos c_60] at h
              refine K_of b_232_83 h_232_83 ?_
              refine q_aload rfl ?_
              obtain ⟨d_84, h⟩ := ite_some h
              obtain ⟨⟨x3_84, I3_84, L3_84⟩, e_84, h⟩ := Option.bind_eq_some_iff.mp h
              dsimp only at h
              refine q_fv1I (a_235 X hS (d := d - 1) (by omega) e_84) (by omega) (Nat.le_refl _) (Nat.le_refl _) rfl (Nat.le_of_ble_eq_true rfl) ⟨(zl hS 105 (by decide)), congrArg Prod.fst (sk hS 105 (by decide) rfl), by decide⟩ ?_
              refine q_istore (ls1 := [some (.ref 105), some (.int i1), some (.int (22 : Int32)), some (.int x3_84)]) (Nat.le_of_ble_eq_true rfl) rfl ?_
              refine q_iload rfl ?_
              refine q_iconst (31) (by decide) ?_
              refine q_icmp_ne (fun c_91 => ?_) (fun c_91 => ?_)
              · rw [if_neg c_91] at h
                refine K_of b_232_138 h_232_138 ?_
                refine q_iload rfl ?_
                refine q_iconst (-1) (by decide) ?_
                refine q_icmp_ne (fun c_140 => ?_) (fun c_140 => ?_)
                · rw [if_neg c_140] at h
                  exact (ih dp d hdp _ _ i1 (22 : Int32) x3_84 _ _ _).2 h
                · rw [if_pos c_140] at h
                  refine q_iload rfl ?_
                  refine q_if_ne (fun c_144 => ?_) (fun c_144 => ?_)
                  · rw [if_neg c_144] at h
                    exact (ih dp d hdp _ _ i1 (22 : Int32) x3_84 _ _ _).2 h
                  · rw [if_pos c_144] at h
                    refine q_iconst (4) (by decide) ?_
                    cases h
                    exact q_iret rfl (Nat.le_refl _) (Nat.le_refl _) ⟨rfl, rfl⟩
              · rw [if_pos c_91] at h
                refine q_aload rfl ?_
                refine q_aload rfl ?_
                refine q_iconst (93) (by decide) ?_
                obtain ⟨d_98, h⟩ := ite_some h
                obtain ⟨⟨x4_98, I4_98, L4_98⟩, e_98, h⟩ := Option.bind_eq_some_iff.mp h
                dsimp only at h
                refine q_fv2I (a_226 X hS (d := d - 1) (by omega) e_98) (by omega) (Nat.le_refl _) (Nat.le_refl _) rfl (Nat.le_of_ble_eq_true rfl) ⟨(zl hS 105 (by decide)), congrArg Prod.fst (sk hS 105 (by decide) rfl), by decide⟩ ?_
                obtain ⟨d_101, h⟩ := ite_some h
                obtain ⟨⟨I5_101, L5_101⟩, e_101, h⟩ := Option.bind_eq_some_iff.mp h
                dsimp only at h
                refine q_fv2V (a_219 X hS (d := d - 1) (by omega) e_101) (by omega) (Nat.le_refl _) (Nat.le_refl _) rfl (Nat.le_of_ble_eq_true rfl) ⟨(zl hS 105 (by decide)), congrArg Prod.fst (sk hS 105 (by decide) rfl), by decide⟩ ?_
                refine q_aload rfl ?_
                refine q_getI (c0 := 12) (j := 13) rfl rfl (zl hS 105 (by decide)) (sk hS 105 (by decide) rfl) (Or.inr rfl) (by decide) ?_
                refine q_if_ne (fun c_108 => ?_) (fun c_108 => ?_)
                · rw [if_neg c_108] at h
                  refine K_of b_232_136 h_232_136 ?_
                  refine q_iconst (3) (by decide) ?_
                  cases h
                  exact q_iret rfl (Nat.le_refl _) (Nat.le_refl _) ⟨rfl, rfl⟩
                · rw [if_pos c_108] at h
                  refine q_aload rfl ?_
                  refine q_iconst (5) (by decide) ?_
                  obtain ⟨d_113, h⟩ := ite_some h
                  obtain ⟨⟨I6_113, L6_113⟩, e_113, h⟩ := Option.bind_eq_some_iff.mp h
                  dsimp only at h
                  refine q_fv2V (a_234 X hS (d := d - 1) (by omega) e_113) (by omega) (Nat.le_refl _) (Nat.le_refl _) rfl (Nat.le_of_ble_eq_true rfl) ⟨(zl hS 105 (by decide)), congrArg Prod.fst (sk hS 105 (by decide) rfl), by decide⟩ ?_
                  refine q_aload rfl ?_
                  refine q_dup rfl ?_
                  refine q_getI (c0 := 12) (j := 22) rfl rfl (zl hS 105 (by decide)) (sk hS 105 (by decide) rfl) (Or.inl rfl) (by decide) ?_
                  refine q_iconst (1) (by decide) ?_
                  refine q_isub ?_
                  refine q_putI (c0 := 12) (j := 22) rfl rfl (zl hS 105 (by decide)) (sk hS 105 (by decide) rfl) rfl ?_
                  obtain ⟨I_123, nI_123, h⟩ := stI_some h
                  refine q_nI nI_123 ?_
                  refine q_aload rfl ?_
                  refine q_dup rfl ?_
                  refine q_getI (c0 := 12) (j := 23) rfl rfl (zl hS 105 (by decide)) (sk hS 105 (by decide) rfl) (Or.inl rfl) (by decide) ?_
                  refine q_iconst (1) (by decide) ?_
                  refine q_isub ?_
                  refine q_putI (c0 := 12) (j := 23) rfl rfl (zl hS 105 (by decide)) (sk hS 105 (by decide) rfl) rfl ?_
                  obtain ⟨I_133, nI_133, h⟩ := stI_some h
                  refine q_nI nI_133 ?_
                  refine q_end ?_
                  refine K_of b_232_136 h_232_136 ?_
                  refine q_iconst (3) (by decide) ?_
                  cases h
                  exact q_iret rfl (Nat.le_refl _) (Nat.le_refl _) ⟨rfl, rfl⟩
            · rw [if_neg c_60] at h
              refine q_aload rfl ?_
              refine q_iload rfl ?_
              obtain ⟨d_65, h⟩ := ite_some h
              obtain ⟨⟨x3_65, I3_65, L3_65⟩, e_65, h⟩ := Option.bind_eq_some_iff.mp h
              dsimp only at h
              refine q_fs1I (a_233 X hS (d := d - 1) (by omega) e_65) (by omega) (Nat.le_refl _) (Nat.le_refl _) rfl (Nat.le_of_ble_eq_true rfl) ?_
              obtain ⟨d_68, h⟩ := ite_some h
              obtain ⟨⟨I4_68, L4_68⟩, e_68, h⟩ := Option.bind_eq_some_iff.mp h
              dsimp only at h
              refine q_fv2V (a_234 X hS (d := d - 1) (by omega) e_68) (by omega) (Nat.le_refl _) (Nat.le_refl _) rfl (Nat.le_of_ble_eq_true rfl) ⟨(zl hS 105 (by decide)), congrArg Prod.fst (sk hS 105 (by decide) rfl), by decide⟩ ?_
              refine q_aload rfl ?_
              refine q_iload rfl ?_
              refine q_iconst (0) (by decide) ?_
              obtain ⟨d_74, h⟩ := ite_some h
              obtain ⟨⟨I5_74, L5_74⟩, e_74, h⟩ := Option.bind_eq_some_iff.mp h
              dsimp only at h
              refine q_fv3V (a_225 X hS (d := d - 1) (by omega) e_74) (by omega) (Nat.le_refl _) (Nat.le_refl _) rfl (Nat.le_of_ble_eq_true rfl) ⟨(zl hS 105 (by decide)), congrArg Prod.fst (sk hS 105 (by decide) rfl), by decide⟩ ?_
              refine q_aload rfl ?_
              obtain ⟨d_78, h⟩ := ite_some h
              obtain ⟨⟨I6_78, L6_78⟩, e_78, h⟩ := Option.bind_eq_some_iff.mp h
              dsimp only at h
              refine q_fv1V (a_214 X hS (d := d - 1) (by omega) e_78) (by omega) (Nat.le_refl _) (Nat.le_refl _) rfl (Nat.le_of_ble_eq_true rfl) ⟨(zl hS 105 (by decide)), congrArg Prod.fst (sk hS 105 (by decide) rfl), by decide⟩ ?_
              refine q_iconst (1) (by decide) ?_
              cases h
              exact q_iret rfl (Nat.le_refl _) (Nat.le_refl _) ⟨rfl, rfl⟩
        · rw [if_neg c_20] at h
          refine q_iconst (21) (by decide) ?_
          refine q_goto ?_
          refine K_of b_232_57 h_232_57 ?_
          refine q_istore (ls1 := [some (.ref 105), some (.int i1), some (.int (21 : Int32)), none]) (Nat.le_of_ble_eq_true rfl) rfl ?_
          refine q_iload rfl ?_
          refine q_iconst (-1) (by decide) ?_
          refine q_icmp_eq (fun c_60 => ?_) (fun c_60 => ?_)
          · rw [if_pos c_60] at h
            refine K_of b_232_83 h_232_83 ?_
            refine q_aload rfl ?_
            obtain ⟨d_84, h⟩ := ite_some h
            obtain ⟨⟨x2_84, I2_84, L2_84⟩, e_84, h⟩ := Option.bind_eq_some_iff.mp h
            dsimp only at h
            refine q_fv1I (a_235 X hS (d := d - 1) (by omega) e_84) (by omega) (Nat.le_refl _) (Nat.le_refl _) rfl (Nat.le_of_ble_eq_true rfl) ⟨(zl hS 105 (by decide)), congrArg Prod.fst (sk hS 105 (by decide) rfl), by decide⟩ ?_
            refine q_istore (ls1 := [some (.ref 105), some (.int i1), some (.int (21 : Int32)), some (.int x2_84)]) (Nat.le_of_ble_eq_true rfl) rfl ?_
            refine q_iload rfl ?_
            refine q_iconst (31) (by decide) ?_
            refine q_icmp_ne (fun c_91 => ?_) (fun c_91 => ?_)
            · rw [if_neg c_91] at h
              refine K_of b_232_138 h_232_138 ?_
              refine q_iload rfl ?_
              refine q_iconst (-1) (by decide) ?_
              refine q_icmp_ne (fun c_140 => ?_) (fun c_140 => ?_)
              · rw [if_neg c_140] at h
                exact (ih dp d hdp _ _ i1 (21 : Int32) x2_84 _ _ _).2 h
              · rw [if_pos c_140] at h
                refine q_iload rfl ?_
                refine q_if_ne (fun c_144 => ?_) (fun c_144 => ?_)
                · rw [if_neg c_144] at h
                  exact (ih dp d hdp _ _ i1 (21 : Int32) x2_84 _ _ _).2 h
                · rw [if_pos c_144] at h
                  refine q_iconst (4) (by decide) ?_
                  cases h
                  exact q_iret rfl (Nat.le_refl _) (Nat.le_refl _) ⟨rfl, rfl⟩
            · rw [if_pos c_91] at h
              refine q_aload rfl ?_
              refine q_aload rfl ?_
              refine q_iconst (93) (by decide) ?_
              obtain ⟨d_98, h⟩ := ite_some h
              obtain ⟨⟨x3_98, I3_98, L3_98⟩, e_98, h⟩ := Option.bind_eq_some_iff.mp h
              dsimp only at h
              refine q_fv2I (a_226 X hS (d := d - 1) (by omega) e_98) (by omega) (Nat.le_refl _) (Nat.le_refl _) rfl (Nat.le_of_ble_eq_true rfl) ⟨(zl hS 105 (by decide)), congrArg Prod.fst (sk hS 105 (by decide) rfl), by decide⟩ ?_
              obtain ⟨d_101, h⟩ := ite_some h
              obtain ⟨⟨I4_101, L4_101⟩, e_101, h⟩ := Option.bind_eq_some_iff.mp h
              dsimp only at h
              refine q_fv2V (a_219 X hS (d := d - 1) (by omega) e_101) (by omega) (Nat.le_refl _) (Nat.le_refl _) rfl (Nat.le_of_ble_eq_true rfl) ⟨(zl hS 105 (by decide)), congrArg Prod.fst (sk hS 105 (by decide) rfl), by decide⟩ ?_
              refine q_aload rfl ?_
              refine q_getI (c0 := 12) (j := 13) rfl rfl (zl hS 105 (by decide)) (sk hS 105 (by decide) rfl) (Or.inr rfl) (by decide) ?_
              refine q_if_ne (fun c_108 => ?_) (fun c_108 => ?_)
              · rw [if_neg c_108] at h
                refine K_of b_232_136 h_232_136 ?_
                refine q_iconst (3) (by decide) ?_
                cases h
                exact q_iret rfl (Nat.le_refl _) (Nat.le_refl _) ⟨rfl, rfl⟩
              · rw [if_pos c_108] at h
                refine q_aload rfl ?_
                refine q_iconst (5) (by decide) ?_
                obtain ⟨d_113, h⟩ := ite_some h
                obtain ⟨⟨I5_113, L5_113⟩, e_113, h⟩ := Option.bind_eq_some_iff.mp h
                dsimp only at h
                refine q_fv2V (a_234 X hS (d := d - 1) (by omega) e_113) (by omega) (Nat.le_refl _) (Nat.le_refl _) rfl (Nat.le_of_ble_eq_true rfl) ⟨(zl hS 105 (by decide)), congrArg Prod.fst (sk hS 105 (by decide) rfl), by decide⟩ ?_
                refine q_aload rfl ?_
                refine q_dup rfl ?_
                refine q_getI (c0 := 12) (j := 22) rfl rfl (zl hS 105 (by decide)) (sk hS 105 (by decide) rfl) (Or.inl rfl) (by decide) ?_
                refine q_iconst (1) (by decide) ?_
                refine q_isub ?_
                refine q_putI (c0 := 12) (j := 22) rfl rfl (zl hS 105 (by decide)) (sk hS 105 (by decide) rfl) rfl ?_
                obtain ⟨I_123, nI_123, h⟩ := stI_some h
                refine q_nI nI_123 ?_
                refine q_aload rfl ?_
                refine q_dup rfl ?_
                refine q_getI (c0 := 12) (j := 23) rfl rfl (zl hS 105 (by decide)) (sk hS 105 (by decide) rfl) (Or.inl rfl) (by decide) ?_
                refine q_iconst (1) (by decide) ?_
                refine q_isub ?_
                refine q_putI (c0 := 12) (j := 23) rfl rfl (zl hS 105 (by decide)) (sk hS 105 (by decide) rfl) rfl ?_
                obtain ⟨I_133, nI_133, h⟩ := stI_some h
                refine q_nI nI_133 ?_
                refine q_end ?_
                refine K_of b_232_136 h_232_136 ?_
                refine q_iconst (3) (by decide) ?_
                cases h
                exact q_iret rfl (Nat.le_refl _) (Nat.le_refl _) ⟨rfl, rfl⟩
          · rw [if_neg c_60] at h
            refine q_aload rfl ?_
            refine q_iload rfl ?_
            obtain ⟨d_65, h⟩ := ite_some h
            obtain ⟨⟨x2_65, I2_65, L2_65⟩, e_65, h⟩ := Option.bind_eq_some_iff.mp h
            dsimp only at h
            refine q_fs1I (a_233 X hS (d := d - 1) (by omega) e_65) (by omega) (Nat.le_refl _) (Nat.le_refl _) rfl (Nat.le_of_ble_eq_true rfl) ?_
            obtain ⟨d_68, h⟩ := ite_some h
            obtain ⟨⟨I3_68, L3_68⟩, e_68, h⟩ := Option.bind_eq_some_iff.mp h
            dsimp only at h
            refine q_fv2V (a_234 X hS (d := d - 1) (by omega) e_68) (by omega) (Nat.le_refl _) (Nat.le_refl _) rfl (Nat.le_of_ble_eq_true rfl) ⟨(zl hS 105 (by decide)), congrArg Prod.fst (sk hS 105 (by decide) rfl), by decide⟩ ?_
            refine q_aload rfl ?_
            refine q_iload rfl ?_
            refine q_iconst (0) (by decide) ?_
            obtain ⟨d_74, h⟩ := ite_some h
            obtain ⟨⟨I4_74, L4_74⟩, e_74, h⟩ := Option.bind_eq_some_iff.mp h
            dsimp only at h
            refine q_fv3V (a_225 X hS (d := d - 1) (by omega) e_74) (by omega) (Nat.le_refl _) (Nat.le_refl _) rfl (Nat.le_of_ble_eq_true rfl) ⟨(zl hS 105 (by decide)), congrArg Prod.fst (sk hS 105 (by decide) rfl), by decide⟩ ?_
            refine q_aload rfl ?_
            obtain ⟨d_78, h⟩ := ite_some h
            obtain ⟨⟨I5_78, L5_78⟩, e_78, h⟩ := Option.bind_eq_some_iff.mp h
            dsimp only at h
            refine q_fv1V (a_214 X hS (d := d - 1) (by omega) e_78) (by omega) (Nat.le_refl _) (Nat.le_refl _) rfl (Nat.le_of_ble_eq_true rfl) ⟨(zl hS 105 (by decide)), congrArg Prod.fst (sk hS 105 (by decide) rfl), by decide⟩ ?_
            refine q_iconst (1) (by decide) ?_
            cases h
            exact q_iret rfl (Nat.le_refl _) (Nat.le_refl _) ⟨rfl, rfl⟩
      · rw [if_neg c_6] at h
        refine q_iconst (20) (by decide) ?_
        refine q_goto ?_
        refine K_of b_232_57 h_232_57 ?_
        refine q_istore (ls1 := [some (.ref 105), some (.int i1), some (.int (20 : Int32)), none]) (Nat.le_of_ble_eq_true rfl) rfl ?_
        refine q_iload rfl ?_
        refine q_iconst (-1) (by decide) ?_
        refine q_icmp_eq (fun c_60 => ?_) (fun c_60 => ?_)
        · rw [if_pos c_60] at h
          refine K_of b_232_83 h_232_83 ?_
          refine q_aload rfl ?_
          obtain ⟨d_84, h⟩ := ite_some h
          obtain ⟨⟨x1_84, I1_84, L1_84⟩, e_84, h⟩ := Option.bind_eq_some_iff.mp h
          dsimp only at h
          refine q_fv1I (a_235 X hS (d := d - 1) (by omega) e_84) (by omega) (Nat.le_refl _) (Nat.le_refl _) rfl (Nat.le_of_ble_eq_true rfl) ⟨(zl hS 105 (by decide)), congrArg Prod.fst (sk hS 105 (by decide) rfl), by decide⟩ ?_
          refine q_istore (ls1 := [some (.ref 105), some (.int i1), some (.int (20 : Int32)), some (.int x1_84)]) (Nat.le_of_ble_eq_true rfl) rfl ?_
          refine q_iload rfl ?_
          refine q_iconst (31) (by decide) ?_
          refine q_icmp_ne (fun c_91 => ?_) (fun c_91 => ?_)
          · rw [if_neg c_91] at h
            refine K_of b_232_138 h_232_138 ?_
            refine q_iload rfl ?_
            refine q_iconst (-1) (by decide) ?_
            refine q_icmp_ne (fun c_140 => ?_) (fun c_140 => ?_)
            · rw [if_neg c_140] at h
              exact (ih dp d hdp _ _ i1 (20 : Int32) x1_84 _ _ _).2 h
            · rw [if_pos c_140] at h
              refine q_iload rfl ?_
              refine q_if_ne (fun c_144 => ?_) (fun c_144 => ?_)
              · rw [if_neg c_144] at h
                exact (ih dp d hdp _ _ i1 (20 : Int32) x1_84 _ _ _).2 h
              · rw [if_pos c_144] at h
                refine q_iconst (4) (by decide) ?_
                cases h
                exact q_iret rfl (Nat.le_refl _) (Nat.le_refl _) ⟨rfl, rfl⟩
          · rw [if_pos c_91] at h
            refine q_aload rfl ?_
            refine q_aload rfl ?_
            refine q_iconst (93) (by decide) ?_
            obtain ⟨d_98, h⟩ := ite_some h
            obtain ⟨⟨x2_98, I2_98, L2_98⟩, e_98, h⟩ := Option.bind_eq_some_iff.mp h
            dsimp only at h
            refine q_fv2I (a_226 X hS (d := d - 1) (by omega) e_98) (by omega) (Nat.le_refl _) (Nat.le_refl _) rfl (Nat.le_of_ble_eq_true rfl) ⟨(zl hS 105 (by decide)), congrArg Prod.fst (sk hS 105 (by decide) rfl), by decide⟩ ?_
            obtain ⟨d_101, h⟩ := ite_some h
            obtain ⟨⟨I3_101, L3_101⟩, e_101, h⟩ := Option.bind_eq_some_iff.mp h
            dsimp only at h
            refine q_fv2V (a_219 X hS (d := d - 1) (by omega) e_101) (by omega) (Nat.le_refl _) (Nat.le_refl _) rfl (Nat.le_of_ble_eq_true rfl) ⟨(zl hS 105 (by decide)), congrArg Prod.fst (sk hS 105 (by decide) rfl), by decide⟩ ?_
            refine q_aload rfl ?_
            refine q_getI (c0 := 12) (j := 13) rfl rfl (zl hS 105 (by decide)) (sk hS 105 (by decide) rfl) (Or.inr rfl) (by decide) ?_
            refine q_if_ne (fun c_108 => ?_) (fun c_108 => ?_)
            · rw [if_neg c_108] at h
              refine K_of b_232_136 h_232_136 ?_
              refine q_iconst (3) (by decide) ?_
              cases h
              exact q_iret rfl (Nat.le_refl _) (Nat.le_refl _) ⟨rfl, rfl⟩
            · rw [if_pos c_108] at h
              refine q_aload rfl ?_
              refine q_iconst (5) (by decide) ?_
              obtain ⟨d_113, h⟩ := ite_some h
              obtain ⟨⟨I4_113, L4_113⟩, e_113, h⟩ := Option.bind_eq_some_iff.mp h
              dsimp only at h
              refine q_fv2V (a_234 X hS (d := d - 1) (by omega) e_113) (by omega) (Nat.le_refl _) (Nat.le_refl _) rfl (Nat.le_of_ble_eq_true rfl) ⟨(zl hS 105 (by decide)), congrArg Prod.fst (sk hS 105 (by decide) rfl), by decide⟩ ?_
              refine q_aload rfl ?_
              refine q_dup rfl ?_
              refine q_getI (c0 := 12) (j := 22) rfl rfl (zl hS 105 (by decide)) (sk hS 105 (by decide) rfl) (Or.inl rfl) (by decide) ?_
              refine q_iconst (1) (by decide) ?_
              refine q_isub ?_
              refine q_putI (c0 := 12) (j := 22) rfl rfl (zl hS 105 (by decide)) (sk hS 105 (by decide) rfl) rfl ?_
              obtain ⟨I_123, nI_123, h⟩ := stI_some h
              refine q_nI nI_123 ?_
              refine q_aload rfl ?_
              refine q_dup rfl ?_
              refine q_getI (c0 := 12) (j := 23) rfl rfl (zl hS 105 (by decide)) (sk hS 105 (by decide) rfl) (Or.inl rfl) (by decide) ?_
              refine q_iconst (1) (by decide) ?_
              refine q_isub ?_
              refine q_putI (c0 := 12) (j := 23) rfl rfl (zl hS 105 (by decide)) (sk hS 105 (by decide) rfl) rfl ?_
              obtain ⟨I_133, nI_133, h⟩ := stI_some h
              refine q_nI nI_133 ?_
              refine q_end ?_
              refine K_of b_232_136 h_232_136 ?_
              refine q_iconst (3) (by decide) ?_
              cases h
              exact q_iret rfl (Nat.le_refl _) (Nat.le_refl _) ⟨rfl, rfl⟩
        · rw [if_neg c_60] at h
          refine q_aload rfl ?_
          refine q_iload rfl ?_
          obtain ⟨d_65, h⟩ := ite_some h
          obtain ⟨⟨x1_65, I1_65, L1_65⟩, e_65, h⟩ := Option.bind_eq_some_iff.mp h
          dsimp only at h
          refine q_fs1I (a_233 X hS (d := d - 1) (by omega) e_65) (by omega) (Nat.le_refl _) (Nat.le_refl _) rfl (Nat.le_of_ble_eq_true rfl) ?_
          obtain ⟨d_68, h⟩ := ite_some h
          obtain ⟨⟨I2_68, L2_68⟩, e_68, h⟩ := Option.bind_eq_some_iff.mp h
          dsimp only at h
          refine q_fv2V (a_234 X hS (d := d - 1) (by omega) e_68) (by omega) (Nat.le_refl _) (Nat.le_refl _) rfl (Nat.le_of_ble_eq_true rfl) ⟨(zl hS 105 (by decide)), congrArg Prod.fst (sk hS 105 (by decide) rfl), by decide⟩ ?_
          refine q_aload rfl ?_
          refine q_iload rfl ?_
          refine q_iconst (0) (by decide) ?_
          obtain ⟨d_74, h⟩ := ite_some h
          obtain ⟨⟨I3_74, L3_74⟩, e_74, h⟩ := Option.bind_eq_some_iff.mp h
          dsimp only at h
          refine q_fv3V (a_225 X hS (d := d - 1) (by omega) e_74) (by omega) (Nat.le_refl _) (Nat.le_refl _) rfl (Nat.le_of_ble_eq_true rfl) ⟨(zl hS 105 (by decide)), congrArg Prod.fst (sk hS 105 (by decide) rfl), by decide⟩ ?_
          refine q_aload rfl ?_
          obtain ⟨d_78, h⟩ := ite_some h
          obtain ⟨⟨I4_78, L4_78⟩, e_78, h⟩ := Option.bind_eq_some_iff.mp h
          dsimp only at h
          refine q_fv1V (a_214 X hS (d := d - 1) (by omega) e_78) (by omega) (Nat.le_refl _) (Nat.le_refl _) rfl (Nat.le_of_ble_eq_true rfl) ⟨(zl hS 105 (by decide)), congrArg Prod.fst (sk hS 105 (by decide) rfl), by decide⟩ ?_
          refine q_iconst (1) (by decide) ?_
          cases h
          exact q_iret rfl (Nat.le_refl _) (Nat.le_refl _) ⟨rfl, rfl⟩
    · intro h
      rw [e_232_1] at h
      refine K_of b_232_149 h_232_149 ?_
      refine q_aload rfl ?_
      obtain ⟨d_150, h⟩ := ite_some h
      obtain ⟨⟨x0_150, I0_150, L0_150⟩, e_150, h⟩ := Option.bind_eq_some_iff.mp h
      dsimp only at h
      refine q_fv1I (a_236 X hS (d := d - 1) (by omega) e_150) (by omega) (Nat.le_refl _) (Nat.le_refl _) rfl (Nat.le_of_ble_eq_true rfl) ⟨(zl hS 105 (by decide)), congrArg Prod.fst (sk hS 105 (by decide) rfl), by decide⟩ ?_
      refine q_if_eq (fun c_153 => ?_) (fun c_153 => ?_)
      · rw [if_pos c_153] at h
        refine K_of b_232_158 h_232_158 ?_
        refine q_aload rfl ?_
        refine q_iconst (60) (by decide) ?_
        obtain ⟨d_161, h⟩ := ite_some h
        obtain ⟨⟨x1_161, I1_161, L1_161⟩, e_161, h⟩ := Option.bind_eq_some_iff.mp h
        dsimp only at h
        refine q_fv2I (a_226 X hS (d := d - 1) (by omega) e_161) (by omega) (Nat.le_refl _) (Nat.le_refl _) rfl (Nat.le_of_ble_eq_true rfl) ⟨(zl hS 105 (by decide)), congrArg Prod.fst (sk hS 105 (by decide) rfl), by decide⟩ ?_
        refine q_if_eq (fun c_164 => ?_) (fun c_164 => ?_)
        · rw [if_pos c_164] at h
          refine K_of b_232_172 h_232_172 ?_
          refine q_aload rfl ?_
          refine q_iconst (62) (by decide) ?_
          obtain ⟨d_175, h⟩ := ite_some h
          obtain ⟨⟨x2_175, I2_175, L2_175⟩, e_175, h⟩ := Option.bind_eq_some_iff.mp h
          dsimp only at h
          refine q_fv2I (a_226 X hS (d := d - 1) (by omega) e_175) (by omega) (Nat.le_refl _) (Nat.le_refl _) rfl (Nat.le_of_ble_eq_true rfl) ⟨(zl hS 105 (by decide)), congrArg Prod.fst (sk hS 105 (by decide) rfl), by decide⟩ ?_
          refine q_if_eq (fun c_178 => ?_) (fun c_178 => ?_)
          · rw [if_pos c_178] at h
            refine K_of b_232_186 h_232_186 ?_
            refine q_iconst (26) (by decide) ?_
            refine q_end ?_
            refine K_of b_232_188 h_232_188 ?_
            refine q_istore (ls1 := [some (.ref 105), some (.int i1), some (.int (26 : Int32)), some (.int i3)]) (Nat.le_of_ble_eq_true rfl) rfl ?_
            refine q_aload rfl ?_
            refine q_iload rfl ?_
            refine q_iconst (26) (by decide) ?_
            refine q_icmp_ne (fun c_193 => ?_) (fun c_193 => ?_)
            · rw [if_neg c_193] at h
              refine K_of b_232_205 h_232_205 ?_
              refine q_iconst (1) (by decide) ?_
              refine q_goto ?_
              refine K_of b_232_210 h_232_210 ?_
              obtain ⟨d_210, h⟩ := ite_some h
              obtain ⟨⟨I3_210, L3_210⟩, e_210, h⟩ := Option.bind_eq_some_iff.mp h
              dsimp only at h
              refine q_fv2V (a_219 X hS (d := d - 1) (by omega) e_210) (by omega) (Nat.le_refl _) (Nat.le_refl _) rfl (Nat.le_of_ble_eq_true rfl) ⟨(zl hS 105 (by decide)), congrArg Prod.fst (sk hS 105 (by decide) rfl), by decide⟩ ?_
              refine q_aload rfl ?_
              refine q_getI (c0 := 12) (j := 13) rfl rfl (zl hS 105 (by decide)) (sk hS 105 (by decide) rfl) (Or.inr rfl) (by decide) ?_
              refine q_if_ne (fun c_217 => ?_) (fun c_217 => ?_)
              · rw [if_neg c_217] at h
                refine K_of b_232_231 h_232_231 ?_
                refine q_iconst (1) (by decide) ?_
                cases h
                exact q_iret rfl (Nat.le_refl _) (Nat.le_refl _) ⟨rfl, rfl⟩
              · rw [if_pos c_217] at h
                refine q_aload rfl ?_
                refine q_iconst (5) (by decide) ?_
                obtain ⟨d_222, h⟩ := ite_some h
                obtain ⟨⟨I4_222, L4_222⟩, e_222, h⟩ := Option.bind_eq_some_iff.mp h
                dsimp only at h
                refine q_fv2V (a_234 X hS (d := d - 1) (by omega) e_222) (by omega) (Nat.le_refl _) (Nat.le_refl _) rfl (Nat.le_of_ble_eq_true rfl) ⟨(zl hS 105 (by decide)), congrArg Prod.fst (sk hS 105 (by decide) rfl), by decide⟩ ?_
                refine q_aload rfl ?_
                refine q_iload rfl ?_
                refine q_iconst (0) (by decide) ?_
                obtain ⟨d_228, h⟩ := ite_some h
                obtain ⟨⟨I5_228, L5_228⟩, e_228, h⟩ := Option.bind_eq_some_iff.mp h
                dsimp only at h
                refine q_fv3V (a_225 X hS (d := d - 1) (by omega) e_228) (by omega) (Nat.le_refl _) (Nat.le_refl _) rfl (Nat.le_of_ble_eq_true rfl) ⟨(zl hS 105 (by decide)), congrArg Prod.fst (sk hS 105 (by decide) rfl), by decide⟩ ?_
                refine q_end ?_
                refine K_of b_232_231 h_232_231 ?_
                refine q_iconst (1) (by decide) ?_
                cases h
                exact q_iret rfl (Nat.le_refl _) (Nat.le_refl _) ⟨rfl, rfl⟩
            · rw [if_pos c_193] at h
              refine q_aload rfl ?_
              refine q_iconst (61) (by decide) ?_
              obtain ⟨d_199, h⟩ := ite_some h
              obtain ⟨⟨x3_199, I3_199, L3_199⟩, e_199, h⟩ := Option.bind_eq_some_iff.mp h
              dsimp only at h
              refine q_fv2I (a_226 X hS (d := d - 1) (by omega) e_199) (by omega) (Nat.le_refl _) (Nat.le_refl _) rfl (Nat.le_of_ble_eq_true rfl) ⟨(zl hS 105 (by decide)), congrArg Prod.fst (sk hS 105 (by decide) rfl), by decide⟩ ?_
              refine q_if_eq (fun c_202 => ?_) (fun c_202 => ?_)
              · rw [if_pos c_202] at h
                refine K_of b_232_209 h_232_209 ?_
                refine q_iconst (0) (by decide) ?_
                refine q_end ?_
                refine K_of b_232_210 h_232_210 ?_
                obtain ⟨d_210, h⟩ := ite_some h
                obtain ⟨⟨I4_210, L4_210⟩, e_210, h⟩ := Option.bind_eq_some_iff.mp h
                dsimp only at h
                refine q_fv2V (a_219 X hS (d := d - 1) (by omega) e_210) (by omega) (Nat.le_refl _) (Nat.le_refl _) rfl (Nat.le_of_ble_eq_true rfl) ⟨(zl hS 105 (by decide)), congrArg Prod.fst (sk hS 105 (by decide) rfl), by decide⟩ ?_
                refine q_aload rfl ?_
                refine q_getI (c0 := 12) (j := 13) rfl rfl (zl hS 105 (by decide)) (sk hS 105 (by decide) rfl) (Or.inr rfl) (by decide) ?_
                refine q_if_ne (fun c_217 => ?_) (fun c_217 => ?_)
                · rw [if_neg c_217] at h
                  refine K_of b_232_231 h_232_231 ?_
                  refine q_iconst (1) (by decide) ?_
                  cases h
                  exact q_iret rfl (Nat.le_refl _) (Nat.le_refl _) ⟨rfl, rfl⟩
                · rw [if_pos c_217] at h
                  refine q_aload rfl ?_
                  refine q_iconst (5) (by decide) ?_
                  obtain ⟨d_222, h⟩ := ite_some h
                  obtain ⟨⟨I5_222, L5_222⟩, e_222, h⟩ := Option.bind_eq_some_iff.mp h
                  dsimp only at h
                  refine q_fv2V (a_234 X hS (d := d - 1) (by omega) e_222) (by omega) (Nat.le_refl _) (Nat.le_refl _) rfl (Nat.le_of_ble_eq_true rfl) ⟨(zl hS 105 (by decide)), congrArg Prod.fst (sk hS 105 (by decide) rfl), by decide⟩ ?_
                  refine q_aload rfl ?_
                  refine q_iload rfl ?_
                  refine q_iconst (0) (by decide) ?_
                  obtain ⟨d_228, h⟩ := ite_some h
                  obtain ⟨⟨I6_228, L6_228⟩, e_228, h⟩ := Option.bind_eq_some_iff.mp h
                  dsimp only at h
                  refine q_fv3V (a_225 X hS (d := d - 1) (by omega) e_228) (by omega) (Nat.le_refl _) (Nat.le_refl _) rfl (Nat.le_of_ble_eq_true rfl) ⟨(zl hS 105 (by decide)), congrArg Prod.fst (sk hS 105 (by decide) rfl), by decide⟩ ?_
                  refine q_end ?_
                  refine K_of b_232_231 h_232_231 ?_
                  refine q_iconst (1) (by decide) ?_
                  cases h
                  exact q_iret rfl (Nat.le_refl _) (Nat.le_refl _) ⟨rfl, rfl⟩
              · rw [if_neg c_202] at h
                refine q_end ?_
                refine K_of b_232_205 h_232_205 ?_
                refine q_iconst (1) (by decide) ?_
                refine q_goto ?_
                refine K_of b_232_210 h_232_210 ?_
                obtain ⟨d_210, h⟩ := ite_some h
                obtain ⟨⟨I4_210, L4_210⟩, e_210, h⟩ := Option.bind_eq_some_iff.mp h
                dsimp only at h
                refine q_fv2V (a_219 X hS (d := d - 1) (by omega) e_210) (by omega) (Nat.le_refl _) (Nat.le_refl _) rfl (Nat.le_of_ble_eq_true rfl) ⟨(zl hS 105 (by decide)), congrArg Prod.fst (sk hS 105 (by decide) rfl), by decide⟩ ?_
                refine q_aload rfl ?_
                refine q_getI (c0 := 12) (j := 13) rfl rfl (zl hS 105 (by decide)) (sk hS 105 (by decide) rfl) (Or.inr rfl) (by decide) ?_
                refine q_if_ne (fun c_217 => ?_) (fun c_217 => ?_)
                · rw [if_neg c_217] at h
                  refine K_of b_232_231 h_232_231 ?_
                  refine q_iconst (1) (by decide) ?_
                  cases h
                  exact q_iret rfl (Nat.le_refl _) (Nat.le_refl _) ⟨rfl, rfl⟩
                · rw [if_pos c_217] at h
                  refine q_aload rfl ?_
                  refine q_iconst (5) (by decide) ?_
                  obtain ⟨d_222, h⟩ := ite_some h
                  obtain ⟨⟨I5_222, L5_222⟩, e_222, h⟩ := Option.bind_eq_some_iff.mp h
                  dsimp only at h
                  refine q_fv2V (a_234 X hS (d := d - 1) (by omega) e_222) (by omega) (Nat.le_refl _) (Nat.le_refl _) rfl (Nat.le_of_ble_eq_true rfl) ⟨(zl hS 105 (by decide)), congrArg Prod.fst (sk hS 105 (by decide) rfl), by decide⟩ ?_
                  refine q_aload rfl ?_
                  refine q_iload rfl ?_
                  refine q_iconst (0) (by decide) ?_
                  obtain ⟨d_228, h⟩ := ite_some h
                  obtain ⟨⟨I6_228, L6_228⟩, e_228, h⟩ := Option.bind_eq_some_iff.mp h
                  dsimp only at h
                  refine q_fv3V (a_225 X hS (d := d - 1) (by omega) e_228) (by omega) (Nat.le_refl _) (Nat.le_refl _) rfl (Nat.le_of_ble_eq_true rfl) ⟨(zl hS 105 (by decide)), congrArg Prod.fst (sk hS 105 (by decide) rfl), by decide⟩ ?_
                  refine q_end ?_
                  refine K_of b_232_231 h_232_231 ?_
                  refine q_iconst (1) (by decide) ?_
                  cases h
                  exact q_iret rfl (Nat.le_refl _) (Nat.le_refl _) ⟨rfl, rfl⟩
          · rw [if_neg c_178] at h
            refine q_iconst (25) (by decide) ?_
            refine q_goto ?_
            refine K_of b_232_188 h_232_188 ?_
            refine q_istore (ls1 := [some (.ref 105), some (.int i1), some (.int (25 : Int32)), some (.int i3)]) (Nat.le_of_ble_eq_true rfl) rfl ?_
            refine q_aload rfl ?_
            refine q_iload rfl ?_
            refine q_iconst (26) (by decide) ?_
            refine q_icmp_ne (fun c_193 => ?_) (fun c_193 => ?_)
            · rw [if_neg c_193] at h
              refine K_of b_232_205 h_232_205 ?_
              refine q_iconst (1) (by decide) ?_
              refine q_goto ?_
              refine K_of b_232_210 h_232_210 ?_
              obtain ⟨d_210, h⟩ := ite_some h
              obtain ⟨⟨I3_210, L3_210⟩, e_210, h⟩ := Option.bind_eq_some_iff.mp h
              dsimp only at h
              refine q_fv2V (a_219 X hS (d := d - 1) (by omega) e_210) (by omega) (Nat.le_refl _) (Nat.le_refl _) rfl (Nat.le_of_ble_eq_true rfl) ⟨(zl hS 105 (by decide)), congrArg Prod.fst (sk hS 105 (by decide) rfl), by decide⟩ ?_
              refine q_aload rfl ?_
              refine q_getI (c0 := 12) (j := 13) rfl rfl (zl hS 105 (by decide)) (sk hS 105 (by decide) rfl) (Or.inr rfl) (by decide) ?_
              refine q_if_ne (fun c_217 => ?_) (fun c_217 => ?_)
              · rw [if_neg c_217] at h
                refine K_of b_232_231 h_232_231 ?_
                refine q_iconst (1) (by decide) ?_
                cases h
                exact q_iret rfl (Nat.le_refl _) (Nat.le_refl _) ⟨rfl, rfl⟩
              · rw [if_pos c_217] at h
                refine q_aload rfl ?_
                refine q_iconst (5) (by decide) ?_
                obtain ⟨d_222, h⟩ := ite_some h
                obtain ⟨⟨I4_222, L4_222⟩, e_222, h⟩ := Option.bind_eq_some_iff.mp h
                dsimp only at h
                refine q_fv2V (a_234 X hS (d := d - 1) (by omega) e_222) (by omega) (Nat.le_refl _) (Nat.le_refl _) rfl (Nat.le_of_ble_eq_true rfl) ⟨(zl hS 105 (by decide)), congrArg Prod.fst (sk hS 105 (by decide) rfl), by decide⟩ ?_
                refine q_aload rfl ?_
                refine q_iload rfl ?_
                refine q_iconst (0) (by decide) ?_
                obtain ⟨d_228, h⟩ := ite_some h
                obtain ⟨⟨I5_228, L5_228⟩, e_228, h⟩ := Option.bind_eq_some_iff.mp h
                dsimp only at h
                refine q_fv3V (a_225 X hS (d := d - 1) (by omega) e_228) (by omega) (Nat.le_refl _) (Nat.le_refl _) rfl (Nat.le_of_ble_eq_true rfl) ⟨(zl hS 105 (by decide)), congrArg Prod.fst (sk hS 105 (by decide) rfl), by decide⟩ ?_
                refine q_end ?_
                refine K_of b_232_231 h_232_231 ?_
                refine q_iconst (1) (by decide) ?_
                cases h
                exact q_iret rfl (Nat.le_refl _) (Nat.le_refl _) ⟨rfl, rfl⟩
            · rw [if_pos c_193] at h
              refine q_aload rfl ?_
              refine q_iconst (61) (by decide) ?_
              obtain ⟨d_199, h⟩ := ite_some h
              obtain ⟨⟨x3_199, I3_199, L3_199⟩, e_199, h⟩ := Option.bind_eq_some_iff.mp h
              dsimp only at h
              refine q_fv2I (a_226 X hS (d := d - 1) (by omega) e_199) (by omega) (Nat.le_refl _) (Nat.le_refl _) rfl (Nat.le_of_ble_eq_true rfl) ⟨(zl hS 105 (by decide)), congrArg Prod.fst (sk hS 105 (by decide) rfl), by decide⟩ ?_
              refine q_if_eq (fun c_202 => ?_) (fun c_202 => ?_)
              · rw [if_pos c_202] at h
                refine K_of b_232_209 h_232_209 ?_
                refine q_iconst (0) (by decide) ?_
                refine q_end ?_
                refine K_of b_232_210 h_232_210 ?_
                obtain ⟨d_210, h⟩ := ite_some h
                obtain ⟨⟨I4_210, L4_210⟩, e_210, h⟩ := Option.bind_eq_some_iff.mp h
                dsimp only at h
                refine q_fv2V (a_219 X hS (d := d - 1) (by omega) e_210) (by omega) (Nat.le_refl _) (Nat.le_refl _) rfl (Nat.le_of_ble_eq_true rfl) ⟨(zl hS 105 (by decide)), congrArg Prod.fst (sk hS 105 (by decide) rfl), by decide⟩ ?_
                refine q_aload rfl ?_
                refine q_getI (c0 := 12) (j := 13) rfl rfl (zl hS 105 (by decide)) (sk hS 105 (by decide) rfl) (Or.inr rfl) (by decide) ?_
                refine q_if_ne (fun c_217 => ?_) (fun c_217 => ?_)
                · rw [if_neg c_217] at h
                  refine K_of b_232_231 h_232_231 ?_
                  refine q_iconst (1) (by decide) ?_
                  cases h
                  exact q_iret rfl (Nat.le_refl _) (Nat.le_refl _) ⟨rfl, rfl⟩
                · rw [if_pos c_217] at h
                  refine q_aload rfl ?_
                  refine q_iconst (5) (by decide) ?_
                  obtain ⟨d_222, h⟩ := ite_some h
                  obtain ⟨⟨I5_222, L5_222⟩, e_222, h⟩ := Option.bind_eq_some_iff.mp h
                  dsimp only at h
                  refine q_fv2V (a_234 X hS (d := d - 1) (by omega) e_222) (by omega) (Nat.le_refl _) (Nat.le_refl _) rfl (Nat.le_of_ble_eq_true rfl) ⟨(zl hS 105 (by decide)), congrArg Prod.fst (sk hS 105 (by decide) rfl), by decide⟩ ?_
                  refine q_aload rfl ?_
                  refine q_iload rfl ?_
                  refine q_iconst (0) (by decide) ?_
                  obtain ⟨d_228, h⟩ := ite_some h
                  obtain ⟨⟨I6_228, L6_228⟩, e_228, h⟩ := Option.bind_eq_some_iff.mp h
                  dsimp only at h
                  refine q_fv3V (a_225 X hS (d := d - 1) (by omega) e_228) (by omega) (Nat.le_refl _) (Nat.le_refl _) rfl (Nat.le_of_ble_eq_true rfl) ⟨(zl hS 105 (by decide)), congrArg Prod.fst (sk hS 105 (by decide) rfl), by decide⟩ ?_
                  refine q_end ?_
                  refine K_of b_232_231 h_232_231 ?_
                  refine q_iconst (1) (by decide) ?_
                  cases h
                  exact q_iret rfl (Nat.le_refl _) (Nat.le_refl _) ⟨rfl, rfl⟩
              · rw [if_neg c_202] at h
                refine q_end ?_
                refine K_of b_232_205 h_232_205 ?_
                refine q_iconst (1) (by decide) ?_
                refine q_goto ?_
                refine K_of b_232_210 h_232_210 ?_
                obtain ⟨d_210, h⟩ := ite_some h
                obtain ⟨⟨I4_210, L4_210⟩, e_210, h⟩ := Option.bind_eq_some_iff.mp h
                dsimp only at h
                refine q_fv2V (a_219 X hS (d := d - 1) (by omega) e_210) (by omega) (Nat.le_refl _) (Nat.le_refl _) rfl (Nat.le_of_ble_eq_true rfl) ⟨(zl hS 105 (by decide)), congrArg Prod.fst (sk hS 105 (by decide) rfl), by decide⟩ ?_
                refine q_aload rfl ?_
                refine q_getI (c0 := 12) (j := 13) rfl rfl (zl hS 105 (by decide)) (sk hS 105 (by decide) rfl) (Or.inr rfl) (by decide) ?_
                refine q_if_ne (fun c_217 => ?_) (fun c_217 => ?_)
                · rw [if_neg c_217] at h
                  refine K_of b_232_231 h_232_231 ?_
                  refine q_iconst (1) (by decide) ?_
                  cases h
                  exact q_iret rfl (Nat.le_refl _) (Nat.le_refl _) ⟨rfl, rfl⟩
                · rw [if_pos c_217] at h
                  refine q_aload rfl ?_
                  refine q_iconst (5) (by decide) ?_
                  obtain ⟨d_222, h⟩ := ite_some h
                  obtain ⟨⟨I5_222, L5_222⟩, e_222, h⟩ := Option.bind_eq_some_iff.mp h
                  dsimp only at h
                  refine q_fv2V (a_234 X hS (d := d - 1) (by omega) e_222) (by omega) (Nat.le_refl _) (Nat.le_refl _) rfl (Nat.le_of_ble_eq_true rfl) ⟨(zl hS 105 (by decide)), congrArg Prod.fst (sk hS 105 (by decide) rfl), by decide⟩ ?_
                  refine q_aload rfl ?_
                  refine q_iload rfl ?_
                  refine q_iconst (0) (by decide) ?_
                  obtain ⟨d_228, h⟩ := ite_some h
                  obtain ⟨⟨I6_228, L6_228⟩, e_228, h⟩ := Option.bind_eq_some_iff.mp h
                  dsimp only at h
                  refine q_fv3V (a_225 X hS (d := d - 1) (by omega) e_228) (by omega) (Nat.le_refl _) (Nat.le_refl _) rfl (Nat.le_of_ble_eq_true rfl) ⟨(zl hS 105 (by decide)), congrArg Prod.fst (sk hS 105 (by decide) rfl), by decide⟩ ?_
                  refine q_end ?_
                  refine K_of b_232_231 h_232_231 ?_
                  refine q_iconst (1) (by decide) ?_
                  cases h
                  exact q_iret rfl (Nat.le_refl _) (Nat.le_refl _) ⟨rfl, rfl⟩
        · rw [if_neg c_164] at h
          refine q_iconst (24) (by decide) ?_
          refine q_goto ?_
          refine K_of b_232_188 h_232_188 ?_
          refine q_istore (ls1 := [some (.ref 105), some (.int i1), some (.int (24 : Int32)), some (.int i3)]) (Nat.le_of_ble_eq_true rfl) rfl ?_
          refine q_aload rfl ?_
          refine q_iload rfl ?_
          refine q_iconst (26) (by decide) ?_
          refine q_icmp_ne (fun c_193 => ?_) (fun c_193 => ?_)
          · rw [if_neg c_193] at h
            refine K_of b_232_205 h_232_205 ?_
            refine q_iconst (1) (by decide) ?_
            refine q_goto ?_
            refine K_of b_232_210 h_232_210 ?_
            obtain ⟨d_210, h⟩ := ite_some h
            obtain ⟨⟨I2_210, L2_210⟩, e_210, h⟩ := Option.bind_eq_some_iff.mp h
            dsimp only at h
            refine q_fv2V (a_219 X hS (d := d - 1) (by omega) e_210) (by omega) (Nat.le_refl _) (Nat.le_refl _) rfl (Nat.le_of_ble_eq_true rfl) ⟨(zl hS 105 (by decide)), congrArg Prod.fst (sk hS 105 (by decide) rfl), by decide⟩ ?_
            refine q_aload rfl ?_
            refine q_getI (c0 := 12) (j := 13) rfl rfl (zl hS 105 (by decide)) (sk hS 105 (by decide) rfl) (Or.inr rfl) (by decide) ?_
            refine q_if_ne (fun c_217 => ?_) (fun c_217 => ?_)
            · rw [if_neg c_217] at h
              refine K_of b_232_231 h_232_231 ?_
              refine q_iconst (1) (by decide) ?_
              cases h
              exact q_iret rfl (Nat.le_refl _) (Nat.le_refl _) ⟨rfl, rfl⟩
            · rw [if_pos c_217] at h
              refine q_aload rfl ?_
              refine q_iconst (5) (by decide) ?_
              obtain ⟨d_222, h⟩ := ite_some h
              obtain ⟨⟨I3_222, L3_222⟩, e_222, h⟩ := Option.bind_eq_some_iff.mp h
              dsimp only at h
              refine q_fv2V (a_234 X hS (d := d - 1) (by omega) e_222) (by omega) (Nat.le_refl _) (Nat.le_refl _) rfl (Nat.le_of_ble_eq_true rfl) ⟨(zl hS 105 (by decide)), congrArg Prod.fst (sk hS 105 (by decide) rfl), by decide⟩ ?_
              refine q_aload rfl ?_
              refine q_iload rfl ?_
              refine q_iconst (0) (by decide) ?_
              obtain ⟨d_228, h⟩ := ite_some h
              obtain ⟨⟨I4_228, L4_228⟩, e_228, h⟩ := Option.bind_eq_some_iff.mp h
              dsimp only at h
              refine q_fv3V (a_225 X hS (d := d - 1) (by omega) e_228) (by omega) (Nat.le_refl _) (Nat.le_refl _) rfl (Nat.le_of_ble_eq_true rfl) ⟨(zl hS 105 (by decide)), congrArg Prod.fst (sk hS 105 (by decide) rfl), by decide⟩ ?_
              refine q_end ?_
              refine K_of b_232_231 h_232_231 ?_
              refine q_iconst (1) (by decide) ?_
              cases h
              exact q_iret rfl (Nat.le_refl _) (Nat.le_refl _) ⟨rfl, rfl⟩
          · rw [if_pos c_193] at h
            refine q_aload rfl ?_
            refine q_iconst (61) (by decide) ?_
            obtain ⟨d_199, h⟩ := ite_some h
            obtain ⟨⟨x2_199, I2_199, L2_199⟩, e_199, h⟩ := Option.bind_eq_some_iff.mp h
            dsimp only at h
            refine q_fv2I (a_226 X hS (d := d - 1) (by omega) e_199) (by omega) (Nat.le_refl _) (Nat.le_refl _) rfl (Nat.le_of_ble_eq_true rfl) ⟨(zl hS 105 (by decide)), congrArg Prod.fst (sk hS 105 (by decide) rfl), by decide⟩ ?_
            refine q_if_eq (fun c_202 => ?_) (fun c_202 => ?_)
            · rw [if_pos c_202] at h
              refine K_of b_232_209 h_232_209 ?_
              refine q_iconst (0) (by decide) ?_
              refine q_end ?_
              refine K_of b_232_210 h_232_210 ?_
              obtain ⟨d_210, h⟩ := ite_some h
              obtain ⟨⟨I3_210, L3_210⟩, e_210, h⟩ := Option.bind_eq_some_iff.mp h
              dsimp only at h
              refine q_fv2V (a_219 X hS (d := d - 1) (by omega) e_210) (by omega) (Nat.le_refl _) (Nat.le_refl _) rfl (Nat.le_of_ble_eq_true rfl) ⟨(zl hS 105 (by decide)), congrArg Prod.fst (sk hS 105 (by decide) rfl), by decide⟩ ?_
              refine q_aload rfl ?_
              refine q_getI (c0 := 12) (j := 13) rfl rfl (zl hS 105 (by decide)) (sk hS 105 (by decide) rfl) (Or.inr rfl) (by decide) ?_
              refine q_if_ne (fun c_217 => ?_) (fun c_217 => ?_)
              · rw [if_neg c_217] at h
                refine K_of b_232_231 h_232_231 ?_
                refine q_iconst (1) (by decide) ?_
                cases h
                exact q_iret rfl (Nat.le_refl _) (Nat.le_refl _) ⟨rfl, rfl⟩
              · rw [if_pos c_217] at h
                refine q_aload rfl ?_
                refine q_iconst (5) (by decide) ?_
                obtain ⟨d_222, h⟩ := ite_some h
                obtain ⟨⟨I4_222, L4_222⟩, e_222, h⟩ := Option.bind_eq_some_iff.mp h
                dsimp only at h
                refine q_fv2V (a_234 X hS (d := d - 1) (by omega) e_222) (by omega) (Nat.le_refl _) (Nat.le_refl _) rfl (Nat.le_of_ble_eq_true rfl) ⟨(zl hS 105 (by decide)), congrArg Prod.fst (sk hS 105 (by decide) rfl), by decide⟩ ?_
                refine q_aload rfl ?_
                refine q_iload rfl ?_
                refine q_iconst (0) (by decide) ?_
                obtain ⟨d_228, h⟩ := ite_some h
                obtain ⟨⟨I5_228, L5_228⟩, e_228, h⟩ := Option.bind_eq_some_iff.mp h
                dsimp only at h
                refine q_fv3V (a_225 X hS (d := d - 1) (by omega) e_228) (by omega) (Nat.le_refl _) (Nat.le_refl _) rfl (Nat.le_of_ble_eq_true rfl) ⟨(zl hS 105 (by decide)), congrArg Prod.fst (sk hS 105 (by decide) rfl), by decide⟩ ?_
                refine q_end ?_
                refine K_of b_232_231 h_232_231 ?_
                refine q_iconst (1) (by decide) ?_
                cases h
                exact q_iret rfl (Nat.le_refl _) (Nat.le_refl _) ⟨rfl, rfl⟩
            · rw [if_neg c_202] at h
              refine q_end ?_
              refine K_of b_232_205 h_232_205 ?_
              refine q_iconst (1) (by decide) ?_
              refine q_goto ?_
              refine K_of b_232_210 h_232_210 ?_
              obtain ⟨d_210, h⟩ := ite_some h
              obtain ⟨⟨I3_210, L3_210⟩, e_210, h⟩ := Option.bind_eq_some_iff.mp h
              dsimp only at h
              refine q_fv2V (a_219 X hS (d := d - 1) (by omega) e_210) (by omega) (Nat.le_refl _) (Nat.le_refl _) rfl (Nat.le_of_ble_eq_true rfl) ⟨(zl hS 105 (by decide)), congrArg Prod.fst (sk hS 105 (by decide) rfl), by decide⟩ ?_
              refine q_aload rfl ?_
              refine q_getI (c0 := 12) (j := 13) rfl rfl (zl hS 105 (by decide)) (sk hS 105 (by decide) rfl) (Or.inr rfl) (by decide) ?_
              refine q_if_ne (fun c_217 => ?_) (fun c_217 => ?_)
              · rw [if_neg c_217] at h
                refine K_of b_232_231 h_232_231 ?_
                refine q_iconst (1) (by decide) ?_
                cases h
                exact q_iret rfl (Nat.le_refl _) (Nat.le_refl _) ⟨rfl, rfl⟩
              · rw [if_pos c_217] at h
                refine q_aload rfl ?_
                refine q_iconst (5) (by decide) ?_
                obtain ⟨d_222, h⟩ := ite_some h
                obtain ⟨⟨I4_222, L4_222⟩, e_222, h⟩ := Option.bind_eq_some_iff.mp h
                dsimp only at h
                refine q_fv2V (a_234 X hS (d := d - 1) (by omega) e_222) (by omega) (Nat.le_refl _) (Nat.le_refl _) rfl (Nat.le_of_ble_eq_true rfl) ⟨(zl hS 105 (by decide)), congrArg Prod.fst (sk hS 105 (by decide) rfl), by decide⟩ ?_
                refine q_aload rfl ?_
                refine q_iload rfl ?_
                refine q_iconst (0) (by decide) ?_
                obtain ⟨d_228, h⟩ := ite_some h
                obtain ⟨⟨I5_228, L5_228⟩, e_228, h⟩ := Option.bind_eq_some_iff.mp h
                dsimp only at h
                refine q_fv3V (a_225 X hS (d := d - 1) (by omega) e_228) (by omega) (Nat.le_refl _) (Nat.le_refl _) rfl (Nat.le_of_ble_eq_true rfl) ⟨(zl hS 105 (by decide)), congrArg Prod.fst (sk hS 105 (by decide) rfl), by decide⟩ ?_
                refine q_end ?_
                refine K_of b_232_231 h_232_231 ?_
                refine q_iconst (1) (by decide) ?_
                cases h
                exact q_iret rfl (Nat.le_refl _) (Nat.le_refl _) ⟨rfl, rfl⟩
      · rw [if_neg c_153] at h
        refine q_iconst (2) (by decide) ?_
        cases h
        exact q_iret rfl (Nat.le_refl _) (Nat.le_refl _) ⟨rfl, rfl⟩
theorem a_232 (X : GX) {z : Nat} {kd : Nat → Nat × Nat} {Rf : Nat → Nat → Option Nat} (hS : Sh z kd Rf) {n dp d : Nat} (hd : dp ≤ d) {I : (Nat → Nat → Int32)} {L : (Nat → Nat → Int64)} {i1 : Int32} {I1 : (Nat → Nat → Int32)} {L1 : (Nat → Nat → Int64)} {r : Int32} (h : g_232 n dp (z, kd, Rf) 0 I L i1 0 0 = some (r, I1, L1)) : Ct X d 232 0 0 [.ref 105, .int i1] (z, kd, I, L, Rf) (AI (fun x τ => x = r ∧ τ = (z, kd, I1, L1, Rf))) :=
  Ct_of mu_232 (Nat.le_of_ble_eq_true rfl) ((w_232 X hS n dp d hd I L i1 0 0 _ _ _).1 h)

