/-! help for decompiled functions -/
abbrev EN : Type := Nat × (Nat → Nat × Nat) × (Nat → Nat → Option Nat)
theorem ite_some {α : Type} {c : Prop} [Decidable c] {x : Option α} {r : α} (h : (if c then x else none) = some r) : c ∧ x = some r := by
  by_cases hc : c
  · rw [if_pos hc] at h; exact ⟨hc, h⟩
  · rw [if_neg hc] at h; cases h
theorem fst_eq {p : Nat × Nat} {c : Nat} (h : p.1 = c) : p = (c, p.2) := by subst h; rfl
theorem narB {v : Int32} (h : v = 0 ∨ v = 1) : nar (some .boolean) v := by rcases h with rfl | rfl <;> rfl
theorem nx {x : Int32} (h : 0 ≤ x) : x = nI x.toNatClampNeg := by
  obtain ⟨j, hj, rfl⟩ := nI_of (Int32.not_lt.mpr h)
  rw [nI_clamp hj]
theorem in_of {x : Int32} {m : Nat} (h : 0 ≤ x) (h2 : x.toNatClampNeg < m) : vp_in x m := fun q => q.elim (fun z => absurd h (Int32.not_le.mpr z)) (fun z => absurd h2 (Nat.not_lt.mpr z))
theorem sw_ne {x y : Int32} {lo hi : Int} (h : x.toInt < lo ∨ hi < x.toInt) (h1 : lo ≤ y.toInt) (h2 : y.toInt ≤ hi) : ¬ x = y := fun q => by subst q; omega
theorem sw_eq {x y : Int32} {v : Int} (h : x.toInt = v) (h1 : y.toInt = v) : x = y := Int32.toInt_inj.mp (h.trans h1.symm)
theorem sw_nq {x y : Int32} {v : Int} (h : x.toInt = v) (h1 : ¬ y.toInt = v) : ¬ x = y := fun q => by subst q; exact h1 h

/-! 14 CutFloor.within(III)Z -/
def g_14 : Nat → Nat → EN → Nat → (Nat → Nat → Int32) → (Nat → Nat → Int64) → Int32 → Int32 → Int32 →  Option (Int32 × (Nat → Nat → Int32) × (Nat → Nat → Int64))
  | 0, _, _, _, _, _, _, _, _ => none
  | n + 1, dp, e, lab, I, L, i0, i1, i2 =>
    if lab = 0 then (if i0 < i1 then (some ((0 : Int32), I, L)) else (if i2 < i0 then (some ((0 : Int32), I, L)) else (some ((1 : Int32), I, L))))
    else none
theorem e_14_0 (n dp : Nat) (e : EN) (I : (Nat → Nat → Int32)) (L : (Nat → Nat → Int64)) (i0 : Int32) (i1 : Int32) (i2 : Int32) : g_14 (n + 1) dp e 0 I L i0 i1 i2 = (if i0 < i1 then (some ((0 : Int32), I, L)) else (if i2 < i0 then (some ((0 : Int32), I, L)) else (some ((1 : Int32), I, L)))) := rfl
set_option maxHeartbeats 8000000 in
set_option maxRecDepth 100000 in
theorem w_14 (X : GX) {z : Nat} {kd : Nat → Nat × Nat} {Rf : Nat → Nat → Option Nat} (hS : Sh z kd Rf) : ∀ (n dp d : Nat), dp ≤ d → ∀ (I : (Nat → Nat → Int32)) (L : (Nat → Nat → Int64)) (i0 : Int32) (i1 : Int32) (i2 : Int32) (r : Int32) (I1 : (Nat → Nat → Int32)) (L1 : (Nat → Nat → Int64)), (g_14 n dp (z, kd, Rf) 0 I L i0 i1 i2 = some (r, I1, L1) → K X d 14 0 0 (AI (fun x τ => x = r ∧ τ = (z, kd, I1, L1, Rf))) 0 [some (.int i0), some (.int i1), some (.int i2)] [] (z, kd, I, L, Rf) 0 0) := by
  intro n
  induction n with
  | zero => intro dp d hdp I L i0 i1 i2 r I1 L1; exact fun h => by cases h
  | succ n ih =>
    intro dp d hdp I L i0 i1 i2 r I1 L1
    · intro h
      rw [e_14_0] at h
      refine K_of b_14_0 h_14_0 ?_
      refine q_iload rfl ?_
      refine q_iload rfl ?_
      refine q_icmp_lt (fun c_2 => ?_) (fun c_2 => ?_)
      · rw [if_pos c_2] at h
        refine K_of b_14_14 h_14_14 ?_
        refine q_iconst (0) (by decide) ?_
        refine q_end ?_
        refine K_of b_14_15 h_14_15 ?_
        cases h
        exact q_iret rfl (Nat.le_refl _) (Nat.le_refl _) ⟨rfl, rfl⟩
      · rw [if_neg c_2] at h
        refine q_iload rfl ?_
        refine q_iload rfl ?_
        refine q_icmp_gt (fun c_7 => ?_) (fun c_7 => ?_)
        · rw [if_pos c_7] at h
          refine K_of b_14_14 h_14_14 ?_
          refine q_iconst (0) (by decide) ?_
          refine q_end ?_
          refine K_of b_14_15 h_14_15 ?_
          cases h
          exact q_iret rfl (Nat.le_refl _) (Nat.le_refl _) ⟨rfl, rfl⟩
        · rw [if_neg c_7] at h
          refine q_iconst (1) (by decide) ?_
          refine q_goto ?_
          refine K_of b_14_15 h_14_15 ?_
          cases h
          exact q_iret rfl (Nat.le_refl _) (Nat.le_refl _) ⟨rfl, rfl⟩
theorem a_14 (X : GX) {z : Nat} {kd : Nat → Nat × Nat} {Rf : Nat → Nat → Option Nat} (hS : Sh z kd Rf) {n dp d : Nat} (hd : dp ≤ d) {I : (Nat → Nat → Int32)} {L : (Nat → Nat → Int64)} {i0 : Int32} {i1 : Int32} {i2 : Int32} {I1 : (Nat → Nat → Int32)} {L1 : (Nat → Nat → Int64)} {r : Int32} (h : g_14 n dp (z, kd, Rf) 0 I L i0 i1 i2 = some (r, I1, L1)) : Ct X d 14 0 0 [.int i0, .int i1, .int i2] (z, kd, I, L, Rf) (AI (fun x τ => x = r ∧ τ = (z, kd, I1, L1, Rf))) :=
  Ct_of mu_14 (Nat.le_of_ble_eq_true rfl) ((w_14 X hS n dp d hd I L i0 i1 i2 _ _ _) h)

/-! 19 CutFloor.allow(I)I -/
def g_19 : Nat → Nat → EN → Nat → (Nat → Nat → Int32) → (Nat → Nat → Int64) → Int32 →  Option (Int32 × (Nat → Nat → Int32) × (Nat → Nat → Int64))
  | 0, _, _, _, _, _, _ => none
  | n + 1, dp, e, lab, I, L, i1 =>
    if lab = 0 then (some (i1, (u2 I 0 18 (0 : Int32)), L))
    else none
theorem e_19_0 (n dp : Nat) (e : EN) (I : (Nat → Nat → Int32)) (L : (Nat → Nat → Int64)) (i1 : Int32) : g_19 (n + 1) dp e 0 I L i1 = (some (i1, (u2 I 0 18 (0 : Int32)), L)) := rfl
set_option maxHeartbeats 8000000 in
set_option maxRecDepth 100000 in
theorem w_19 (X : GX) {z : Nat} {kd : Nat → Nat × Nat} {Rf : Nat → Nat → Option Nat} (hS : Sh z kd Rf) : ∀ (n dp d : Nat), dp ≤ d → ∀ (I : (Nat → Nat → Int32)) (L : (Nat → Nat → Int64)) (i1 : Int32) (r : Int32) (I1 : (Nat → Nat → Int32)) (L1 : (Nat → Nat → Int64)), (g_19 n dp (z, kd, Rf) 0 I L i1 = some (r, I1, L1) → K X d 19 0 0 (AI (fun x τ => x = r ∧ τ = (z, kd, I1, L1, Rf))) 0 [some (.ref 0), some (.int i1)] [] (z, kd, I, L, Rf) 0 0) := by
  intro n
  induction n with
  | zero => intro dp d hdp I L i1 r I1 L1; exact fun h => by cases h
  | succ n ih =>
    intro dp d hdp I L i1 r I1 L1
    · intro h
      rw [e_19_0] at h
      refine K_of b_19_0 h_19_0 ?_
      refine q_aload rfl ?_
      refine q_iconst (0) (by decide) ?_
      refine q_putI (c0 := 11) (j := 18) rfl rfl (zl hS 0 (by decide)) (sk hS 0 (by decide) rfl) rfl ?_
      refine q_iload rfl ?_
      cases h
      exact q_iret rfl (Nat.le_refl _) (Nat.le_refl _) ⟨rfl, rfl⟩
theorem a_19 (X : GX) {z : Nat} {kd : Nat → Nat × Nat} {Rf : Nat → Nat → Option Nat} (hS : Sh z kd Rf) {n dp d : Nat} (hd : dp ≤ d) {I : (Nat → Nat → Int32)} {L : (Nat → Nat → Int64)} {i1 : Int32} {I1 : (Nat → Nat → Int32)} {L1 : (Nat → Nat → Int64)} {r : Int32} (h : g_19 n dp (z, kd, Rf) 0 I L i1 = some (r, I1, L1)) : Ct X d 19 0 0 [.ref 0, .int i1] (z, kd, I, L, Rf) (AI (fun x τ => x = r ∧ τ = (z, kd, I1, L1, Rf))) :=
  Ct_of mu_19 (Nat.le_of_ble_eq_true rfl) ((w_19 X hS n dp d hd I L i1 _ _ _) h)

/-! 15 CutFloor.refuse(I)I -/
def g_15 : Nat → Nat → EN → Nat → (Nat → Nat → Int32) → (Nat → Nat → Int64) → Int32 →  Option (Int32 × (Nat → Nat → Int32) × (Nat → Nat → Int64))
  | 0, _, _, _, _, _, _ => none
  | n + 1, dp, e, lab, I, L, i1 =>
    if lab = 0 then (if i1 < (-3 : Int32) then (if 1 ≤ dp then (g_14 n (dp - 1) e 0 (u2 I 0 18 i1) L ((-2 : Int32) - i1) (0 : Int32) ((nI 5) - (1 : Int32))).bind (fun ⟨x0_31, I0_31, L0_31⟩ => (if x0_31 = 0 then (some (i1, I0_31, L0_31)) else (if 0 ≤ ((-2 : Int32) - i1) ∧ (Int32.toNatClampNeg ((-2 : Int32) - i1)) < 5 then (if 0 ≤ ((-2 : Int32) - i1) ∧ (Int32.toNatClampNeg ((-2 : Int32) - i1)) < 5 then (some (i1, (u2 I0_31 92 (Int32.toNatClampNeg ((-2 : Int32) - i1)) ((I0_31 92 (Int32.toNatClampNeg ((-2 : Int32) - i1))) + (1 : Int32))), L0_31)) else none) else none))) else none) else (if 1 ≤ dp then (g_14 n (dp - 1) e 0 (u2 I 0 18 i1) L ((-1 : Int32) - i1) (0 : Int32) ((nI 5) - (1 : Int32))).bind (fun ⟨x0_31, I0_31, L0_31⟩ => (if x0_31 = 0 then (some (i1, I0_31, L0_31)) else (if 0 ≤ ((-1 : Int32) - i1) ∧ (Int32.toNatClampNeg ((-1 : Int32) - i1)) < 5 then (if 0 ≤ ((-1 : Int32) - i1) ∧ (Int32.toNatClampNeg ((-1 : Int32) - i1)) < 5 then (some (i1, (u2 I0_31 92 (Int32.toNatClampNeg ((-1 : Int32) - i1)) ((I0_31 92 (Int32.toNatClampNeg ((-1 : Int32) - i1))) + (1 : Int32))), L0_31)) else none) else none))) else none))
    else none
theorem e_15_0 (n dp : Nat) (e : EN) (I : (Nat → Nat → Int32)) (L : (Nat → Nat → Int64)) (i1 : Int32) : g_15 (n + 1) dp e 0 I L i1 = (if i1 < (-3 : Int32) then (if 1 ≤ dp then (g_14 n (dp - 1) e 0 (u2 I 0 18 i1) L ((-2 : Int32) - i1) (0 : Int32) ((nI 5) - (1 : Int32))).bind (fun ⟨x0_31, I0_31, L0_31⟩ => (if x0_31 = 0 then (some (i1, I0_31, L0_31)) else (if 0 ≤ ((-2 : Int32) - i1) ∧ (Int32.toNatClampNeg ((-2 : Int32) - i1)) < 5 then (if 0 ≤ ((-2 : Int32) - i1) ∧ (Int32.toNatClampNeg ((-2 : Int32) - i1)) < 5 then (some (i1, (u2 I0_31 92 (Int32.toNatClampNeg ((-2 : Int32) - i1)) ((I0_31 92 (Int32.toNatClampNeg ((-2 : Int32) - i1))) + (1 : Int32))), L0_31)) else none) else none))) else none) else (if 1 ≤ dp then (g_14 n (dp - 1) e 0 (u2 I 0 18 i1) L ((-1 : Int32) - i1) (0 : Int32) ((nI 5) - (1 : Int32))).bind (fun ⟨x0_31, I0_31, L0_31⟩ => (if x0_31 = 0 then (some (i1, I0_31, L0_31)) else (if 0 ≤ ((-1 : Int32) - i1) ∧ (Int32.toNatClampNeg ((-1 : Int32) - i1)) < 5 then (if 0 ≤ ((-1 : Int32) - i1) ∧ (Int32.toNatClampNeg ((-1 : Int32) - i1)) < 5 then (some (i1, (u2 I0_31 92 (Int32.toNatClampNeg ((-1 : Int32) - i1)) ((I0_31 92 (Int32.toNatClampNeg ((-1 : Int32) - i1))) + (1 : Int32))), L0_31)) else none) else none))) else none)) := rfl
set_option maxHeartbeats 8000000 in
set_option maxRecDepth 100000 in
theorem w_15 (X : GX) {z : Nat} {kd : Nat → Nat × Nat} {Rf : Nat → Nat → Option Nat} (hS : Sh z kd Rf) : ∀ (n dp d : Nat), dp ≤ d → ∀ (I : (Nat → Nat → Int32)) (L : (Nat → Nat → Int64)) (i1 : Int32) (r : Int32) (I1 : (Nat → Nat → Int32)) (L1 : (Nat → Nat → Int64)), (g_15 n dp (z, kd, Rf) 0 I L i1 = some (r, I1, L1) → K X d 15 0 0 (AI (fun x τ => x = r ∧ τ = (z, kd, I1, L1, Rf))) 0 [some (.ref 0), some (.int i1), none] [] (z, kd, I, L, Rf) 0 0) := by
  intro n
  induction n with
  | zero => intro dp d hdp I L i1 r I1 L1; exact fun h => by cases h
  | succ n ih =>
    intro dp d hdp I L i1 r I1 L1
    · intro h
      rw [e_15_0] at h
      refine K_of b_15_0 h_15_0 ?_
      refine q_aload rfl ?_
      refine q_iload rfl ?_
      refine q_putI (c0 := 11) (j := 18) rfl rfl (zl hS 0 (by decide)) (sk hS 0 (by decide) rfl) rfl ?_
      refine q_iload rfl ?_
      refine q_iconst (-3) (by decide) ?_
      refine q_icmp_lt (fun c_8 => ?_) (fun c_8 => ?_)
      · rw [if_pos c_8] at h
        refine K_of b_15_17 h_15_17 ?_
        refine q_iconst (-2) (by decide) ?_
        refine q_iload rfl ?_
        refine q_isub ?_
        refine q_end ?_
        refine K_of b_15_21 h_15_21 ?_
        refine q_istore (Nat.le_of_ble_eq_true rfl) rfl ?_
        refine q_iload rfl ?_
        refine q_iconst (0) (by decide) ?_
        refine q_aload rfl ?_
        refine q_getRs (c0 := 11) (j := 10) rfl rfl (zl hS 0 (by decide)) (sk hS 0 (by decide) rfl) rfl (by decide) (r_0_10 hS) ?_
        refine q_alen (zl hS 92 (by decide)) (sk hS 92 (by decide) rfl) (by decide) (by decide) ?_
        refine q_iconst (1) (by decide) ?_
        refine q_isub ?_
        obtain ⟨d_31, h⟩ := ite_some h
        obtain ⟨⟨x0_31, I0_31, L0_31⟩, e_31, h⟩ := Option.bind_eq_some_iff.mp h
        dsimp only at h
        refine q_fs3I (a_14 X hS (d := d - 1) (by omega) e_31) (by omega) (Nat.le_refl _) (Nat.le_refl _) rfl (Nat.le_of_ble_eq_true rfl) ?_
        refine q_if_eq (fun c_34 => ?_) (fun c_34 => ?_)
        · rw [if_pos c_34] at h
          refine K_of b_15_47 h_15_47 ?_
          refine q_iload rfl ?_
          cases h
          exact q_iret rfl (Nat.le_refl _) (Nat.le_refl _) ⟨rfl, rfl⟩
        · rw [if_neg c_34] at h
          refine q_aload rfl ?_
          refine q_getRs (c0 := 11) (j := 10) rfl rfl (zl hS 0 (by decide)) (sk hS 0 (by decide) rfl) rfl (by decide) (r_0_10 hS) ?_
          refine q_iload rfl ?_
          refine q_dup2 rfl rfl ?_
          obtain ⟨⟨u_43, v_43⟩, h⟩ := ite_some h
          refine q_ialN (Int32.toNatClampNeg ((-2 : Int32) - i1)) (nx u_43) (zl hS 92 (by decide)) (sk hS 92 (by decide) rfl) v_43 (by decide) ?_
          refine q_iconst (1) (by decide) ?_
          refine q_iadd ?_
          obtain ⟨⟨u_46, v_46⟩, h⟩ := ite_some h
          refine q_iasN (Int32.toNatClampNeg ((-2 : Int32) - i1)) (nx u_46) (zl hS 92 (by decide)) (sk hS 92 (by decide) rfl) v_46 (by decide) ?_
          refine q_end ?_
          refine K_of b_15_47 h_15_47 ?_
          refine q_iload rfl ?_
          cases h
          exact q_iret rfl (Nat.le_refl _) (Nat.le_refl _) ⟨rfl, rfl⟩
      · rw [if_neg c_8] at h
        refine q_iconst (-1) (by decide) ?_
        refine q_iload rfl ?_
        refine q_isub ?_
        refine q_goto ?_
        refine K_of b_15_21 h_15_21 ?_
        refine q_istore (Nat.le_of_ble_eq_true rfl) rfl ?_
        refine q_iload rfl ?_
        refine q_iconst (0) (by decide) ?_
        refine q_aload rfl ?_
        refine q_getRs (c0 := 11) (j := 10) rfl rfl (zl hS 0 (by decide)) (sk hS 0 (by decide) rfl) rfl (by decide) (r_0_10 hS) ?_
        refine q_alen (zl hS 92 (by decide)) (sk hS 92 (by decide) rfl) (by decide) (by decide) ?_
        refine q_iconst (1) (by decide) ?_
        refine q_isub ?_
        obtain ⟨d_31, h⟩ := ite_some h
        obtain ⟨⟨x0_31, I0_31, L0_31⟩, e_31, h⟩ := Option.bind_eq_some_iff.mp h
        dsimp only at h
        refine q_fs3I (a_14 X hS (d := d - 1) (by omega) e_31) (by omega) (Nat.le_refl _) (Nat.le_refl _) rfl (Nat.le_of_ble_eq_true rfl) ?_
        refine q_if_eq (fun c_34 => ?_) (fun c_34 => ?_)
        · rw [if_pos c_34] at h
          refine K_of b_15_47 h_15_47 ?_
          refine q_iload rfl ?_
          cases h
          exact q_iret rfl (Nat.le_refl _) (Nat.le_refl _) ⟨rfl, rfl⟩
        · rw [if_neg c_34] at h
          refine q_aload rfl ?_
          refine q_getRs (c0 := 11) (j := 10) rfl rfl (zl hS 0 (by decide)) (sk hS 0 (by decide) rfl) rfl (by decide) (r_0_10 hS) ?_
          refine q_iload rfl ?_
          refine q_dup2 rfl rfl ?_
          obtain ⟨⟨u_43, v_43⟩, h⟩ := ite_some h
          refine q_ialN (Int32.toNatClampNeg ((-1 : Int32) - i1)) (nx u_43) (zl hS 92 (by decide)) (sk hS 92 (by decide) rfl) v_43 (by decide) ?_
          refine q_iconst (1) (by decide) ?_
          refine q_iadd ?_
          obtain ⟨⟨u_46, v_46⟩, h⟩ := ite_some h
          refine q_iasN (Int32.toNatClampNeg ((-1 : Int32) - i1)) (nx u_46) (zl hS 92 (by decide)) (sk hS 92 (by decide) rfl) v_46 (by decide) ?_
          refine q_end ?_
          refine K_of b_15_47 h_15_47 ?_
          refine q_iload rfl ?_
          cases h
          exact q_iret rfl (Nat.le_refl _) (Nat.le_refl _) ⟨rfl, rfl⟩
theorem a_15 (X : GX) {z : Nat} {kd : Nat → Nat × Nat} {Rf : Nat → Nat → Option Nat} (hS : Sh z kd Rf) {n dp d : Nat} (hd : dp ≤ d) {I : (Nat → Nat → Int32)} {L : (Nat → Nat → Int64)} {i1 : Int32} {I1 : (Nat → Nat → Int32)} {L1 : (Nat → Nat → Int64)} {r : Int32} (h : g_15 n dp (z, kd, Rf) 0 I L i1 = some (r, I1, L1)) : Ct X d 15 0 0 [.ref 0, .int i1] (z, kd, I, L, Rf) (AI (fun x τ => x = r ∧ τ = (z, kd, I1, L1, Rf))) :=
  Ct_of mu_15 (Nat.le_of_ble_eq_true rfl) ((w_15 X hS n dp d hd I L i1 _ _ _) h)

/-! 16 CutFloor$Hall.allCarcasses()I -/
def g_16 : Nat → Nat → EN → Nat → (Nat → Nat → Int32) → (Nat → Nat → Int64) →  Option (Int32 × (Nat → Nat → Int32) × (Nat → Nat → Int64))
  | 0, _, _, _, _, _ => none
  | n + 1, dp, e, lab, I, L =>
    if lab = 0 then (some ((((I 2 0) + (I 2 1)) + (I 2 2)), I, L))
    else none
theorem e_16_0 (n dp : Nat) (e : EN) (I : (Nat → Nat → Int32)) (L : (Nat → Nat → Int64)) : g_16 (n + 1) dp e 0 I L = (some ((((I 2 0) + (I 2 1)) + (I 2 2)), I, L)) := rfl
set_option maxHeartbeats 8000000 in
set_option maxRecDepth 100000 in
theorem w_16 (X : GX) {z : Nat} {kd : Nat → Nat × Nat} {Rf : Nat → Nat → Option Nat} (hS : Sh z kd Rf) : ∀ (n dp d : Nat), dp ≤ d → ∀ (I : (Nat → Nat → Int32)) (L : (Nat → Nat → Int64)) (r : Int32) (I1 : (Nat → Nat → Int32)) (L1 : (Nat → Nat → Int64)), (g_16 n dp (z, kd, Rf) 0 I L = some (r, I1, L1) → K X d 16 0 0 (AI (fun x τ => x = r ∧ τ = (z, kd, I1, L1, Rf))) 0 [some (.ref 1)] [] (z, kd, I, L, Rf) 0 0) := by
  intro n
  induction n with
  | zero => intro dp d hdp I L r I1 L1; exact fun h => by cases h
  | succ n ih =>
    intro dp d hdp I L r I1 L1
    · intro h
      rw [e_16_0] at h
      refine K_of b_16_0 h_16_0 ?_
      refine q_aload rfl ?_
      refine q_getRs (c0 := 3) (j := 0) rfl rfl (zl hS 1 (by decide)) (sk hS 1 (by decide) rfl) rfl (by decide) (r_1_0 hS) ?_
      refine q_iconst (0) (by decide) ?_
      refine q_ialN (0) rfl (zl hS 2 (by decide)) (sk hS 2 (by decide) rfl) (by decide) (by decide) ?_
      refine q_aload rfl ?_
      refine q_getRs (c0 := 3) (j := 0) rfl rfl (zl hS 1 (by decide)) (sk hS 1 (by decide) rfl) rfl (by decide) (r_1_0 hS) ?_
      refine q_iconst (1) (by decide) ?_
      refine q_ialN (1) rfl (zl hS 2 (by decide)) (sk hS 2 (by decide) rfl) (by decide) (by decide) ?_
      refine q_iadd ?_
      refine q_aload rfl ?_
      refine q_getRs (c0 := 3) (j := 0) rfl rfl (zl hS 1 (by decide)) (sk hS 1 (by decide) rfl) rfl (by decide) (r_1_0 hS) ?_
      refine q_iconst (2) (by decide) ?_
      refine q_ialN (2) rfl (zl hS 2 (by decide)) (sk hS 2 (by decide) rfl) (by decide) (by decide) ?_
      refine q_iadd ?_
      cases h
      exact q_iret rfl (Nat.le_refl _) (Nat.le_refl _) ⟨rfl, rfl⟩
theorem a_16 (X : GX) {z : Nat} {kd : Nat → Nat × Nat} {Rf : Nat → Nat → Option Nat} (hS : Sh z kd Rf) {n dp d : Nat} (hd : dp ≤ d) {I : (Nat → Nat → Int32)} {L : (Nat → Nat → Int64)} {I1 : (Nat → Nat → Int32)} {L1 : (Nat → Nat → Int64)} {r : Int32} (h : g_16 n dp (z, kd, Rf) 0 I L = some (r, I1, L1)) : Ct X d 16 0 0 [.ref 1] (z, kd, I, L, Rf) (AI (fun x τ => x = r ∧ τ = (z, kd, I1, L1, Rf))) :=
  Ct_of mu_16 (Nat.le_of_ble_eq_true rfl) ((w_16 X hS n dp d hd I L _ _ _) h)

/-! 17 CutFloor$Planner.forgetFirst()V -/
def g_17 : Nat → Nat → EN → Nat → (Nat → Nat → Int32) → (Nat → Nat → Int64) →  Option ((Nat → Nat → Int32) × (Nat → Nat → Int64))
  | 0, _, _, _, _, _ => none
  | n + 1, dp, e, lab, I, L =>
    if lab = 0 then (some ((u2 I 24 15 (1 : Int32)), L))
    else none
theorem e_17_0 (n dp : Nat) (e : EN) (I : (Nat → Nat → Int32)) (L : (Nat → Nat → Int64)) : g_17 (n + 1) dp e 0 I L = (some ((u2 I 24 15 (1 : Int32)), L)) := rfl
set_option maxHeartbeats 8000000 in
set_option maxRecDepth 100000 in
theorem w_17 (X : GX) {z : Nat} {kd : Nat → Nat × Nat} {Rf : Nat → Nat → Option Nat} (hS : Sh z kd Rf) : ∀ (n dp d : Nat), dp ≤ d → ∀ (I : (Nat → Nat → Int32)) (L : (Nat → Nat → Int64)) (I1 : (Nat → Nat → Int32)) (L1 : (Nat → Nat → Int64)), (g_17 n dp (z, kd, Rf) 0 I L = some (I1, L1) → K X d 17 0 0 (AV (fun τ => τ = (z, kd, I1, L1, Rf))) 0 [some (.ref 24)] [] (z, kd, I, L, Rf) 0 0) := by
  intro n
  induction n with
  | zero => intro dp d hdp I L I1 L1; exact fun h => by cases h
  | succ n ih =>
    intro dp d hdp I L I1 L1
    · intro h
      rw [e_17_0] at h
      refine K_of b_17_0 h_17_0 ?_
      refine q_aload rfl ?_
      refine q_iconst (1) (by decide) ?_
      refine q_putZ (c0 := 7) (j := 15) rfl rfl (zl hS 24 (by decide)) (sk hS 24 (by decide) rfl) rfl (Or.inr rfl) ?_
      cases h
      exact q_vret rfl (Nat.le_refl _) (Nat.le_refl _) rfl
theorem a_17 (X : GX) {z : Nat} {kd : Nat → Nat × Nat} {Rf : Nat → Nat → Option Nat} (hS : Sh z kd Rf) {n dp d : Nat} (hd : dp ≤ d) {I : (Nat → Nat → Int32)} {L : (Nat → Nat → Int64)} {I1 : (Nat → Nat → Int32)} {L1 : (Nat → Nat → Int64)} (h : g_17 n dp (z, kd, Rf) 0 I L = some (I1, L1)) : Ct X d 17 0 0 [.ref 24] (z, kd, I, L, Rf) (AV (fun τ => τ = (z, kd, I1, L1, Rf))) :=
  Ct_of mu_17 (Nat.le_of_ble_eq_true rfl) ((w_17 X hS n dp d hd I L _ _) h)

/-! 18 CutFloor$Crew.forget()V -/
def g_18 : Nat → Nat → EN → Nat → (Nat → Nat → Int32) → (Nat → Nat → Int64) →  Option ((Nat → Nat → Int32) × (Nat → Nat → Int64))
  | 0, _, _, _, _, _ => none
  | n + 1, dp, e, lab, I, L =>
    if lab = 0 then (some ((u2 (u2 I 73 15 (1 : Int32)) 73 16 (1 : Int32)), L))
    else none
theorem e_18_0 (n dp : Nat) (e : EN) (I : (Nat → Nat → Int32)) (L : (Nat → Nat → Int64)) : g_18 (n + 1) dp e 0 I L = (some ((u2 (u2 I 73 15 (1 : Int32)) 73 16 (1 : Int32)), L)) := rfl
set_option maxHeartbeats 8000000 in
set_option maxRecDepth 100000 in
theorem w_18 (X : GX) {z : Nat} {kd : Nat → Nat × Nat} {Rf : Nat → Nat → Option Nat} (hS : Sh z kd Rf) : ∀ (n dp d : Nat), dp ≤ d → ∀ (I : (Nat → Nat → Int32)) (L : (Nat → Nat → Int64)) (I1 : (Nat → Nat → Int32)) (L1 : (Nat → Nat → Int64)), (g_18 n dp (z, kd, Rf) 0 I L = some (I1, L1) → K X d 18 0 0 (AV (fun τ => τ = (z, kd, I1, L1, Rf))) 0 [some (.ref 73)] [] (z, kd, I, L, Rf) 0 0) := by
  intro n
  induction n with
  | zero => intro dp d hdp I L I1 L1; exact fun h => by cases h
  | succ n ih =>
    intro dp d hdp I L I1 L1
    · intro h
      rw [e_18_0] at h
      refine K_of b_18_0 h_18_0 ?_
      refine q_aload rfl ?_
      refine q_iconst (1) (by decide) ?_
      refine q_putZ (c0 := 1) (j := 15) rfl rfl (zl hS 73 (by decide)) (sk hS 73 (by decide) rfl) rfl (Or.inr rfl) ?_
      refine q_aload rfl ?_
      refine q_iconst (1) (by decide) ?_
      refine q_putZ (c0 := 1) (j := 16) rfl rfl (zl hS 73 (by decide)) (sk hS 73 (by decide) rfl) rfl (Or.inr rfl) ?_
      cases h
      exact q_vret rfl (Nat.le_refl _) (Nat.le_refl _) rfl
theorem a_18 (X : GX) {z : Nat} {kd : Nat → Nat × Nat} {Rf : Nat → Nat → Option Nat} (hS : Sh z kd Rf) {n dp d : Nat} (hd : dp ≤ d) {I : (Nat → Nat → Int32)} {L : (Nat → Nat → Int64)} {I1 : (Nat → Nat → Int32)} {L1 : (Nat → Nat → Int64)} (h : g_18 n dp (z, kd, Rf) 0 I L = some (I1, L1)) : Ct X d 18 0 0 [.ref 73] (z, kd, I, L, Rf) (AV (fun τ => τ = (z, kd, I1, L1, Rf))) :=
  Ct_of mu_18 (Nat.le_of_ble_eq_true rfl) ((w_18 X hS n dp d hd I L _ _) h)

/-! 13 CutFloor.carcasses(II)I -/
def g_13 : Nat → Nat → EN → Nat → (Nat → Nat → Int32) → (Nat → Nat → Int64) → Int32 → Int32 →  Option (Int32 × (Nat → Nat → Int32) × (Nat → Nat → Int64))
  | 0, _, _, _, _, _, _, _ => none
  | n + 1, dp, e, lab, I, L, i1, i2 =>
    if lab = 0 then (if 1 ≤ dp then (g_14 n (dp - 1) e 0 I L i1 (0 : Int32) (2 : Int32)).bind (fun ⟨x0_3, I0_3, L0_3⟩ => (if x0_3 = 0 then (if 1 ≤ dp then (g_15 n (dp - 1) e 0 I0_3 L0_3 (-1 : Int32)).bind (fun ⟨x1_21, I1_21, L1_21⟩ => (some (x1_21, I1_21, L1_21))) else none) else (if 1 ≤ dp then (g_14 n (dp - 1) e 0 I0_3 L0_3 i2 (0 : Int32) (8 : Int32)).bind (fun ⟨x1_13, I1_13, L1_13⟩ => (if x1_13 = 0 then (if 1 ≤ dp then (g_15 n (dp - 1) e 0 I1_13 L1_13 (-1 : Int32)).bind (fun ⟨x2_21, I2_21, L2_21⟩ => (some (x2_21, I2_21, L2_21))) else none) else (if 0 ≤ i1 ∧ (Int32.toNatClampNeg i1) < 3 then (if 1 ≤ dp then (g_16 n (dp - 1) e 0 I1_13 L1_13).bind (fun ⟨x2_39, I2_39, L2_39⟩ => (if ((x2_39 - (I1_13 2 (Int32.toNatClampNeg i1))) + i2) ≤ (8 : Int32) then (if 0 ≤ i1 ∧ (Int32.toNatClampNeg i1) < 3 then (if 1 ≤ dp then (g_17 n (dp - 1) e 0 (u2 I2_39 2 (Int32.toNatClampNeg i1) i2) L2_39).bind (fun ⟨I3_72, L3_72⟩ => (if 1 ≤ dp then (g_18 n (dp - 1) e 0 I3_72 L3_72).bind (fun ⟨I4_79, L4_79⟩ => (if 1 ≤ dp then (g_19 n (dp - 1) e 0 I4_79 L4_79 (I1_13 2 (Int32.toNatClampNeg i1))).bind (fun ⟨x5_84, I5_84, L5_84⟩ => (some (x5_84, I5_84, L5_84))) else none)) else none)) else none) else none) else (if 1 ≤ dp then (g_15 n (dp - 1) e 0 I2_39 L2_39 (-3 : Int32)).bind (fun ⟨x3_54, I3_54, L3_54⟩ => (some (x3_54, I3_54, L3_54))) else none))) else none) else none))) else none))) else none)
    else none
theorem e_13_0 (n dp : Nat) (e : EN) (I : (Nat → Nat → Int32)) (L : (Nat → Nat → Int64)) (i1 : Int32) (i2 : Int32) : g_13 (n + 1) dp e 0 I L i1 i2 = (if 1 ≤ dp then (g_14 n (dp - 1) e 0 I L i1 (0 : Int32) (2 : Int32)).bind (fun ⟨x0_3, I0_3, L0_3⟩ => (if x0_3 = 0 then (if 1 ≤ dp then (g_15 n (dp - 1) e 0 I0_3 L0_3 (-1 : Int32)).bind (fun ⟨x1_21, I1_21, L1_21⟩ => (some (x1_21, I1_21, L1_21))) else none) else (if 1 ≤ dp then (g_14 n (dp - 1) e 0 I0_3 L0_3 i2 (0 : Int32) (8 : Int32)).bind (fun ⟨x1_13, I1_13, L1_13⟩ => (if x1_13 = 0 then (if 1 ≤ dp then (g_15 n (dp - 1) e 0 I1_13 L1_13 (-1 : Int32)).bind (fun ⟨x2_21, I2_21, L2_21⟩ => (some (x2_21, I2_21, L2_21))) else none) else (if 0 ≤ i1 ∧ (Int32.toNatClampNeg i1) < 3 then (if 1 ≤ dp then (g_16 n (dp - 1) e 0 I1_13 L1_13).bind (fun ⟨x2_39, I2_39, L2_39⟩ => (if ((x2_39 - (I1_13 2 (Int32.toNatClampNeg i1))) + i2) ≤ (8 : Int32) then (if 0 ≤ i1 ∧ (Int32.toNatClampNeg i1) < 3 then (if 1 ≤ dp then (g_17 n (dp - 1) e 0 (u2 I2_39 2 (Int32.toNatClampNeg i1) i2) L2_39).bind (fun ⟨I3_72, L3_72⟩ => (if 1 ≤ dp then (g_18 n (dp - 1) e 0 I3_72 L3_72).bind (fun ⟨I4_79, L4_79⟩ => (if 1 ≤ dp then (g_19 n (dp - 1) e 0 I4_79 L4_79 (I1_13 2 (Int32.toNatClampNeg i1))).bind (fun ⟨x5_84, I5_84, L5_84⟩ => (some (x5_84, I5_84, L5_84))) else none)) else none)) else none) else none) else (if 1 ≤ dp then (g_15 n (dp - 1) e 0 I2_39 L2_39 (-3 : Int32)).bind (fun ⟨x3_54, I3_54, L3_54⟩ => (some (x3_54, I3_54, L3_54))) else none))) else none) else none))) else none))) else none) := rfl
set_option maxHeartbeats 8000000 in
set_option maxRecDepth 100000 in
theorem w_13 (X : GX) {z : Nat} {kd : Nat → Nat × Nat} {Rf : Nat → Nat → Option Nat} (hS : Sh z kd Rf) : ∀ (n dp d : Nat), dp ≤ d → ∀ (I : (Nat → Nat → Int32)) (L : (Nat → Nat → Int64)) (i1 : Int32) (i2 : Int32) (r : Int32) (I1 : (Nat → Nat → Int32)) (L1 : (Nat → Nat → Int64)), (g_13 n dp (z, kd, Rf) 0 I L i1 i2 = some (r, I1, L1) → K X d 13 0 0 (AI (fun x τ => x = r ∧ τ = (z, kd, I1, L1, Rf))) 0 [some (.ref 0), some (.int i1), some (.int i2), none] [] (z, kd, I, L, Rf) 0 0) := by
  intro n
  induction n with
  | zero => intro dp d hdp I L i1 i2 r I1 L1; exact fun h => by cases h
  | succ n ih =>
    intro dp d hdp I L i1 i2 r I1 L1
    · intro h
      rw [e_13_0] at h
      refine K_of b_13_0 h_13_0 ?_
      refine q_iload rfl ?_
      refine q_iconst (0) (by decide) ?_
      refine q_iconst (2) (by decide) ?_
      obtain ⟨d_3, h⟩ := ite_some h
      obtain ⟨⟨x0_3, I0_3, L0_3⟩, e_3, h⟩ := Option.bind_eq_some_iff.mp h
      dsimp only at h
      refine q_fs3I (a_14 X hS (d := d - 1) (by omega) e_3) (by omega) (Nat.le_refl _) (Nat.le_refl _) rfl (Nat.le_of_ble_eq_true rfl) ?_
      refine q_if_eq (fun c_6 => ?_) (fun c_6 => ?_)
      · rw [if_pos c_6] at h
        refine K_of b_13_19 h_13_19 ?_
        refine q_aload rfl ?_
        refine q_iconst (-1) (by decide) ?_
        obtain ⟨d_21, h⟩ := ite_some h
        obtain ⟨⟨x1_21, I1_21, L1_21⟩, e_21, h⟩ := Option.bind_eq_some_iff.mp h
        dsimp only at h
        refine q_fv2I (a_15 X hS (d := d - 1) (by omega) e_21) (by omega) (Nat.le_refl _) (Nat.le_refl _) rfl (Nat.le_of_ble_eq_true rfl) ⟨(zl hS 0 (by decide)), congrArg Prod.fst (sk hS 0 (by decide) rfl), by decide⟩ ?_
        cases h
        exact q_iret rfl (Nat.le_refl _) (Nat.le_refl _) ⟨rfl, rfl⟩
      · rw [if_neg c_6] at h
        refine q_iload rfl ?_
        refine q_iconst (0) (by decide) ?_
        refine q_iconst (8) (by decide) ?_
        obtain ⟨d_13, h⟩ := ite_some h
        obtain ⟨⟨x1_13, I1_13, L1_13⟩, e_13, h⟩ := Option.bind_eq_some_iff.mp h
        dsimp only at h
        refine q_fs3I (a_14 X hS (d := d - 1) (by omega) e_13) (by omega) (Nat.le_refl _) (Nat.le_refl _) rfl (Nat.le_of_ble_eq_true rfl) ?_
        refine q_if_ne (fun c_16 => ?_) (fun c_16 => ?_)
        · rw [if_neg c_16] at h
          refine K_of b_13_25 h_13_25 ?_
          refine q_aload rfl ?_
          refine q_getRs (c0 := 11) (j := 0) rfl rfl (zl hS 0 (by decide)) (sk hS 0 (by decide) rfl) rfl (by decide) (r_0_0 hS) ?_
          refine q_getRs (c0 := 3) (j := 0) rfl rfl (zl hS 1 (by decide)) (sk hS 1 (by decide) rfl) rfl (by decide) (r_1_0 hS) ?_
          refine q_iload rfl ?_
          obtain ⟨⟨u_33, v_33⟩, h⟩ := ite_some h
          refine q_ialN (Int32.toNatClampNeg i1) (nx u_33) (zl hS 2 (by decide)) (sk hS 2 (by decide) rfl) v_33 (by decide) ?_
          refine q_istore (Nat.le_of_ble_eq_true rfl) rfl ?_
          refine q_aload rfl ?_
          refine q_getRs (c0 := 11) (j := 0) rfl rfl (zl hS 0 (by decide)) (sk hS 0 (by decide) rfl) rfl (by decide) (r_0_0 hS) ?_
          obtain ⟨d_39, h⟩ := ite_some h
          obtain ⟨⟨x2_39, I2_39, L2_39⟩, e_39, h⟩ := Option.bind_eq_some_iff.mp h
          dsimp only at h
          refine q_fv1I (a_16 X hS (d := d - 1) (by omega) e_39) (by omega) (Nat.le_refl _) (Nat.le_refl _) rfl (Nat.le_of_ble_eq_true rfl) ⟨(zl hS 1 (by decide)), congrArg Prod.fst (sk hS 1 (by decide) rfl), by decide⟩ ?_
          refine q_iload rfl ?_
          refine q_isub ?_
          refine q_iload rfl ?_
          refine q_iadd ?_
          refine q_iconst (8) (by decide) ?_
          refine q_icmp_le (fun c_48 => ?_) (fun c_48 => ?_)
          · rw [if_pos c_48] at h
            refine K_of b_13_58 h_13_58 ?_
            refine q_aload rfl ?_
            refine q_getRs (c0 := 11) (j := 0) rfl rfl (zl hS 0 (by decide)) (sk hS 0 (by decide) rfl) rfl (by decide) (r_0_0 hS) ?_
            refine q_getRs (c0 := 3) (j := 0) rfl rfl (zl hS 1 (by decide)) (sk hS 1 (by decide) rfl) rfl (by decide) (r_1_0 hS) ?_
            refine q_iload rfl ?_
            refine q_iload rfl ?_
            obtain ⟨⟨u_67, v_67⟩, h⟩ := ite_some h
            refine q_iasN (Int32.toNatClampNeg i1) (nx u_67) (zl hS 2 (by decide)) (sk hS 2 (by decide) rfl) v_67 (by decide) ?_
            refine q_aload rfl ?_
            refine q_getRs (c0 := 11) (j := 3) rfl rfl (zl hS 0 (by decide)) (sk hS 0 (by decide) rfl) rfl (by decide) (r_0_3 hS) ?_
            obtain ⟨d_72, h⟩ := ite_some h
            obtain ⟨⟨I3_72, L3_72⟩, e_72, h⟩ := Option.bind_eq_some_iff.mp h
            dsimp only at h
            refine q_fv1V (a_17 X hS (d := d - 1) (by omega) e_72) (by omega) (Nat.le_refl _) (Nat.le_refl _) rfl (Nat.le_of_ble_eq_true rfl) ⟨(zl hS 24 (by decide)), congrArg Prod.fst (sk hS 24 (by decide) rfl), by decide⟩ ?_
            refine q_aload rfl ?_
            refine q_getRs (c0 := 11) (j := 4) rfl rfl (zl hS 0 (by decide)) (sk hS 0 (by decide) rfl) rfl (by decide) (r_0_4 hS) ?_
            obtain ⟨d_79, h⟩ := ite_some h
            obtain ⟨⟨I4_79, L4_79⟩, e_79, h⟩ := Option.bind_eq_some_iff.mp h
            dsimp only at h
            refine q_fv1V (a_18 X hS (d := d - 1) (by omega) e_79) (by omega) (Nat.le_refl _) (Nat.le_refl _) rfl (Nat.le_of_ble_eq_true rfl) ⟨(zl hS 73 (by decide)), congrArg Prod.fst (sk hS 73 (by decide) rfl), by decide⟩ ?_
            refine q_aload rfl ?_
            refine q_iload rfl ?_
            obtain ⟨d_84, h⟩ := ite_some h
            obtain ⟨⟨x5_84, I5_84, L5_84⟩, e_84, h⟩ := Option.bind_eq_some_iff.mp h
            dsimp only at h
            refine q_fv2I (a_19 X hS (d := d - 1) (by omega) e_84) (by omega) (Nat.le_refl _) (Nat.le_refl _) rfl (Nat.le_of_ble_eq_true rfl) ⟨(zl hS 0 (by decide)), congrArg Prod.fst (sk hS 0 (by decide) rfl), by decide⟩ ?_
            cases h
            exact q_iret rfl (Nat.le_refl _) (Nat.le_refl _) ⟨rfl, rfl⟩
          · rw [if_neg c_48] at h
            refine q_aload rfl ?_
            refine q_iconst (-3) (by decide) ?_
            obtain ⟨d_54, h⟩ := ite_some h
            obtain ⟨⟨x3_54, I3_54, L3_54⟩, e_54, h⟩ := Option.bind_eq_some_iff.mp h
            dsimp only at h
            refine q_fv2I (a_15 X hS (d := d - 1) (by omega) e_54) (by omega) (Nat.le_refl _) (Nat.le_refl _) rfl (Nat.le_of_ble_eq_true rfl) ⟨(zl hS 0 (by decide)), congrArg Prod.fst (sk hS 0 (by decide) rfl), by decide⟩ ?_
            cases h
            exact q_iret rfl (Nat.le_refl _) (Nat.le_refl _) ⟨rfl, rfl⟩
        · rw [if_pos c_16] at h
          refine q_end ?_
          refine K_of b_13_19 h_13_19 ?_
          refine q_aload rfl ?_
          refine q_iconst (-1) (by decide) ?_
          obtain ⟨d_21, h⟩ := ite_some h
          obtain ⟨⟨x2_21, I2_21, L2_21⟩, e_21, h⟩ := Option.bind_eq_some_iff.mp h
          dsimp only at h
          refine q_fv2I (a_15 X hS (d := d - 1) (by omega) e_21) (by omega) (Nat.le_refl _) (Nat.le_refl _) rfl (Nat.le_of_ble_eq_true rfl) ⟨(zl hS 0 (by decide)), congrArg Prod.fst (sk hS 0 (by decide) rfl), by decide⟩ ?_
          cases h
          exact q_iret rfl (Nat.le_refl _) (Nat.le_refl _) ⟨rfl, rfl⟩
theorem a_13 (X : GX) {z : Nat} {kd : Nat → Nat × Nat} {Rf : Nat → Nat → Option Nat} (hS : Sh z kd Rf) {n dp d : Nat} (hd : dp ≤ d) {I : (Nat → Nat → Int32)} {L : (Nat → Nat → Int64)} {i1 : Int32} {i2 : Int32} {I1 : (Nat → Nat → Int32)} {L1 : (Nat → Nat → Int64)} {r : Int32} (h : g_13 n dp (z, kd, Rf) 0 I L i1 i2 = some (r, I1, L1)) : Ct X d 13 0 0 [.ref 0, .int i1, .int i2] (z, kd, I, L, Rf) (AI (fun x τ => x = r ∧ τ = (z, kd, I1, L1, Rf))) :=
  Ct_of mu_13 (Nat.le_of_ble_eq_true rfl) ((w_13 X hS n dp d hd I L i1 i2 _ _ _) h)

/-! 30 CutFloor.feedFour(I)V -/
def g_30 : Nat → Nat → EN → Nat → (Nat → Nat → Int32) → (Nat → Nat → Int64) → Int32 → Int32 →  Option ((Nat → Nat → Int32) × (Nat → Nat → Int64))
  | 0, _, _, _, _, _, _, _ => none
  | n + 1, dp, e, lab, I, L, i1, i2 =>
    if lab = 0 then (g_30 n dp e 1 I L i1 (24 : Int32))
    else if lab = 1 then (if i2 < 0 then (some (I, L)) else (if (400 : Int32) ≤ (I 0 13) then (some (I, L)) else (if 0 ≤ (I 0 13) ∧ (Int32.toNatClampNeg (I 0 13)) < 400 then (g_30 n dp e 1 (u2 (u2 I 89 (Int32.toNatClampNeg (I 0 13)) ((Int32.toUInt32 i1 >>> (Int32.toUInt32 i2 &&& Int32.toUInt32 31)).toInt32 &&& (255 : Int32))) 0 13 (((u2 I 89 (Int32.toNatClampNeg (I 0 13)) ((Int32.toUInt32 i1 >>> (Int32.toUInt32 i2 &&& Int32.toUInt32 31)).toInt32 &&& (255 : Int32))) 0 13) + (1 : Int32))) L i1 (i2 + Int32.ofInt (-8))) else none)))
    else none
theorem e_30_0 (n dp : Nat) (e : EN) (I : (Nat → Nat → Int32)) (L : (Nat → Nat → Int64)) (i1 : Int32) (i2 : Int32) : g_30 (n + 1) dp e 0 I L i1 i2 = (g_30 n dp e 1 I L i1 (24 : Int32)) := rfl
theorem e_30_1 (n dp : Nat) (e : EN) (I : (Nat → Nat → Int32)) (L : (Nat → Nat → Int64)) (i1 : Int32) (i2 : Int32) : g_30 (n + 1) dp e 1 I L i1 i2 = (if i2 < 0 then (some (I, L)) else (if (400 : Int32) ≤ (I 0 13) then (some (I, L)) else (if 0 ≤ (I 0 13) ∧ (Int32.toNatClampNeg (I 0 13)) < 400 then (g_30 n dp e 1 (u2 (u2 I 89 (Int32.toNatClampNeg (I 0 13)) ((Int32.toUInt32 i1 >>> (Int32.toUInt32 i2 &&& Int32.toUInt32 31)).toInt32 &&& (255 : Int32))) 0 13 (((u2 I 89 (Int32.toNatClampNeg (I 0 13)) ((Int32.toUInt32 i1 >>> (Int32.toUInt32 i2 &&& Int32.toUInt32 31)).toInt32 &&& (255 : Int32))) 0 13) + (1 : Int32))) L i1 (i2 + Int32.ofInt (-8))) else none))) := rfl
set_option maxHeartbeats 8000000 in
set_option maxRecDepth 100000 in
theorem w_30 (X : GX) {z : Nat} {kd : Nat → Nat × Nat} {Rf : Nat → Nat → Option Nat} (hS : Sh z kd Rf) : ∀ (n dp d : Nat), dp ≤ d → ∀ (I : (Nat → Nat → Int32)) (L : (Nat → Nat → Int64)) (i1 : Int32) (i2 : Int32) (I1 : (Nat → Nat → Int32)) (L1 : (Nat → Nat → Int64)), (g_30 n dp (z, kd, Rf) 0 I L i1 i2 = some (I1, L1) → K X d 30 0 0 (AV (fun τ => τ = (z, kd, I1, L1, Rf))) 0 [some (.ref 0), some (.int i1), none] [] (z, kd, I, L, Rf) 0 0) ∧
    (g_30 n dp (z, kd, Rf) 1 I L i1 i2 = some (I1, L1) → K X d 30 0 0 (AV (fun τ => τ = (z, kd, I1, L1, Rf))) 3 [some (.ref 0), some (.int i1), some (.int i2)] [] (z, kd, I, L, Rf) 0 0) := by
  intro n
  induction n with
  | zero => intro dp d hdp I L i1 i2 I1 L1; exact ⟨(fun h => by cases h), (fun h => by cases h)⟩
  | succ n ih =>
    intro dp d hdp I L i1 i2 I1 L1
    refine ⟨?_, ?_⟩
    · intro h
      rw [e_30_0] at h
      refine K_of b_30_0 h_30_0 ?_
      refine q_iconst (24) (by decide) ?_
      refine q_istore (Nat.le_of_ble_eq_true rfl) rfl ?_
      refine q_end ?_
      exact (ih dp d hdp _ _ i1 (24 : Int32) _ _).2 h
    · intro h
      rw [e_30_1] at h
      refine K_of b_30_3 h_30_3 ?_
      refine q_iload rfl ?_
      refine q_if_lt (fun c_4 => ?_) (fun c_4 => ?_)
      · rw [if_pos c_4] at h
        refine K_of b_30_49 h_30_49 ?_
        cases h
        exact q_vret rfl (Nat.le_refl _) (Nat.le_refl _) rfl
      · rw [if_neg c_4] at h
        refine q_aload rfl ?_
        refine q_getI (c0 := 11) (j := 13) rfl rfl (zl hS 0 (by decide)) (sk hS 0 (by decide) rfl) (Or.inl rfl) (by decide) ?_
        refine q_iconst (400) (by decide) ?_
        refine q_icmp_ge (fun c_14 => ?_) (fun c_14 => ?_)
        · rw [if_pos c_14] at h
          refine K_of b_30_49 h_30_49 ?_
          cases h
          exact q_vret rfl (Nat.le_refl _) (Nat.le_refl _) rfl
        · rw [if_neg c_14] at h
          refine q_aload rfl ?_
          refine q_getRs (c0 := 11) (j := 7) rfl rfl (zl hS 0 (by decide)) (sk hS 0 (by decide) rfl) rfl (by decide) (r_0_7 hS) ?_
          refine q_aload rfl ?_
          refine q_getI (c0 := 11) (j := 13) rfl rfl (zl hS 0 (by decide)) (sk hS 0 (by decide) rfl) (Or.inl rfl) (by decide) ?_
          refine q_iload rfl ?_
          refine q_iload rfl ?_
          refine q_iushr ?_
          refine q_iconst (255) (by decide) ?_
          refine q_iand ?_
          obtain ⟨⟨u_32, v_32⟩, h⟩ := ite_some h
          refine q_iasN (Int32.toNatClampNeg (I 0 13)) (nx u_32) (zl hS 89 (by decide)) (sk hS 89 (by decide) rfl) v_32 (by decide) ?_
          refine q_aload rfl ?_
          refine q_dup rfl ?_
          refine q_getI (c0 := 11) (j := 13) rfl rfl (zl hS 0 (by decide)) (sk hS 0 (by decide) rfl) (Or.inl rfl) (by decide) ?_
          refine q_iconst (1) (by decide) ?_
          refine q_iadd ?_
          refine q_putI (c0 := 11) (j := 13) rfl rfl (zl hS 0 (by decide)) (sk hS 0 (by decide) rfl) rfl ?_
          refine q_iinc rfl rfl ?_
          refine q_goto ?_
          exact (ih dp d hdp _ _ i1 (i2 + Int32.ofInt (-8)) _ _).2 h
theorem a_30 (X : GX) {z : Nat} {kd : Nat → Nat × Nat} {Rf : Nat → Nat → Option Nat} (hS : Sh z kd Rf) {n dp d : Nat} (hd : dp ≤ d) {I : (Nat → Nat → Int32)} {L : (Nat → Nat → Int64)} {i1 : Int32} {I1 : (Nat → Nat → Int32)} {L1 : (Nat → Nat → Int64)} (h : g_30 n dp (z, kd, Rf) 0 I L i1 0 = some (I1, L1)) : Ct X d 30 0 0 [.ref 0, .int i1] (z, kd, I, L, Rf) (AV (fun τ => τ = (z, kd, I1, L1, Rf))) :=
  Ct_of mu_30 (Nat.le_of_ble_eq_true rfl) ((w_30 X hS n dp d hd I L i1 0 _ _).1 h)

/-! 29 CutFloor.feed(IIIII)I -/
def g_29 : Nat → Nat → EN → Nat → (Nat → Nat → Int32) → (Nat → Nat → Int64) → Int32 → Int32 → Int32 → Int32 → Int32 →  Option (Int32 × (Nat → Nat → Int32) × (Nat → Nat → Int64))
  | 0, _, _, _, _, _, _, _, _, _, _ => none
  | n + 1, dp, e, lab, I, L, i1, i2, i3, i4, i5 =>
    if lab = 0 then (if (I 0 13) ≤ (380 : Int32) then (if 1 ≤ dp then (g_30 n (dp - 1) e 0 I L i1 0).bind (fun ⟨I0_14, L0_14⟩ => (if 1 ≤ dp then (g_30 n (dp - 1) e 0 I0_14 L0_14 i2 0).bind (fun ⟨I1_19, L1_19⟩ => (if 1 ≤ dp then (g_30 n (dp - 1) e 0 I1_19 L1_19 i3 0).bind (fun ⟨I2_24, L2_24⟩ => (if 1 ≤ dp then (g_30 n (dp - 1) e 0 I2_24 L2_24 i4 0).bind (fun ⟨I3_30, L3_30⟩ => (if 1 ≤ dp then (g_30 n (dp - 1) e 0 I3_30 L3_30 i5 0).bind (fun ⟨I4_36, L4_36⟩ => (some ((I4_36 0 13), I4_36, L4_36))) else none)) else none)) else none)) else none)) else none) else (some ((-1 : Int32), I, L)))
    else none
theorem e_29_0 (n dp : Nat) (e : EN) (I : (Nat → Nat → Int32)) (L : (Nat → Nat → Int64)) (i1 : Int32) (i2 : Int32) (i3 : Int32) (i4 : Int32) (i5 : Int32) : g_29 (n + 1) dp e 0 I L i1 i2 i3 i4 i5 = (if (I 0 13) ≤ (380 : Int32) then (if 1 ≤ dp then (g_30 n (dp - 1) e 0 I L i1 0).bind (fun ⟨I0_14, L0_14⟩ => (if 1 ≤ dp then (g_30 n (dp - 1) e 0 I0_14 L0_14 i2 0).bind (fun ⟨I1_19, L1_19⟩ => (if 1 ≤ dp then (g_30 n (dp - 1) e 0 I1_19 L1_19 i3 0).bind (fun ⟨I2_24, L2_24⟩ => (if 1 ≤ dp then (g_30 n (dp - 1) e 0 I2_24 L2_24 i4 0).bind (fun ⟨I3_30, L3_30⟩ => (if 1 ≤ dp then (g_30 n (dp - 1) e 0 I3_30 L3_30 i5 0).bind (fun ⟨I4_36, L4_36⟩ => (some ((I4_36 0 13), I4_36, L4_36))) else none)) else none)) else none)) else none)) else none) else (some ((-1 : Int32), I, L))) := rfl
set_option maxHeartbeats 8000000 in
set_option maxRecDepth 100000 in
theorem w_29 (X : GX) {z : Nat} {kd : Nat → Nat × Nat} {Rf : Nat → Nat → Option Nat} (hS : Sh z kd Rf) : ∀ (n dp d : Nat), dp ≤ d → ∀ (I : (Nat → Nat → Int32)) (L : (Nat → Nat → Int64)) (i1 : Int32) (i2 : Int32) (i3 : Int32) (i4 : Int32) (i5 : Int32) (r : Int32) (I1 : (Nat → Nat → Int32)) (L1 : (Nat → Nat → Int64)), (g_29 n dp (z, kd, Rf) 0 I L i1 i2 i3 i4 i5 = some (r, I1, L1) → K X d 29 0 0 (AI (fun x τ => x = r ∧ τ = (z, kd, I1, L1, Rf))) 0 [some (.ref 0), some (.int i1), some (.int i2), some (.int i3), some (.int i4), some (.int i5)] [] (z, kd, I, L, Rf) 0 0) := by
  intro n
  induction n with
  | zero => intro dp d hdp I L i1 i2 i3 i4 i5 r I1 L1; exact fun h => by cases h
  | succ n ih =>
    intro dp d hdp I L i1 i2 i3 i4 i5 r I1 L1
    · intro h
      rw [e_29_0] at h
      refine K_of b_29_0 h_29_0 ?_
      refine q_aload rfl ?_
      refine q_getI (c0 := 11) (j := 13) rfl rfl (zl hS 0 (by decide)) (sk hS 0 (by decide) rfl) (Or.inl rfl) (by decide) ?_
      refine q_iconst (380) (by decide) ?_
      refine q_icmp_le (fun c_7 => ?_) (fun c_7 => ?_)
      · rw [if_pos c_7] at h
        refine K_of b_29_12 h_29_12 ?_
        refine q_aload rfl ?_
        refine q_iload rfl ?_
        obtain ⟨d_14, h⟩ := ite_some h
        obtain ⟨⟨I0_14, L0_14⟩, e_14, h⟩ := Option.bind_eq_some_iff.mp h
        dsimp only at h
        refine q_fv2V (a_30 X hS (d := d - 1) (by omega) e_14) (by omega) (Nat.le_refl _) (Nat.le_refl _) rfl (Nat.le_of_ble_eq_true rfl) ⟨(zl hS 0 (by decide)), congrArg Prod.fst (sk hS 0 (by decide) rfl), by decide⟩ ?_
        refine q_aload rfl ?_
        refine q_iload rfl ?_
        obtain ⟨d_19, h⟩ := ite_some h
        obtain ⟨⟨I1_19, L1_19⟩, e_19, h⟩ := Option.bind_eq_some_iff.mp h
        dsimp only at h
        refine q_fv2V (a_30 X hS (d := d - 1) (by omega) e_19) (by omega) (Nat.le_refl _) (Nat.le_refl _) rfl (Nat.le_of_ble_eq_true rfl) ⟨(zl hS 0 (by decide)), congrArg Prod.fst (sk hS 0 (by decide) rfl), by decide⟩ ?_
        refine q_aload rfl ?_
        refine q_iload rfl ?_
        obtain ⟨d_24, h⟩ := ite_some h
        obtain ⟨⟨I2_24, L2_24⟩, e_24, h⟩ := Option.bind_eq_some_iff.mp h
        dsimp only at h
        refine q_fv2V (a_30 X hS (d := d - 1) (by omega) e_24) (by omega) (Nat.le_refl _) (Nat.le_refl _) rfl (Nat.le_of_ble_eq_true rfl) ⟨(zl hS 0 (by decide)), congrArg Prod.fst (sk hS 0 (by decide) rfl), by decide⟩ ?_
        refine q_aload rfl ?_
        refine q_iload rfl ?_
        obtain ⟨d_30, h⟩ := ite_some h
        obtain ⟨⟨I3_30, L3_30⟩, e_30, h⟩ := Option.bind_eq_some_iff.mp h
        dsimp only at h
        refine q_fv2V (a_30 X hS (d := d - 1) (by omega) e_30) (by omega) (Nat.le_refl _) (Nat.le_refl _) rfl (Nat.le_of_ble_eq_true rfl) ⟨(zl hS 0 (by decide)), congrArg Prod.fst (sk hS 0 (by decide) rfl), by decide⟩ ?_
        refine q_aload rfl ?_
        refine q_iload rfl ?_
        obtain ⟨d_36, h⟩ := ite_some h
        obtain ⟨⟨I4_36, L4_36⟩, e_36, h⟩ := Option.bind_eq_some_iff.mp h
        dsimp only at h
        refine q_fv2V (a_30 X hS (d := d - 1) (by omega) e_36) (by omega) (Nat.le_refl _) (Nat.le_refl _) rfl (Nat.le_of_ble_eq_true rfl) ⟨(zl hS 0 (by decide)), congrArg Prod.fst (sk hS 0 (by decide) rfl), by decide⟩ ?_
        refine q_aload rfl ?_
        refine q_getI (c0 := 11) (j := 13) rfl rfl (zl hS 0 (by decide)) (sk hS 0 (by decide) rfl) (Or.inl rfl) (by decide) ?_
        cases h
        exact q_iret rfl (Nat.le_refl _) (Nat.le_refl _) ⟨rfl, rfl⟩
      · rw [if_neg c_7] at h
        refine q_iconst (-1) (by decide) ?_
        cases h
        exact q_iret rfl (Nat.le_refl _) (Nat.le_refl _) ⟨rfl, rfl⟩
theorem a_29 (X : GX) {z : Nat} {kd : Nat → Nat × Nat} {Rf : Nat → Nat → Option Nat} (hS : Sh z kd Rf) {n dp d : Nat} (hd : dp ≤ d) {I : (Nat → Nat → Int32)} {L : (Nat → Nat → Int64)} {i1 : Int32} {i2 : Int32} {i3 : Int32} {i4 : Int32} {i5 : Int32} {I1 : (Nat → Nat → Int32)} {L1 : (Nat → Nat → Int64)} {r : Int32} (h : g_29 n dp (z, kd, Rf) 0 I L i1 i2 i3 i4 i5 = some (r, I1, L1)) : Ct X d 29 0 0 [.ref 0, .int i1, .int i2, .int i3, .int i4, .int i5] (z, kd, I, L, Rf) (AI (fun x τ => x = r ∧ τ = (z, kd, I1, L1, Rf))) :=
  Ct_of mu_29 (Nat.le_of_ble_eq_true rfl) ((w_29 X hS n dp d hd I L i1 i2 i3 i4 i5 _ _ _) h)

/-! 209 CutFloorModel.four(I)V -/
def g_209 : Nat → Nat → EN → Nat → (Nat → Nat → Int32) → (Nat → Nat → Int64) → Int32 → Int32 →  Option ((Nat → Nat → Int32) × (Nat → Nat → Int64))
  | 0, _, _, _, _, _, _, _ => none
  | n + 1, dp, e, lab, I, L, i1, i2 =>
    if lab = 0 then (g_209 n dp e 1 I L i1 (24 : Int32))
    else if lab = 1 then (if i2 < 0 then (some (I, L)) else (if 0 ≤ (I 105 7) ∧ (Int32.toNatClampNeg (I 105 7)) < 400 then (g_209 n dp e 1 (u2 (u2 I 110 (Int32.toNatClampNeg (I 105 7)) ((i1 >>> (i2 &&& 31)) &&& (255 : Int32))) 105 7 (((u2 I 110 (Int32.toNatClampNeg (I 105 7)) ((i1 >>> (i2 &&& 31)) &&& (255 : Int32))) 105 7) + (1 : Int32))) L i1 (i2 + Int32.ofInt (-8))) else none))
    else none
theorem e_209_0 (n dp : Nat) (e : EN) (I : (Nat → Nat → Int32)) (L : (Nat → Nat → Int64)) (i1 : Int32) (i2 : Int32) : g_209 (n + 1) dp e 0 I L i1 i2 = (g_209 n dp e 1 I L i1 (24 : Int32)) := rfl
theorem e_209_1 (n dp : Nat) (e : EN) (I : (Nat → Nat → Int32)) (L : (Nat → Nat → Int64)) (i1 : Int32) (i2 : Int32) : g_209 (n + 1) dp e 1 I L i1 i2 = (if i2 < 0 then (some (I, L)) else (if 0 ≤ (I 105 7) ∧ (Int32.toNatClampNeg (I 105 7)) < 400 then (g_209 n dp e 1 (u2 (u2 I 110 (Int32.toNatClampNeg (I 105 7)) ((i1 >>> (i2 &&& 31)) &&& (255 : Int32))) 105 7 (((u2 I 110 (Int32.toNatClampNeg (I 105 7)) ((i1 >>> (i2 &&& 31)) &&& (255 : Int32))) 105 7) + (1 : Int32))) L i1 (i2 + Int32.ofInt (-8))) else none)) := rfl
set_option maxHeartbeats 8000000 in
set_option maxRecDepth 100000 in
theorem w_209 (X : GX) {z : Nat} {kd : Nat → Nat × Nat} {Rf : Nat → Nat → Option Nat} (hS : Sh z kd Rf) : ∀ (n dp d : Nat), dp ≤ d → ∀ (I : (Nat → Nat → Int32)) (L : (Nat → Nat → Int64)) (i1 : Int32) (i2 : Int32) (I1 : (Nat → Nat → Int32)) (L1 : (Nat → Nat → Int64)), (g_209 n dp (z, kd, Rf) 0 I L i1 i2 = some (I1, L1) → K X d 209 0 0 (AV (fun τ => τ = (z, kd, I1, L1, Rf))) 0 [some (.ref 105), some (.int i1), none] [] (z, kd, I, L, Rf) 0 0) ∧
    (g_209 n dp (z, kd, Rf) 1 I L i1 i2 = some (I1, L1) → K X d 209 0 0 (AV (fun τ => τ = (z, kd, I1, L1, Rf))) 3 [some (.ref 105), some (.int i1), some (.int i2)] [] (z, kd, I, L, Rf) 0 0) := by
  intro n
  induction n with
  | zero => intro dp d hdp I L i1 i2 I1 L1; exact ⟨(fun h => by cases h), (fun h => by cases h)⟩
  | succ n ih =>
    intro dp d hdp I L i1 i2 I1 L1
    refine ⟨?_, ?_⟩
    · intro h
      rw [e_209_0] at h
      refine K_of b_209_0 h_209_0 ?_
      refine q_iconst (24) (by decide) ?_
      refine q_istore (Nat.le_of_ble_eq_true rfl) rfl ?_
      refine q_end ?_
      exact (ih dp d hdp _ _ i1 (24 : Int32) _ _).2 h
    · intro h
      rw [e_209_1] at h
      refine K_of b_209_3 h_209_3 ?_
      refine q_iload rfl ?_
      refine q_if_lt (fun c_4 => ?_) (fun c_4 => ?_)
      · rw [if_pos c_4] at h
        refine K_of b_209_39 h_209_39 ?_
        cases h
        exact q_vret rfl (Nat.le_refl _) (Nat.le_refl _) rfl
      · rw [if_neg c_4] at h
        refine q_aload rfl ?_
        refine q_getRs (c0 := 12) (j := 6) rfl rfl (zl hS 105 (by decide)) (sk hS 105 (by decide) rfl) rfl (by decide) (r_105_6 hS) ?_
        refine q_aload rfl ?_
        refine q_getI (c0 := 12) (j := 7) rfl rfl (zl hS 105 (by decide)) (sk hS 105 (by decide) rfl) (Or.inl rfl) (by decide) ?_
        refine q_iload rfl ?_
        refine q_iload rfl ?_
        refine q_ishr ?_
        refine q_iconst (255) (by decide) ?_
        refine q_iand ?_
        obtain ⟨⟨u_22, v_22⟩, h⟩ := ite_some h
        refine q_iasN (Int32.toNatClampNeg (I 105 7)) (nx u_22) (zl hS 110 (by decide)) (sk hS 110 (by decide) rfl) v_22 (by decide) ?_
        refine q_aload rfl ?_
        refine q_dup rfl ?_
        refine q_getI (c0 := 12) (j := 7) rfl rfl (zl hS 105 (by decide)) (sk hS 105 (by decide) rfl) (Or.inl rfl) (by decide) ?_
        refine q_iconst (1) (by decide) ?_
        refine q_iadd ?_
        refine q_putI (c0 := 12) (j := 7) rfl rfl (zl hS 105 (by decide)) (sk hS 105 (by decide) rfl) rfl ?_
        refine q_iinc rfl rfl ?_
        refine q_goto ?_
        exact (ih dp d hdp _ _ i1 (i2 + Int32.ofInt (-8)) _ _).2 h
theorem a_209 (X : GX) {z : Nat} {kd : Nat → Nat × Nat} {Rf : Nat → Nat → Option Nat} (hS : Sh z kd Rf) {n dp d : Nat} (hd : dp ≤ d) {I : (Nat → Nat → Int32)} {L : (Nat → Nat → Int64)} {i1 : Int32} {I1 : (Nat → Nat → Int32)} {L1 : (Nat → Nat → Int64)} (h : g_209 n dp (z, kd, Rf) 0 I L i1 0 = some (I1, L1)) : Ct X d 209 0 0 [.ref 105, .int i1] (z, kd, I, L, Rf) (AV (fun τ => τ = (z, kd, I1, L1, Rf))) :=
  Ct_of mu_209 (Nat.le_of_ble_eq_true rfl) ((w_209 X hS n dp d hd I L i1 0 _ _).1 h)

/-! 208 CutFloorModel.feed(IIIII)I -/
def g_208 : Nat → Nat → EN → Nat → (Nat → Nat → Int32) → (Nat → Nat → Int64) → Int32 → Int32 → Int32 → Int32 → Int32 →  Option (Int32 × (Nat → Nat → Int32) × (Nat → Nat → Int64))
  | 0, _, _, _, _, _, _, _, _, _, _ => none
  | n + 1, dp, e, lab, I, L, i1, i2, i3, i4, i5 =>
    if lab = 0 then (if (((u2 I 105 0 (0 : Int32)) 105 7) + (20 : Int32)) ≤ (400 : Int32) then (if 1 ≤ dp then (g_209 n (dp - 1) e 0 (u2 I 105 0 (0 : Int32)) L i1 0).bind (fun ⟨I0_22, L0_22⟩ => (if 1 ≤ dp then (g_209 n (dp - 1) e 0 I0_22 L0_22 i2 0).bind (fun ⟨I1_27, L1_27⟩ => (if 1 ≤ dp then (g_209 n (dp - 1) e 0 I1_27 L1_27 i3 0).bind (fun ⟨I2_32, L2_32⟩ => (if 1 ≤ dp then (g_209 n (dp - 1) e 0 I2_32 L2_32 i4 0).bind (fun ⟨I3_38, L3_38⟩ => (if 1 ≤ dp then (g_209 n (dp - 1) e 0 I3_38 L3_38 i5 0).bind (fun ⟨I4_44, L4_44⟩ => (some ((I4_44 105 7), I4_44, L4_44))) else none)) else none)) else none)) else none)) else none) else (some ((-1 : Int32), (u2 I 105 0 (0 : Int32)), L)))
    else none
theorem e_208_0 (n dp : Nat) (e : EN) (I : (Nat → Nat → Int32)) (L : (Nat → Nat → Int64)) (i1 : Int32) (i2 : Int32) (i3 : Int32) (i4 : Int32) (i5 : Int32) : g_208 (n + 1) dp e 0 I L i1 i2 i3 i4 i5 = (if (((u2 I 105 0 (0 : Int32)) 105 7) + (20 : Int32)) ≤ (400 : Int32) then (if 1 ≤ dp then (g_209 n (dp - 1) e 0 (u2 I 105 0 (0 : Int32)) L i1 0).bind (fun ⟨I0_22, L0_22⟩ => (if 1 ≤ dp then (g_209 n (dp - 1) e 0 I0_22 L0_22 i2 0).bind (fun ⟨I1_27, L1_27⟩ => (if 1 ≤ dp then (g_209 n (dp - 1) e 0 I1_27 L1_27 i3 0).bind (fun ⟨I2_32, L2_32⟩ => (if 1 ≤ dp then (g_209 n (dp - 1) e 0 I2_32 L2_32 i4 0).bind (fun ⟨I3_38, L3_38⟩ => (if 1 ≤ dp then (g_209 n (dp - 1) e 0 I3_38 L3_38 i5 0).bind (fun ⟨I4_44, L4_44⟩ => (some ((I4_44 105 7), I4_44, L4_44))) else none)) else none)) else none)) else none)) else none) else (some ((-1 : Int32), (u2 I 105 0 (0 : Int32)), L))) := rfl
set_option maxHeartbeats 8000000 in
set_option maxRecDepth 100000 in
theorem w_208 (X : GX) {z : Nat} {kd : Nat → Nat × Nat} {Rf : Nat → Nat → Option Nat} (hS : Sh z kd Rf) : ∀ (n dp d : Nat), dp ≤ d → ∀ (I : (Nat → Nat → Int32)) (L : (Nat → Nat → Int64)) (i1 : Int32) (i2 : Int32) (i3 : Int32) (i4 : Int32) (i5 : Int32) (r : Int32) (I1 : (Nat → Nat → Int32)) (L1 : (Nat → Nat → Int64)), (g_208 n dp (z, kd, Rf) 0 I L i1 i2 i3 i4 i5 = some (r, I1, L1) → K X d 208 0 0 (AI (fun x τ => x = r ∧ τ = (z, kd, I1, L1, Rf))) 0 [some (.ref 105), some (.int i1), some (.int i2), some (.int i3), some (.int i4), some (.int i5)] [] (z, kd, I, L, Rf) 0 0) := by
  intro n
  induction n with
  | zero => intro dp d hdp I L i1 i2 i3 i4 i5 r I1 L1; exact fun h => by cases h
  | succ n ih =>
    intro dp d hdp I L i1 i2 i3 i4 i5 r I1 L1
    · intro h
      rw [e_208_0] at h
      refine K_of b_208_0 h_208_0 ?_
      refine q_aload rfl ?_
      refine q_iconst (0) (by decide) ?_
      refine q_putI (c0 := 12) (j := 0) rfl rfl (zl hS 105 (by decide)) (sk hS 105 (by decide) rfl) rfl ?_
      refine q_aload rfl ?_
      refine q_getI (c0 := 12) (j := 7) rfl rfl (zl hS 105 (by decide)) (sk hS 105 (by decide) rfl) (Or.inl rfl) (by decide) ?_
      refine q_iconst (20) (by decide) ?_
      refine q_iadd ?_
      refine q_iconst (400) (by decide) ?_
      refine q_icmp_le (fun c_15 => ?_) (fun c_15 => ?_)
      · rw [if_pos c_15] at h
        refine K_of b_208_20 h_208_20 ?_
        refine q_aload rfl ?_
        refine q_iload rfl ?_
        obtain ⟨d_22, h⟩ := ite_some h
        obtain ⟨⟨I0_22, L0_22⟩, e_22, h⟩ := Option.bind_eq_some_iff.mp h
        dsimp only at h
        refine q_fv2V (a_209 X hS (d := d - 1) (by omega) e_22) (by omega) (Nat.le_refl _) (Nat.le_refl _) rfl (Nat.le_of_ble_eq_true rfl) ⟨(zl hS 105 (by decide)), congrArg Prod.fst (sk hS 105 (by decide) rfl), by decide⟩ ?_
        refine q_aload rfl ?_
        refine q_iload rfl ?_
        obtain ⟨d_27, h⟩ := ite_some h
        obtain ⟨⟨I1_27, L1_27⟩, e_27, h⟩ := Option.bind_eq_some_iff.mp h
        dsimp only at h
        refine q_fv2V (a_209 X hS (d := d - 1) (by omega) e_27) (by omega) (Nat.le_refl _) (Nat.le_refl _) rfl (Nat.le_of_ble_eq_true rfl) ⟨(zl hS 105 (by decide)), congrArg Prod.fst (sk hS 105 (by decide) rfl), by decide⟩ ?_
        refine q_aload rfl ?_
        refine q_iload rfl ?_
        obtain ⟨d_32, h⟩ := ite_some h
        obtain ⟨⟨I2_32, L2_32⟩, e_32, h⟩ := Option.bind_eq_some_iff.mp h
        dsimp only at h
        refine q_fv2V (a_209 X hS (d := d - 1) (by omega) e_32) (by omega) (Nat.le_refl _) (Nat.le_refl _) rfl (Nat.le_of_ble_eq_true rfl) ⟨(zl hS 105 (by decide)), congrArg Prod.fst (sk hS 105 (by decide) rfl), by decide⟩ ?_
        refine q_aload rfl ?_
        refine q_iload rfl ?_
        obtain ⟨d_38, h⟩ := ite_some h
        obtain ⟨⟨I3_38, L3_38⟩, e_38, h⟩ := Option.bind_eq_some_iff.mp h
        dsimp only at h
        refine q_fv2V (a_209 X hS (d := d - 1) (by omega) e_38) (by omega) (Nat.le_refl _) (Nat.le_refl _) rfl (Nat.le_of_ble_eq_true rfl) ⟨(zl hS 105 (by decide)), congrArg Prod.fst (sk hS 105 (by decide) rfl), by decide⟩ ?_
        refine q_aload rfl ?_
        refine q_iload rfl ?_
        obtain ⟨d_44, h⟩ := ite_some h
        obtain ⟨⟨I4_44, L4_44⟩, e_44, h⟩ := Option.bind_eq_some_iff.mp h
        dsimp only at h
        refine q_fv2V (a_209 X hS (d := d - 1) (by omega) e_44) (by omega) (Nat.le_refl _) (Nat.le_refl _) rfl (Nat.le_of_ble_eq_true rfl) ⟨(zl hS 105 (by decide)), congrArg Prod.fst (sk hS 105 (by decide) rfl), by decide⟩ ?_
        refine q_aload rfl ?_
        refine q_getI (c0 := 12) (j := 7) rfl rfl (zl hS 105 (by decide)) (sk hS 105 (by decide) rfl) (Or.inl rfl) (by decide) ?_
        cases h
        exact q_iret rfl (Nat.le_refl _) (Nat.le_refl _) ⟨rfl, rfl⟩
      · rw [if_neg c_15] at h
        refine q_iconst (-1) (by decide) ?_
        cases h
        exact q_iret rfl (Nat.le_refl _) (Nat.le_refl _) ⟨rfl, rfl⟩
theorem a_208 (X : GX) {z : Nat} {kd : Nat → Nat × Nat} {Rf : Nat → Nat → Option Nat} (hS : Sh z kd Rf) {n dp d : Nat} (hd : dp ≤ d) {I : (Nat → Nat → Int32)} {L : (Nat → Nat → Int64)} {i1 : Int32} {i2 : Int32} {i3 : Int32} {i4 : Int32} {i5 : Int32} {I1 : (Nat → Nat → Int32)} {L1 : (Nat → Nat → Int64)} {r : Int32} (h : g_208 n dp (z, kd, Rf) 0 I L i1 i2 i3 i4 i5 = some (r, I1, L1)) : Ct X d 208 0 0 [.ref 105, .int i1, .int i2, .int i3, .int i4, .int i5] (z, kd, I, L, Rf) (AI (fun x τ => x = r ∧ τ = (z, kd, I1, L1, Rf))) :=
  Ct_of mu_208 (Nat.le_of_ble_eq_true rfl) ((w_208 X hS n dp d hd I L i1 i2 i3 i4 i5 _ _ _) h)

/-! 180 CutFloor.drift(III)I -/
def g_180 : Nat → Nat → EN → Nat → (Nat → Nat → Int32) → (Nat → Nat → Int64) → Int32 → Int32 → Int32 → Int32 → Int32 → Int32 → Int32 →  Option (Int32 × (Nat → Nat → Int32) × (Nat → Nat → Int64))
  | 0, _, _, _, _, _, _, _, _, _, _, _, _ => none
  | n + 1, dp, e, lab, I, L, i1, i2, i3, i4, i5, i6, i7 =>
    if lab = 0 then (if 1 ≤ dp then (g_14 n (dp - 1) e 0 I L i1 (0 : Int32) (99 : Int32)).bind (fun ⟨x0_4, I0_4, L0_4⟩ => (if x0_4 = 0 then (some ((-1 : Int32), I0_4, L0_4)) else (if 1 ≤ dp then (g_14 n (dp - 1) e 0 I0_4 L0_4 i2 (0 : Int32) (9999 : Int32)).bind (fun ⟨x1_15, I1_15, L1_15⟩ => (if x1_15 = 0 then (some ((-1 : Int32), I1_15, L1_15)) else (if 1 ≤ dp then (g_14 n (dp - 1) e 0 I1_15 L1_15 i3 (0 : Int32) (1 : Int32)).bind (fun ⟨x2_24, I2_24, L2_24⟩ => (if x2_24 = 0 then (some ((-1 : Int32), I2_24, L2_24)) else (g_180 n dp e 1 I2_24 L2_24 i1 i2 i3 (0 : Int32) (0 : Int32) (-1 : Int32) (0 : Int32)))) else none))) else none))) else none)
    else if lab = 1 then (if (I 1 10) ≤ i7 then (if i3 = 0 then (some (i6, I, L)) else (some (i5, I, L))) else (if 0 ≤ i7 ∧ (Int32.toNatClampNeg i7) < 40 then (if 1 ≤ dp then (if 1 ≤ dp then (if i6 = (-1 : Int32) then (if (if (0 : Int32) < ((i4 + (I 8 (Int32.toNatClampNeg i7))) - i1) then ((i4 + (I 8 (Int32.toNatClampNeg i7))) - i1) else (0 : Int32)) ≤ i2 then (g_180 n dp e 2 I L i1 i2 i3 (if (0 : Int32) < ((i4 + (I 8 (Int32.toNatClampNeg i7))) - i1) then ((i4 + (I 8 (Int32.toNatClampNeg i7))) - i1) else (0 : Int32)) (if i5 < (if (0 : Int32) < ((i4 + (I 8 (Int32.toNatClampNeg i7))) - i1) then ((i4 + (I 8 (Int32.toNatClampNeg i7))) - i1) else (0 : Int32)) then (if (0 : Int32) < ((i4 + (I 8 (Int32.toNatClampNeg i7))) - i1) then ((i4 + (I 8 (Int32.toNatClampNeg i7))) - i1) else (0 : Int32)) else i5) i6 i7) else (g_180 n dp e 2 I L i1 i2 i3 (if (0 : Int32) < ((i4 + (I 8 (Int32.toNatClampNeg i7))) - i1) then ((i4 + (I 8 (Int32.toNatClampNeg i7))) - i1) else (0 : Int32)) (if i5 < (if (0 : Int32) < ((i4 + (I 8 (Int32.toNatClampNeg i7))) - i1) then ((i4 + (I 8 (Int32.toNatClampNeg i7))) - i1) else (0 : Int32)) then (if (0 : Int32) < ((i4 + (I 8 (Int32.toNatClampNeg i7))) - i1) then ((i4 + (I 8 (Int32.toNatClampNeg i7))) - i1) else (0 : Int32)) else i5) i7 i7)) else (g_180 n dp e 2 I L i1 i2 i3 (if (0 : Int32) < ((i4 + (I 8 (Int32.toNatClampNeg i7))) - i1) then ((i4 + (I 8 (Int32.toNatClampNeg i7))) - i1) else (0 : Int32)) (if i5 < (if (0 : Int32) < ((i4 + (I 8 (Int32.toNatClampNeg i7))) - i1) then ((i4 + (I 8 (Int32.toNatClampNeg i7))) - i1) else (0 : Int32)) then (if (0 : Int32) < ((i4 + (I 8 (Int32.toNatClampNeg i7))) - i1) then ((i4 + (I 8 (Int32.toNatClampNeg i7))) - i1) else (0 : Int32)) else i5) i6 i7)) else none) else none) else none))
    else if lab = 2 then (g_180 n dp e 1 I L i1 i2 i3 i4 i5 i6 (i7 + Int32.ofInt (1)))
    else none
theorem e_180_0 (n dp : Nat) (e : EN) (I : (Nat → Nat → Int32)) (L : (Nat → Nat → Int64)) (i1 : Int32) (i2 : Int32) (i3 : Int32) (i4 : Int32) (i5 : Int32) (i6 : Int32) (i7 : Int32) : g_180 (n + 1) dp e 0 I L i1 i2 i3 i4 i5 i6 i7 = (if 1 ≤ dp then (g_14 n (dp - 1) e 0 I L i1 (0 : Int32) (99 : Int32)).bind (fun ⟨x0_4, I0_4, L0_4⟩ => (if x0_4 = 0 then (some ((-1 : Int32), I0_4, L0_4)) else (if 1 ≤ dp then (g_14 n (dp - 1) e 0 I0_4 L0_4 i2 (0 : Int32) (9999 : Int32)).bind (fun ⟨x1_15, I1_15, L1_15⟩ => (if x1_15 = 0 then (some ((-1 : Int32), I1_15, L1_15)) else (if 1 ≤ dp then (g_14 n (dp - 1) e 0 I1_15 L1_15 i3 (0 : Int32) (1 : Int32)).bind (fun ⟨x2_24, I2_24, L2_24⟩ => (if x2_24 = 0 then (some ((-1 : Int32), I2_24, L2_24)) else (g_180 n dp e 1 I2_24 L2_24 i1 i2 i3 (0 : Int32) (0 : Int32) (-1 : Int32) (0 : Int32)))) else none))) else none))) else none) := rfl
theorem e_180_1 (n dp : Nat) (e : EN) (I : (Nat → Nat → Int32)) (L : (Nat → Nat → Int64)) (i1 : Int32) (i2 : Int32) (i3 : Int32) (i4 : Int32) (i5 : Int32) (i6 : Int32) (i7 : Int32) : g_180 (n + 1) dp e 1 I L i1 i2 i3 i4 i5 i6 i7 = (if (I 1 10) ≤ i7 then (if i3 = 0 then (some (i6, I, L)) else (some (i5, I, L))) else (if 0 ≤ i7 ∧ (Int32.toNatClampNeg i7) < 40 then (if 1 ≤ dp then (if 1 ≤ dp then (if i6 = (-1 : Int32) then (if (if (0 : Int32) < ((i4 + (I 8 (Int32.toNatClampNeg i7))) - i1) then ((i4 + (I 8 (Int32.toNatClampNeg i7))) - i1) else (0 : Int32)) ≤ i2 then (g_180 n dp e 2 I L i1 i2 i3 (if (0 : Int32) < ((i4 + (I 8 (Int32.toNatClampNeg i7))) - i1) then ((i4 + (I 8 (Int32.toNatClampNeg i7))) - i1) else (0 : Int32)) (if i5 < (if (0 : Int32) < ((i4 + (I 8 (Int32.toNatClampNeg i7))) - i1) then ((i4 + (I 8 (Int32.toNatClampNeg i7))) - i1) else (0 : Int32)) then (if (0 : Int32) < ((i4 + (I 8 (Int32.toNatClampNeg i7))) - i1) then ((i4 + (I 8 (Int32.toNatClampNeg i7))) - i1) else (0 : Int32)) else i5) i6 i7) else (g_180 n dp e 2 I L i1 i2 i3 (if (0 : Int32) < ((i4 + (I 8 (Int32.toNatClampNeg i7))) - i1) then ((i4 + (I 8 (Int32.toNatClampNeg i7))) - i1) else (0 : Int32)) (if i5 < (if (0 : Int32) < ((i4 + (I 8 (Int32.toNatClampNeg i7))) - i1) then ((i4 + (I 8 (Int32.toNatClampNeg i7))) - i1) else (0 : Int32)) then (if (0 : Int32) < ((i4 + (I 8 (Int32.toNatClampNeg i7))) - i1) then ((i4 + (I 8 (Int32.toNatClampNeg i7))) - i1) else (0 : Int32)) else i5) i7 i7)) else (g_180 n dp e 2 I L i1 i2 i3 (if (0 : Int32) < ((i4 + (I 8 (Int32.toNatClampNeg i7))) - i1) then ((i4 + (I 8 (Int32.toNatClampNeg i7))) - i1) else (0 : Int32)) (if i5 < (if (0 : Int32) < ((i4 + (I 8 (Int32.toNatClampNeg i7))) - i1) then ((i4 + (I 8 (Int32.toNatClampNeg i7))) - i1) else (0 : Int32)) then (if (0 : Int32) < ((i4 + (I 8 (Int32.toNatClampNeg i7))) - i1) then ((i4 + (I 8 (Int32.toNatClampNeg i7))) - i1) else (0 : Int32)) else i5) i6 i7)) else none) else none) else none)) := rfl
theorem e_180_2 (n dp : Nat) (e : EN) (I : (Nat → Nat → Int32)) (L : (Nat → Nat → Int64)) (i1 : Int32) (i2 : Int32) (i3 : Int32) (i4 : Int32) (i5 : Int32) (i6 : Int32) (i7 : Int32) : g_180 (n + 1) dp e 2 I L i1 i2 i3 i4 i5 i6 i7 = (g_180 n dp e 1 I L i1 i2 i3 i4 i5 i6 (i7 + Int32.ofInt (1))) := rfl
set_option maxHeartbeats 8000000 in
set_option maxRecDepth 100000 in
theorem w_180 (X : GX) {z : Nat} {kd : Nat → Nat × Nat} {Rf : Nat → Nat → Option Nat} (hS : Sh z kd Rf) : ∀ (n dp d : Nat), dp ≤ d → ∀ (I : (Nat → Nat → Int32)) (L : (Nat → Nat → Int64)) (i1 : Int32) (i2 : Int32) (i3 : Int32) (i4 : Int32) (i5 : Int32) (i6 : Int32) (i7 : Int32) (r : Int32) (I1 : (Nat → Nat → Int32)) (L1 : (Nat → Nat → Int64)), (g_180 n dp (z, kd, Rf) 0 I L i1 i2 i3 i4 i5 i6 i7 = some (r, I1, L1) → K X d 180 0 0 (AI (fun x τ => x = r ∧ τ = (z, kd, I1, L1, Rf))) 0 [some (.ref 0), some (.int i1), some (.int i2), some (.int i3), none, none, none, none] [] (z, kd, I, L, Rf) 0 0) ∧
    (g_180 n dp (z, kd, Rf) 1 I L i1 i2 i3 i4 i5 i6 i7 = some (r, I1, L1) → K X d 180 0 0 (AI (fun x τ => x = r ∧ τ = (z, kd, I1, L1, Rf))) 44 [some (.ref 0), some (.int i1), some (.int i2), some (.int i3), some (.int i4), some (.int i5), some (.int i6), some (.int i7)] [] (z, kd, I, L, Rf) 0 0) ∧
    (g_180 n dp (z, kd, Rf) 2 I L i1 i2 i3 i4 i5 i6 i7 = some (r, I1, L1) → K X d 180 0 0 (AI (fun x τ => x = r ∧ τ = (z, kd, I1, L1, Rf))) 102 [some (.ref 0), some (.int i1), some (.int i2), some (.int i3), some (.int i4), some (.int i5), some (.int i6), some (.int i7)] [] (z, kd, I, L, Rf) 0 0) := by
  intro n
  induction n with
  | zero => intro dp d hdp I L i1 i2 i3 i4 i5 i6 i7 r I1 L1; exact ⟨(fun h => by cases h), (fun h => by cases h), (fun h => by cases h)⟩
  | succ n ih =>
    intro dp d hdp I L i1 i2 i3 i4 i5 i6 i7 r I1 L1
    refine ⟨?_, ?_, ?_⟩
    · intro h
      rw [e_180_0] at h
      refine K_of b_180_0 h_180_0 ?_
      refine q_iload rfl ?_
      refine q_iconst (0) (by decide) ?_
      refine q_iconst (99) (by decide) ?_
      obtain ⟨d_4, h⟩ := ite_some h
      obtain ⟨⟨x0_4, I0_4, L0_4⟩, e_4, h⟩ := Option.bind_eq_some_iff.mp h
      dsimp only at h
      refine q_fs3I (a_14 X hS (d := d - 1) (by omega) e_4) (by omega) (Nat.le_refl _) (Nat.le_refl _) rfl (Nat.le_of_ble_eq_true rfl) ?_
      refine q_if_eq (fun c_7 => ?_) (fun c_7 => ?_)
      · rw [if_pos c_7] at h
        refine K_of b_180_30 h_180_30 ?_
        refine q_iconst (-1) (by decide) ?_
        cases h
        exact q_iret rfl (Nat.le_refl _) (Nat.le_refl _) ⟨rfl, rfl⟩
      · rw [if_neg c_7] at h
        refine q_iload rfl ?_
        refine q_iconst (0) (by decide) ?_
        refine q_iconst (9999) (by decide) ?_
        obtain ⟨d_15, h⟩ := ite_some h
        obtain ⟨⟨x1_15, I1_15, L1_15⟩, e_15, h⟩ := Option.bind_eq_some_iff.mp h
        dsimp only at h
        refine q_fs3I (a_14 X hS (d := d - 1) (by omega) e_15) (by omega) (Nat.le_refl _) (Nat.le_refl _) rfl (Nat.le_of_ble_eq_true rfl) ?_
        refine q_if_eq (fun c_18 => ?_) (fun c_18 => ?_)
        · rw [if_pos c_18] at h
          refine K_of b_180_30 h_180_30 ?_
          refine q_iconst (-1) (by decide) ?_
          cases h
          exact q_iret rfl (Nat.le_refl _) (Nat.le_refl _) ⟨rfl, rfl⟩
        · rw [if_neg c_18] at h
          refine q_iload rfl ?_
          refine q_iconst (0) (by decide) ?_
          refine q_iconst (1) (by decide) ?_
          obtain ⟨d_24, h⟩ := ite_some h
          obtain ⟨⟨x2_24, I2_24, L2_24⟩, e_24, h⟩ := Option.bind_eq_some_iff.mp h
          dsimp only at h
          refine q_fs3I (a_14 X hS (d := d - 1) (by omega) e_24) (by omega) (Nat.le_refl _) (Nat.le_refl _) rfl (Nat.le_of_ble_eq_true rfl) ?_
          refine q_if_ne (fun c_27 => ?_) (fun c_27 => ?_)
          · rw [if_neg c_27] at h
            refine K_of b_180_32 h_180_32 ?_
            refine q_iconst (0) (by decide) ?_
            refine q_istore (Nat.le_of_ble_eq_true rfl) rfl ?_
            refine q_iconst (0) (by decide) ?_
            refine q_istore (Nat.le_of_ble_eq_true rfl) rfl ?_
            refine q_iconst (-1) (by decide) ?_
            refine q_istore (Nat.le_of_ble_eq_true rfl) rfl ?_
            refine q_iconst (0) (by decide) ?_
            refine q_istore (Nat.le_of_ble_eq_true rfl) rfl ?_
            refine q_end ?_
            exact (ih dp d hdp _ _ i1 i2 i3 (0 : Int32) (0 : Int32) (-1 : Int32) (0 : Int32) _ _ _).2.1 h
          · rw [if_pos c_27] at h
            refine q_end ?_
            refine K_of b_180_30 h_180_30 ?_
            refine q_iconst (-1) (by decide) ?_
            cases h
            exact q_iret rfl (Nat.le_refl _) (Nat.le_refl _) ⟨rfl, rfl⟩
    · intro h
      rw [e_180_1] at h
      refine K_of b_180_44 h_180_44 ?_
      refine q_iload rfl ?_
      refine q_aload rfl ?_
      refine q_getRs (c0 := 11) (j := 0) rfl rfl (zl hS 0 (by decide)) (sk hS 0 (by decide) rfl) rfl (by decide) (r_0_0 hS) ?_
      refine q_getI (c0 := 3) (j := 10) rfl rfl (zl hS 1 (by decide)) (sk hS 1 (by decide) rfl) (Or.inl rfl) (by decide) ?_
      refine q_icmp_ge (fun c_53 => ?_) (fun c_53 => ?_)
      · rw [if_pos c_53] at h
        refine K_of b_180_108 h_180_108 ?_
        refine q_iload rfl ?_
        refine q_if_ne (fun c_109 => ?_) (fun c_109 => ?_)
        · rw [if_neg c_109] at h
          refine K_of b_180_117 h_180_117 ?_
          refine q_iload rfl ?_
          refine q_end ?_
          refine K_of b_180_119 h_180_119 ?_
          cases h
          exact q_iret rfl (Nat.le_refl _) (Nat.le_refl _) ⟨rfl, rfl⟩
        · rw [if_pos c_109] at h
          refine q_iload rfl ?_
          refine q_goto ?_
          refine K_of b_180_119 h_180_119 ?_
          cases h
          exact q_iret rfl (Nat.le_refl _) (Nat.le_refl _) ⟨rfl, rfl⟩
      · rw [if_neg c_53] at h
        refine q_iconst (0) (by decide) ?_
        refine q_iload rfl ?_
        refine q_aload rfl ?_
        refine q_getRs (c0 := 11) (j := 0) rfl rfl (zl hS 0 (by decide)) (sk hS 0 (by decide) rfl) rfl (by decide) (r_0_0 hS) ?_
        refine q_getRs (c0 := 3) (j := 6) rfl rfl (zl hS 1 (by decide)) (sk hS 1 (by decide) rfl) rfl (by decide) (r_1_6 hS) ?_
        refine q_iload rfl ?_
        obtain ⟨⟨u_68, v_68⟩, h⟩ := ite_some h
        refine q_ialN (Int32.toNatClampNeg i7) (nx u_68) (zl hS 8 (by decide)) (sk hS 8 (by decide) rfl) v_68 (by decide) ?_
        refine q_iadd ?_
        refine q_iload rfl ?_
        refine q_isub ?_
        obtain ⟨d_72, h⟩ := ite_some h
        refine q_max (Nat.le_of_ble_eq_true rfl) (Nat.le_trans d_72 hdp) (Nat.le_refl _) (Nat.le_refl _) ?_
        refine q_istore (Nat.le_of_ble_eq_true rfl) rfl ?_
        refine q_iload rfl ?_
        refine q_iload rfl ?_
        obtain ⟨d_81, h⟩ := ite_some h
        refine q_max (Nat.le_of_ble_eq_true rfl) (Nat.le_trans d_81 hdp) (Nat.le_refl _) (Nat.le_refl _) ?_
        refine q_istore (Nat.le_of_ble_eq_true rfl) rfl ?_
        refine q_iload rfl ?_
        refine q_iconst (-1) (by decide) ?_
        refine q_icmp_ne (fun c_89 => ?_) (fun c_89 => ?_)
        · rw [if_neg c_89] at h
          exact (ih dp d hdp _ _ i1 i2 i3 (if (0 : Int32) < ((i4 + (I 8 (Int32.toNatClampNeg i7))) - i1) then ((i4 + (I 8 (Int32.toNatClampNeg i7))) - i1) else (0 : Int32)) (if i5 < (if (0 : Int32) < ((i4 + (I 8 (Int32.toNatClampNeg i7))) - i1) then ((i4 + (I 8 (Int32.toNatClampNeg i7))) - i1) else (0 : Int32)) then (if (0 : Int32) < ((i4 + (I 8 (Int32.toNatClampNeg i7))) - i1) then ((i4 + (I 8 (Int32.toNatClampNeg i7))) - i1) else (0 : Int32)) else i5) i6 i7 _ _ _).2.2 h
        · rw [if_pos c_89] at h
          refine q_iload rfl ?_
          refine q_iload rfl ?_
          refine q_icmp_le (fun c_95 => ?_) (fun c_95 => ?_)
          · rw [if_pos c_95] at h
            exact (ih dp d hdp _ _ i1 i2 i3 (if (0 : Int32) < ((i4 + (I 8 (Int32.toNatClampNeg i7))) - i1) then ((i4 + (I 8 (Int32.toNatClampNeg i7))) - i1) else (0 : Int32)) (if i5 < (if (0 : Int32) < ((i4 + (I 8 (Int32.toNatClampNeg i7))) - i1) then ((i4 + (I 8 (Int32.toNatClampNeg i7))) - i1) else (0 : Int32)) then (if (0 : Int32) < ((i4 + (I 8 (Int32.toNatClampNeg i7))) - i1) then ((i4 + (I 8 (Int32.toNatClampNeg i7))) - i1) else (0 : Int32)) else i5) i6 i7 _ _ _).2.2 h
          · rw [if_neg c_95] at h
            refine q_iload rfl ?_
            refine q_istore (Nat.le_of_ble_eq_true rfl) rfl ?_
            refine q_end ?_
            exact (ih dp d hdp _ _ i1 i2 i3 (if (0 : Int32) < ((i4 + (I 8 (Int32.toNatClampNeg i7))) - i1) then ((i4 + (I 8 (Int32.toNatClampNeg i7))) - i1) else (0 : Int32)) (if i5 < (if (0 : Int32) < ((i4 + (I 8 (Int32.toNatClampNeg i7))) - i1) then ((i4 + (I 8 (Int32.toNatClampNeg i7))) - i1) else (0 : Int32)) then (if (0 : Int32) < ((i4 + (I 8 (Int32.toNatClampNeg i7))) - i1) then ((i4 + (I 8 (Int32.toNatClampNeg i7))) - i1) else (0 : Int32)) else i5) i7 i7 _ _ _).2.2 h
    · intro h
      rw [e_180_2] at h
      refine K_of b_180_102 h_180_102 ?_
      refine q_iinc rfl rfl ?_
      refine q_goto ?_
      exact (ih dp d hdp _ _ i1 i2 i3 i4 i5 i6 (i7 + Int32.ofInt (1)) _ _ _).2.1 h
theorem a_180 (X : GX) {z : Nat} {kd : Nat → Nat × Nat} {Rf : Nat → Nat → Option Nat} (hS : Sh z kd Rf) {n dp d : Nat} (hd : dp ≤ d) {I : (Nat → Nat → Int32)} {L : (Nat → Nat → Int64)} {i1 : Int32} {i2 : Int32} {i3 : Int32} {I1 : (Nat → Nat → Int32)} {L1 : (Nat → Nat → Int64)} {r : Int32} (h : g_180 n dp (z, kd, Rf) 0 I L i1 i2 i3 0 0 0 0 = some (r, I1, L1)) : Ct X d 180 0 0 [.ref 0, .int i1, .int i2, .int i3] (z, kd, I, L, Rf) (AI (fun x τ => x = r ∧ τ = (z, kd, I1, L1, Rf))) :=
  Ct_of mu_180 (Nat.le_of_ble_eq_true rfl) ((w_180 X hS n dp d hd I L i1 i2 i3 0 0 0 0 _ _ _).1 h)

