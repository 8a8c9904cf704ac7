/-! help for decompiled functions -/
def mask (m : List Bool) (ls : LcT) : LcT := List.zipWith (fun b o => if b then o else none) m ls
theorem K_mask {X : GX} {d mi mc ms : Nat} {Q : Option Value → PS → Prop} {pc : Nat} {ls : LcT} {st : List Value} {σ : PS} {k n : Nat} (m : List Bool) (hm : ls.length ≤ m.length) (g : K X d mi mc ms Q pc (mask m ls) st σ k n) : K X d mi mc ms Q pc ls st σ k n := by
  intro p e s m0 args below meth c ac hr H locs lsM hw hs hL
  refine g p e s m0 args below meth c ac hr H locs lsM hw hs ⟨?_, hL.2.1, hL.2.2.1, fun j v hj => hL.2.2.2 j v ?_⟩
  · rw [mask, List.length_zipWith, Nat.min_eq_right hm]; exact hL.1
  · rw [mask, List.getElem?_zipWith] at hj
    cases hb : m[j]? with
    | none => rw [hb] at hj; cases hj
    | some b =>
      cases ho : ls[j]? with
      | none => rw [hb, ho] at hj; cases hj
      | some o =>
        rw [hb, ho] at hj
        cases b with
        | true => exact hj
        | false => cases hj
def stI {α β : Type} (x : α) (f : α → β) : β := f x
theorem stI_some {α β : Type} {x : α} {f : α → Option β} {r : β} (h : stI x f = some r) : ∃ y, y = x ∧ f y = some r := ⟨x, rfl, h⟩
theorem q_nI {X : GX} {d MC MS : Nat} {rt : Option FieldType} {J : JT} {RT : Option Value → PS → Nat → Nat → Prop} {en : Nat} {is : List (Nat × Instr)} {ls : LcT} {st : List Value} {k n z : Nat} {kd : Nat → Nat × Nat} {I I1 : Nat → Nat → Int32} {L : Nat → Nat → Int64} {Rf : Nat → Nat → Option Nat} (h : I1 = I) (g : wp X d MC MS rt J RT en is ls st (z, kd, I1, L, Rf) k n) : wp X d MC MS rt J RT en is ls st (z, kd, I, L, Rf) k n := by subst h; exact g
theorem q_nL {X : GX} {d MC MS : Nat} {rt : Option FieldType} {J : JT} {RT : Option Value → PS → Nat → Nat → Prop} {en : Nat} {is : List (Nat × Instr)} {ls : LcT} {st : List Value} {k n z : Nat} {kd : Nat → Nat × Nat} {I : Nat → Nat → Int32} {L L1 : Nat → Nat → Int64} {Rf : Nat → Nat → Option Nat} (h : L1 = L) (g : wp X d MC MS rt J RT en is ls st (z, kd, I, L1, Rf) k n) : wp X d MC MS rt J RT en is ls st (z, kd, I, L, Rf) k n := by subst h; exact g
abbrev EN : Type := Nat × (Nat → Nat × Nat) × (Nat → Nat → Option Nat)
theorem ite_some {α : Type} {c : Prop} [Decidable c] {x : Option α} {r : α} (h : (if c then x else none) = some r) : c ∧ x = some r := by
  by_cases hc : c
  · rw [if_pos hc] at h; exact ⟨hc, h⟩
  · rw [if_neg hc] at h; cases h
theorem fst_eq {p : Nat × Nat} {c : Nat} (h : p.1 = c) : p = (c, p.2) := by subst h; rfl
theorem narB {v : Int32} (h : v = 0 ∨ v = 1) : nar (some .boolean) v := by rcases h with rfl | rfl <;> rfl
theorem nx {x : Int32} (h : 0 ≤ x) : x = nI x.toNatClampNeg := by
  obtain ⟨j, hj, rfl⟩ := nI_of (Int32.not_lt.mpr h)
  rw [nI_clamp hj]
theorem in_of {x : Int32} {m : Nat} (h : 0 ≤ x) (h2 : x.toNatClampNeg < m) : vp_in x m := fun q => q.elim (fun z => absurd h (Int32.not_le.mpr z)) (fun z => absurd h2 (Nat.not_lt.mpr z))
theorem sw_ne {x y : Int32} {lo hi : Int} (h : x.toInt < lo ∨ hi < x.toInt) (h1 : lo ≤ y.toInt) (h2 : y.toInt ≤ hi) : ¬ x = y := fun q => by subst q; omega
theorem sw_eq {x y : Int32} {v : Int} (h : x.toInt = v) (h1 : y.toInt = v) : x = y := Int32.toInt_inj.mp (h.trans h1.symm)
theorem sw_nq {x y : Int32} {v : Int} (h : x.toInt = v) (h1 : ¬ y.toInt = v) : ¬ x = y := fun q => by subst q; exact h1 h

/-! 14 CutFloor.within(III)Z -/
set_option maxHeartbeats 4000000 in
set_option maxRecDepth 100000 in
def g_14 : Nat → Nat → EN → Nat → (Nat → Nat → Int32) → (Nat → Nat → Int64) → Int32 → Int32 → Int32 →  Option (Int32 × (Nat → Nat → Int32) × (Nat → Nat → Int64))
  | 0, _, _, _, _, _, _, _, _ => none
  | n + 1, dp, e, lab, I, L, i0, i1, i2 =>
    if lab = 0 then (if i0 < i1 then (some ((0 : Int32), I, L)) else (if i2 < i0 then (some ((0 : Int32), I, L)) else (some ((1 : Int32), I, L))))
    else none
set_option maxRecDepth 100000 in
theorem e_14_0 (n dp : Nat) (e : EN) (I : (Nat → Nat → Int32)) (L : (Nat → Nat → Int64)) (i0 : Int32) (i1 : Int32) (i2 : Int32) : g_14 (n + 1) dp e 0 I L i0 i1 i2 = (if i0 < i1 then (some ((0 : Int32), I, L)) else (if i2 < i0 then (some ((0 : Int32), I, L)) else (some ((1 : Int32), I, L)))) := by rw [g_14.eq_2, if_pos (show (0 : Nat) = 0 from rfl)]
set_option maxHeartbeats 8000000 in
set_option maxRecDepth 100000 in
theorem w_14 (X : GX) {z : Nat} {kd : Nat → Nat × Nat} {Rf : Nat → Nat → Option Nat} (hS : Sh z kd Rf) : ∀ (n dp d : Nat), dp ≤ d → ∀ (I : (Nat → Nat → Int32)) (L : (Nat → Nat → Int64)) (i0 : Int32) (i1 : Int32) (i2 : Int32) (r : Int32) (I1 : (Nat → Nat → Int32)) (L1 : (Nat → Nat → Int64)), (g_14 n dp (z, kd, Rf) 0 I L i0 i1 i2 = some (r, I1, L1) → K X d 14 0 0 (AI (fun x τ => x = r ∧ τ = (z, kd, I1, L1, Rf))) 0 [some (.int i0), some (.int i1), some (.int i2)] [] (z, kd, I, L, Rf) 0 0) := by
  intro n
  induction n with
  | zero => intro dp d hdp I L i0 i1 i2 r I1 L1; exact fun h => by cases h
  | succ n ih =>
    intro dp d hdp I L i0 i1 i2 r I1 L1
    · intro h
      rw [e_14_0] at h
      refine K_of b_14_0 h_14_0 ?_
      refine q_iload rfl ?_
      refine q_iload rfl ?_
      refine q_icmp_lt (fun c_2 => ?_) (fun c_2 => ?_)
      · rw [if_pos c_2] at h
        refine K_of b_14_14 h_14_14 ?_
        refine q_iconst (0) (by decide) ?_
        refine q_end ?_
        refine K_of b_14_15 h_14_15 ?_
        cases h
        exact q_iret rfl (Nat.le_refl _) (Nat.le_refl _) ⟨rfl, rfl⟩
      · rw [if_neg c_2] at h
        refine q_iload rfl ?_
        refine q_iload rfl ?_
        refine q_icmp_gt (fun c_7 => ?_) (fun c_7 => ?_)
        · rw [if_pos c_7] at h
          refine K_of b_14_14 h_14_14 ?_
          refine q_iconst (0) (by decide) ?_
          refine q_end ?_
          refine K_of b_14_15 h_14_15 ?_
          cases h
          exact q_iret rfl (Nat.le_refl _) (Nat.le_refl _) ⟨rfl, rfl⟩
        · rw [if_neg c_7] at h
          refine q_iconst (1) (by decide) ?_
          refine q_goto ?_
          refine K_of b_14_15 h_14_15 ?_
          cases h
          exact q_iret rfl (Nat.le_refl _) (Nat.le_refl _) ⟨rfl, rfl⟩
theorem a_14 (X : GX) {z : Nat} {kd : Nat → Nat × Nat} {Rf : Nat → Nat → Option Nat} (hS : Sh z kd Rf) {n dp d : Nat} (hd : dp ≤ d) {I : (Nat → Nat → Int32)} {L : (Nat → Nat → Int64)} {i0 : Int32} {i1 : Int32} {i2 : Int32} {I1 : (Nat → Nat → Int32)} {L1 : (Nat → Nat → Int64)} {r : Int32} (h : g_14 n dp (z, kd, Rf) 0 I L i0 i1 i2 = some (r, I1, L1)) : Ct X d 14 0 0 [.int i0, .int i1, .int i2] (z, kd, I, L, Rf) (AI (fun x τ => x = r ∧ τ = (z, kd, I1, L1, Rf))) :=
  Ct_of mu_14 (Nat.le_of_ble_eq_true rfl) ((w_14 X hS n dp d hd I L i0 i1 i2 _ _ _) h)

/-! 15 CutFloor.refuse(I)I -/
set_option maxHeartbeats 4000000 in
set_option maxRecDepth 100000 in
def g_15 : Nat → Nat → EN → Nat → (Nat → Nat → Int32) → (Nat → Nat → Int64) → Int32 →  Option (Int32 × (Nat → Nat → Int32) × (Nat → Nat → Int64))
  | 0, _, _, _, _, _, _ => none
  | n + 1, dp, e, lab, I, L, i1 =>
    if lab = 0 then (stI (u2 I 0 18 i1) (fun I_2 => (if i1 < (-3 : Int32) then (if 1 ≤ dp then (g_14 n (dp - 1) e 0 I_2 L ((-2 : Int32) - i1) (0 : Int32) ((nI 5) - (1 : Int32))).bind (fun ⟨x0_31, I0_31, L0_31⟩ => (if x0_31 = 0 then (some (i1, I0_31, L0_31)) else (if 0 ≤ ((-2 : Int32) - i1) ∧ (Int32.toNatClampNeg ((-2 : Int32) - i1)) < 5 then (if 0 ≤ ((-2 : Int32) - i1) ∧ (Int32.toNatClampNeg ((-2 : Int32) - i1)) < 5 then (stI (u2 I0_31 92 (Int32.toNatClampNeg ((-2 : Int32) - i1)) ((I0_31 92 (Int32.toNatClampNeg ((-2 : Int32) - i1))) + (1 : Int32))) (fun I_46 => (some (i1, I_46, L0_31)))) else none) else none))) else none) else (if 1 ≤ dp then (g_14 n (dp - 1) e 0 I_2 L ((-1 : Int32) - i1) (0 : Int32) ((nI 5) - (1 : Int32))).bind (fun ⟨x0_31, I0_31, L0_31⟩ => (if x0_31 = 0 then (some (i1, I0_31, L0_31)) else (if 0 ≤ ((-1 : Int32) - i1) ∧ (Int32.toNatClampNeg ((-1 : Int32) - i1)) < 5 then (if 0 ≤ ((-1 : Int32) - i1) ∧ (Int32.toNatClampNeg ((-1 : Int32) - i1)) < 5 then (stI (u2 I0_31 92 (Int32.toNatClampNeg ((-1 : Int32) - i1)) ((I0_31 92 (Int32.toNatClampNeg ((-1 : Int32) - i1))) + (1 : Int32))) (fun I_46 => (some (i1, I_46, L0_31)))) else none) else none))) else none))))
    else none
set_option maxRecDepth 100000 in
theorem e_15_0 (n dp : Nat) (e : EN) (I : (Nat → Nat → Int32)) (L : (Nat → Nat → Int64)) (i1 : Int32) : g_15 (n + 1) dp e 0 I L i1 = (stI (u2 I 0 18 i1) (fun I_2 => (if i1 < (-3 : Int32) then (if 1 ≤ dp then (g_14 n (dp - 1) e 0 I_2 L ((-2 : Int32) - i1) (0 : Int32) ((nI 5) - (1 : Int32))).bind (fun ⟨x0_31, I0_31, L0_31⟩ => (if x0_31 = 0 then (some (i1, I0_31, L0_31)) else (if 0 ≤ ((-2 : Int32) - i1) ∧ (Int32.toNatClampNeg ((-2 : Int32) - i1)) < 5 then (if 0 ≤ ((-2 : Int32) - i1) ∧ (Int32.toNatClampNeg ((-2 : Int32) - i1)) < 5 then (stI (u2 I0_31 92 (Int32.toNatClampNeg ((-2 : Int32) - i1)) ((I0_31 92 (Int32.toNatClampNeg ((-2 : Int32) - i1))) + (1 : Int32))) (fun I_46 => (some (i1, I_46, L0_31)))) else none) else none))) else none) else (if 1 ≤ dp then (g_14 n (dp - 1) e 0 I_2 L ((-1 : Int32) - i1) (0 : Int32) ((nI 5) - (1 : Int32))).bind (fun ⟨x0_31, I0_31, L0_31⟩ => (if x0_31 = 0 then (some (i1, I0_31, L0_31)) else (if 0 ≤ ((-1 : Int32) - i1) ∧ (Int32.toNatClampNeg ((-1 : Int32) - i1)) < 5 then (if 0 ≤ ((-1 : Int32) - i1) ∧ (Int32.toNatClampNeg ((-1 : Int32) - i1)) < 5 then (stI (u2 I0_31 92 (Int32.toNatClampNeg ((-1 : Int32) - i1)) ((I0_31 92 (Int32.toNatClampNeg ((-1 : Int32) - i1))) + (1 : Int32))) (fun I_46 => (some (i1, I_46, L0_31)))) else none) else none))) else none)))) := by rw [g_15.eq_2, if_pos (show (0 : Nat) = 0 from rfl)]
set_option maxHeartbeats 8000000 in
set_option maxRecDepth 100000 in
theorem w_15 (X : GX) {z : Nat} {kd : Nat → Nat × Nat} {Rf : Nat → Nat → Option Nat} (hS : Sh z kd Rf) : ∀ (n dp d : Nat), dp ≤ d → ∀ (I : (Nat → Nat → Int32)) (L : (Nat → Nat → Int64)) (i1 : Int32) (r : Int32) (I1 : (Nat → Nat → Int32)) (L1 : (Nat → Nat → Int64)), (g_15 n dp (z, kd, Rf) 0 I L i1 = some (r, I1, L1) → K X d 15 0 0 (AI (fun x τ => x = r ∧ τ = (z, kd, I1, L1, Rf))) 0 [some (.ref 0), some (.int i1), none] [] (z, kd, I, L, Rf) 0 0) := by
  intro n
  induction n with
  | zero => intro dp d hdp I L i1 r I1 L1; exact fun h => by cases h
  | succ n ih =>
    intro dp d hdp I L i1 r I1 L1
    · intro h
      rw [e_15_0] at h
      refine K_of b_15_0 h_15_0 ?_
      refine q_aload rfl ?_
      refine q_iload rfl ?_
      refine q_putI (c0 := 11) (j := 18) rfl rfl (zl hS 0 (by decide)) (sk hS 0 (by decide) rfl) rfl ?_
      obtain ⟨I_2, nI_2, h⟩ := stI_some h
      refine q_nI nI_2 ?_
      refine q_iload rfl ?_
      refine q_iconst (-3) (by decide) ?_
      refine q_icmp_lt (fun c_8 => ?_) (fun c_8 => ?_)
      · rw [if_pos c_8] at h
        refine K_of b_15_17 h_15_17 ?_
        refine q_iconst (-2) (by decide) ?_
        refine q_iload rfl ?_
        refine q_isub ?_
        refine q_end ?_
        refine K_of b_15_21 h_15_21 ?_
        refine q_istore (ls1 := [some (.ref 0), some (.int i1), some (.int ((-2 : Int32) - i1))]) (Nat.le_of_ble_eq_true rfl) rfl ?_
        refine q_iload rfl ?_
        refine q_iconst (0) (by decide) ?_
        refine q_aload rfl ?_
        refine q_getRs (c0 := 11) (j := 10) rfl rfl (zl hS 0 (by decide)) (sk hS 0 (by decide) rfl) rfl (by decide) (r_0_10 hS) ?_
        refine q_alen (zl hS 92 (by decide)) (sk hS 92 (by decide) rfl) (by decide) (by decide) ?_
        refine q_iconst (1) (by decide) ?_
        refine q_isub ?_
        obtain ⟨d_31, h⟩ := ite_some h
        obtain ⟨⟨x0_31, I0_31, L0_31⟩, e_31, h⟩ := Option.bind_eq_some_iff.mp h
        dsimp only at h
        refine q_fs3I (a_14 X hS (d := d - 1) (by omega) e_31) (by omega) (Nat.le_refl _) (Nat.le_refl _) rfl (Nat.le_of_ble_eq_true rfl) ?_
        refine q_if_eq (fun c_34 => ?_) (fun c_34 => ?_)
        · rw [if_pos c_34] at h
          refine K_of b_15_47 h_15_47 ?_
          refine q_iload rfl ?_
          cases h
          exact q_iret rfl (Nat.le_refl _) (Nat.le_refl _) ⟨rfl, rfl⟩
        · rw [if_neg c_34] at h
          refine q_aload rfl ?_
          refine q_getRs (c0 := 11) (j := 10) rfl rfl (zl hS 0 (by decide)) (sk hS 0 (by decide) rfl) rfl (by decide) (r_0_10 hS) ?_
          refine q_iload rfl ?_
          refine q_dup2 rfl rfl ?_
          obtain ⟨⟨u_43, v_43⟩, h⟩ := ite_some h
          refine q_ialN (Int32.toNatClampNeg ((-2 : Int32) - i1)) (nx u_43) (zl hS 92 (by decide)) (sk hS 92 (by decide) rfl) v_43 (by decide) ?_
          refine q_iconst (1) (by decide) ?_
          refine q_iadd ?_
          obtain ⟨⟨u_46, v_46⟩, h⟩ := ite_some h
          refine q_iasN (Int32.toNatClampNeg ((-2 : Int32) - i1)) (nx u_46) (zl hS 92 (by decide)) (sk hS 92 (by decide) rfl) v_46 (by decide) ?_
          obtain ⟨I_46, nI_46, h⟩ := stI_some h
          refine q_nI nI_46 ?_
          refine q_end ?_
          refine K_of b_15_47 h_15_47 ?_
          refine q_iload rfl ?_
          cases h
          exact q_iret rfl (Nat.le_refl _) (Nat.le_refl _) ⟨rfl, rfl⟩
      · rw [if_neg c_8] at h
        refine q_iconst (-1) (by decide) ?_
        refine q_iload rfl ?_
        refine q_isub ?_
        refine q_goto ?_
        refine K_of b_15_21 h_15_21 ?_
        refine q_istore (ls1 := [some (.ref 0), some (.int i1), some (.int ((-1 : Int32) - i1))]) (Nat.le_of_ble_eq_true rfl) rfl ?_
        refine q_iload rfl ?_
        refine q_iconst (0) (by decide) ?_
        refine q_aload rfl ?_
        refine q_getRs (c0 := 11) (j := 10) rfl rfl (zl hS 0 (by decide)) (sk hS 0 (by decide) rfl) rfl (by decide) (r_0_10 hS) ?_
        refine q_alen (zl hS 92 (by decide)) (sk hS 92 (by decide) rfl) (by decide) (by decide) ?_
        refine q_iconst (1) (by decide) ?_
        refine q_isub ?_
        obtain ⟨d_31, h⟩ := ite_some h
        obtain ⟨⟨x0_31, I0_31, L0_31⟩, e_31, h⟩ := Option.bind_eq_some_iff.mp h
        dsimp only at h
        refine q_fs3I (a_14 X hS (d := d - 1) (by omega) e_31) (by omega) (Nat.le_refl _) (Nat.le_refl _) rfl (Nat.le_of_ble_eq_true rfl) ?_
        refine q_if_eq (fun c_34 => ?_) (fun c_34 => ?_)
        · rw [if_pos c_34] at h
          refine K_of b_15_47 h_15_47 ?_
          refine q_iload rfl ?_
          cases h
          exact q_iret rfl (Nat.le_refl _) (Nat.le_refl _) ⟨rfl, rfl⟩
        · rw [if_neg c_34] at h
          refine q_aload rfl ?_
          refine q_getRs (c0 := 11) (j := 10) rfl rfl (zl hS 0 (by decide)) (sk hS 0 (by decide) rfl) rfl (by decide) (r_0_10 hS) ?_
          refine q_iload rfl ?_
          refine q_dup2 rfl rfl ?_
          obtain ⟨⟨u_43, v_43⟩, h⟩ := ite_some h
          refine q_ialN (Int32.toNatClampNeg ((-1 : Int32) - i1)) (nx u_43) (zl hS 92 (by decide)) (sk hS 92 (by decide) rfl) v_43 (by decide) ?_
          refine q_iconst (1) (by decide) ?_
          refine q_iadd ?_
          obtain ⟨⟨u_46, v_46⟩, h⟩ := ite_some h
          refine q_iasN (Int32.toNatClampNeg ((-1 : Int32) - i1)) (nx u_46) (zl hS 92 (by decide)) (sk hS 92 (by decide) rfl) v_46 (by decide) ?_
          obtain ⟨I_46, nI_46, h⟩ := stI_some h
          refine q_nI nI_46 ?_
          refine q_end ?_
          refine K_of b_15_47 h_15_47 ?_
          refine q_iload rfl ?_
          cases h
          exact q_iret rfl (Nat.le_refl _) (Nat.le_refl _) ⟨rfl, rfl⟩
theorem a_15 (X : GX) {z : Nat} {kd : Nat → Nat × Nat} {Rf : Nat → Nat → Option Nat} (hS : Sh z kd Rf) {n dp d : Nat} (hd : dp ≤ d) {I : (Nat → Nat → Int32)} {L : (Nat → Nat → Int64)} {i1 : Int32} {I1 : (Nat → Nat → Int32)} {L1 : (Nat → Nat → Int64)} {r : Int32} (h : g_15 n dp (z, kd, Rf) 0 I L i1 = some (r, I1, L1)) : Ct X d 15 0 0 [.ref 0, .int i1] (z, kd, I, L, Rf) (AI (fun x τ => x = r ∧ τ = (z, kd, I1, L1, Rf))) :=
  Ct_of mu_15 (Nat.le_of_ble_eq_true rfl) ((w_15 X hS n dp d hd I L i1 _ _ _) h)

/-! 16 CutFloor$Hall.allCarcasses()I -/
set_option maxHeartbeats 4000000 in
set_option maxRecDepth 100000 in
def g_16 : Nat → Nat → EN → Nat → (Nat → Nat → Int32) → (Nat → Nat → Int64) →  Option (Int32 × (Nat → Nat → Int32) × (Nat → Nat → Int64))
  | 0, _, _, _, _, _ => none
  | n + 1, dp, e, lab, I, L =>
    if lab = 0 then (some ((((I 2 0) + (I 2 1)) + (I 2 2)), I, L))
    else none
set_option maxRecDepth 100000 in
theorem e_16_0 (n dp : Nat) (e : EN) (I : (Nat → Nat → Int32)) (L : (Nat → Nat → Int64)) : g_16 (n + 1) dp e 0 I L = (some ((((I 2 0) + (I 2 1)) + (I 2 2)), I, L)) := by rw [g_16.eq_2, if_pos (show (0 : Nat) = 0 from rfl)]
set_option maxHeartbeats 8000000 in
set_option maxRecDepth 100000 in
theorem w_16 (X : GX) {z : Nat} {kd : Nat → Nat × Nat} {Rf : Nat → Nat → Option Nat} (hS : Sh z kd Rf) : ∀ (n dp d : Nat), dp ≤ d → ∀ (I : (Nat → Nat → Int32)) (L : (Nat → Nat → Int64)) (r : Int32) (I1 : (Nat → Nat → Int32)) (L1 : (Nat → Nat → Int64)), (g_16 n dp (z, kd, Rf) 0 I L = some (r, I1, L1) → K X d 16 0 0 (AI (fun x τ => x = r ∧ τ = (z, kd, I1, L1, Rf))) 0 [some (.ref 1)] [] (z, kd, I, L, Rf) 0 0) := by
  intro n
  induction n with
  | zero => intro dp d hdp I L r I1 L1; exact fun h => by cases h
  | succ n ih =>
    intro dp d hdp I L r I1 L1
    · intro h
      rw [e_16_0] at h
      refine K_of b_16_0 h_16_0 ?_
      refine q_aload rfl ?_
      refine q_getRs (c0 := 3) (j := 0) rfl rfl (zl hS 1 (by decide)) (sk hS 1 (by decide) rfl) rfl (by decide) (r_1_0 hS) ?_
      refine q_iconst (0) (by decide) ?_
      refine q_ialN (0) rfl (zl hS 2 (by decide)) (sk hS 2 (by decide) rfl) (by decide) (by decide) ?_
      refine q_aload rfl ?_
      refine q_getRs (c0 := 3) (j := 0) rfl rfl (zl hS 1 (by decide)) (sk hS 1 (by decide) rfl) rfl (by decide) (r_1_0 hS) ?_
      refine q_iconst (1) (by decide) ?_
      refine q_ialN (1) rfl (zl hS 2 (by decide)) (sk hS 2 (by decide) rfl) (by decide) (by decide) ?_
      refine q_iadd ?_
      refine q_aload rfl ?_
      refine q_getRs (c0 := 3) (j := 0) rfl rfl (zl hS 1 (by decide)) (sk hS 1 (by decide) rfl) rfl (by decide) (r_1_0 hS) ?_
      refine q_iconst (2) (by decide) ?_
      refine q_ialN (2) rfl (zl hS 2 (by decide)) (sk hS 2 (by decide) rfl) (by decide) (by decide) ?_
      refine q_iadd ?_
      cases h
      exact q_iret rfl (Nat.le_refl _) (Nat.le_refl _) ⟨rfl, rfl⟩
theorem a_16 (X : GX) {z : Nat} {kd : Nat → Nat × Nat} {Rf : Nat → Nat → Option Nat} (hS : Sh z kd Rf) {n dp d : Nat} (hd : dp ≤ d) {I : (Nat → Nat → Int32)} {L : (Nat → Nat → Int64)} {I1 : (Nat → Nat → Int32)} {L1 : (Nat → Nat → Int64)} {r : Int32} (h : g_16 n dp (z, kd, Rf) 0 I L = some (r, I1, L1)) : Ct X d 16 0 0 [.ref 1] (z, kd, I, L, Rf) (AI (fun x τ => x = r ∧ τ = (z, kd, I1, L1, Rf))) :=
  Ct_of mu_16 (Nat.le_of_ble_eq_true rfl) ((w_16 X hS n dp d hd I L _ _ _) h)

/-! 17 CutFloor$Planner.forgetFirst()V -/
set_option maxHeartbeats 4000000 in
set_option maxRecDepth 100000 in
def g_17 : Nat → Nat → EN → Nat → (Nat → Nat → Int32) → (Nat → Nat → Int64) →  Option ((Nat → Nat → Int32) × (Nat → Nat → Int64))
  | 0, _, _, _, _, _ => none
  | n + 1, dp, e, lab, I, L =>
    if lab = 0 then (stI (u2 I 24 15 (1 : Int32)) (fun I_2 => (some (I_2, L))))
    else none
set_option maxRecDepth 100000 in
theorem e_17_0 (n dp : Nat) (e : EN) (I : (Nat → Nat → Int32)) (L : (Nat → Nat → Int64)) : g_17 (n + 1) dp e 0 I L = (stI (u2 I 24 15 (1 : Int32)) (fun I_2 => (some (I_2, L)))) := by rw [g_17.eq_2, if_pos (show (0 : Nat) = 0 from rfl)]
set_option maxHeartbeats 8000000 in
set_option maxRecDepth 100000 in
theorem w_17 (X : GX) {z : Nat} {kd : Nat → Nat × Nat} {Rf : Nat → Nat → Option Nat} (hS : Sh z kd Rf) : ∀ (n dp d : Nat), dp ≤ d → ∀ (I : (Nat → Nat → Int32)) (L : (Nat → Nat → Int64)) (I1 : (Nat → Nat → Int32)) (L1 : (Nat → Nat → Int64)), (g_17 n dp (z, kd, Rf) 0 I L = some (I1, L1) → K X d 17 0 0 (AV (fun τ => τ = (z, kd, I1, L1, Rf))) 0 [some (.ref 24)] [] (z, kd, I, L, Rf) 0 0) := by
  intro n
  induction n with
  | zero => intro dp d hdp I L I1 L1; exact fun h => by cases h
  | succ n ih =>
    intro dp d hdp I L I1 L1
    · intro h
      rw [e_17_0] at h
      refine K_of b_17_0 h_17_0 ?_
      refine q_aload rfl ?_
      refine q_iconst (1) (by decide) ?_
      refine q_putZ (c0 := 7) (j := 15) rfl rfl (zl hS 24 (by decide)) (sk hS 24 (by decide) rfl) rfl (Or.inr rfl) ?_
      obtain ⟨I_2, nI_2, h⟩ := stI_some h
      refine q_nI nI_2 ?_
      cases h
      exact q_vret rfl (Nat.le_refl _) (Nat.le_refl _) rfl
theorem a_17 (X : GX) {z : Nat} {kd : Nat → Nat × Nat} {Rf : Nat → Nat → Option Nat} (hS : Sh z kd Rf) {n dp d : Nat} (hd : dp ≤ d) {I : (Nat → Nat → Int32)} {L : (Nat → Nat → Int64)} {I1 : (Nat → Nat → Int32)} {L1 : (Nat → Nat → Int64)} (h : g_17 n dp (z, kd, Rf) 0 I L = some (I1, L1)) : Ct X d 17 0 0 [.ref 24] (z, kd, I, L, Rf) (AV (fun τ => τ = (z, kd, I1, L1, Rf))) :=
  Ct_of mu_17 (Nat.le_of_ble_eq_true rfl) ((w_17 X hS n dp d hd I L _ _) h)

/-! 18 CutFloor$Crew.forget()V -/
set_option maxHeartbeats 4000000 in
set_option maxRecDepth 100000 in
def g_18 : Nat → Nat → EN → Nat → (Nat → Nat → Int32) → (Nat → Nat → Int64) →  Option ((Nat → Nat → Int32) × (Nat → Nat → Int64))
  | 0, _, _, _, _, _ => none
  | n + 1, dp, e, lab, I, L =>
    if lab = 0 then (stI (u2 I 73 15 (1 : Int32)) (fun I_2 => (stI (u2 I_2 73 16 (1 : Int32)) (fun I_7 => (some (I_7, L))))))
    else none
set_option maxRecDepth 100000 in
theorem e_18_0 (n dp : Nat) (e : EN) (I : (Nat → Nat → Int32)) (L : (Nat → Nat → Int64)) : g_18 (n + 1) dp e 0 I L = (stI (u2 I 73 15 (1 : Int32)) (fun I_2 => (stI (u2 I_2 73 16 (1 : Int32)) (fun I_7 => (some (I_7, L)))))) := by rw [g_18.eq_2, if_pos (show (0 : Nat) = 0 from rfl)]
set_option maxHeartbeats 8000000 in
set_option maxRecDepth 100000 in
theorem w_18 (X : GX) {z : Nat} {kd : Nat → Nat × Nat} {Rf : Nat → Nat → Option Nat} (hS : Sh z kd Rf) : ∀ (n dp d : Nat), dp ≤ d → ∀ (I : (Nat → Nat → Int32)) (L : (Nat → Nat → Int64)) (I1 : (Nat → Nat → Int32)) (L1 : (Nat → Nat → Int64)), (g_18 n dp (z, kd, Rf) 0 I L = some (I1, L1) → K X d 18 0 0 (AV (fun τ => τ = (z, kd, I1, L1, Rf))) 0 [some (.ref 73)] [] (z, kd, I, L, Rf) 0 0) := by
  intro n
  induction n with
  | zero => intro dp d hdp I L I1 L1; exact fun h => by cases h
  | succ n ih =>
    intro dp d hdp I L I1 L1
    · intro h
      rw [e_18_0] at h
      refine K_of b_18_0 h_18_0 ?_
      refine q_aload rfl ?_
      refine q_iconst (1) (by decide) ?_
      refine q_putZ (c0 := 1) (j := 15) rfl rfl (zl hS 73 (by decide)) (sk hS 73 (by decide) rfl) rfl (Or.inr rfl) ?_
      obtain ⟨I_2, nI_2, h⟩ := stI_some h
      refine q_nI nI_2 ?_
      refine q_aload rfl ?_
      refine q_iconst (1) (by decide) ?_
      refine q_putZ (c0 := 1) (j := 16) rfl rfl (zl hS 73 (by decide)) (sk hS 73 (by decide) rfl) rfl (Or.inr rfl) ?_
      obtain ⟨I_7, nI_7, h⟩ := stI_some h
      refine q_nI nI_7 ?_
      cases h
      exact q_vret rfl (Nat.le_refl _) (Nat.le_refl _) rfl
theorem a_18 (X : GX) {z : Nat} {kd : Nat → Nat × Nat} {Rf : Nat → Nat → Option Nat} (hS : Sh z kd Rf) {n dp d : Nat} (hd : dp ≤ d) {I : (Nat → Nat → Int32)} {L : (Nat → Nat → Int64)} {I1 : (Nat → Nat → Int32)} {L1 : (Nat → Nat → Int64)} (h : g_18 n dp (z, kd, Rf) 0 I L = some (I1, L1)) : Ct X d 18 0 0 [.ref 73] (z, kd, I, L, Rf) (AV (fun τ => τ = (z, kd, I1, L1, Rf))) :=
  Ct_of mu_18 (Nat.le_of_ble_eq_true rfl) ((w_18 X hS n dp d hd I L _ _) h)

/-! 19 CutFloor.allow(I)I -/
set_option maxHeartbeats 4000000 in
set_option maxRecDepth 100000 in
def g_19 : Nat → Nat → EN → Nat → (Nat → Nat → Int32) → (Nat → Nat → Int64) → Int32 →  Option (Int32 × (Nat → Nat → Int32) × (Nat → Nat → Int64))
  | 0, _, _, _, _, _, _ => none
  | n + 1, dp, e, lab, I, L, i1 =>
    if lab = 0 then (stI (u2 I 0 18 (0 : Int32)) (fun I_2 => (some (i1, I_2, L))))
    else none
set_option maxRecDepth 100000 in
theorem e_19_0 (n dp : Nat) (e : EN) (I : (Nat → Nat → Int32)) (L : (Nat → Nat → Int64)) (i1 : Int32) : g_19 (n + 1) dp e 0 I L i1 = (stI (u2 I 0 18 (0 : Int32)) (fun I_2 => (some (i1, I_2, L)))) := by rw [g_19.eq_2, if_pos (show (0 : Nat) = 0 from rfl)]
set_option maxHeartbeats 8000000 in
set_option maxRecDepth 100000 in
theorem w_19 (X : GX) {z : Nat} {kd : Nat → Nat × Nat} {Rf : Nat → Nat → Option Nat} (hS : Sh z kd Rf) : ∀ (n dp d : Nat), dp ≤ d → ∀ (I : (Nat → Nat → Int32)) (L : (Nat → Nat → Int64)) (i1 : Int32) (r : Int32) (I1 : (Nat → Nat → Int32)) (L1 : (Nat → Nat → Int64)), (g_19 n dp (z, kd, Rf) 0 I L i1 = some (r, I1, L1) → K X d 19 0 0 (AI (fun x τ => x = r ∧ τ = (z, kd, I1, L1, Rf))) 0 [some (.ref 0), some (.int i1)] [] (z, kd, I, L, Rf) 0 0) := by
  intro n
  induction n with
  | zero => intro dp d hdp I L i1 r I1 L1; exact fun h => by cases h
  | succ n ih =>
    intro dp d hdp I L i1 r I1 L1
    · intro h
      rw [e_19_0] at h
      refine K_of b_19_0 h_19_0 ?_
      refine q_aload rfl ?_
      refine q_iconst (0) (by decide) ?_
      refine q_putI (c0 := 11) (j := 18) rfl rfl (zl hS 0 (by decide)) (sk hS 0 (by decide) rfl) rfl ?_
      obtain ⟨I_2, nI_2, h⟩ := stI_some h
      refine q_nI nI_2 ?_
      refine q_iload rfl ?_
      cases h
      exact q_iret rfl (Nat.le_refl _) (Nat.le_refl _) ⟨rfl, rfl⟩
theorem a_19 (X : GX) {z : Nat} {kd : Nat → Nat × Nat} {Rf : Nat → Nat → Option Nat} (hS : Sh z kd Rf) {n dp d : Nat} (hd : dp ≤ d) {I : (Nat → Nat → Int32)} {L : (Nat → Nat → Int64)} {i1 : Int32} {I1 : (Nat → Nat → Int32)} {L1 : (Nat → Nat → Int64)} {r : Int32} (h : g_19 n dp (z, kd, Rf) 0 I L i1 = some (r, I1, L1)) : Ct X d 19 0 0 [.ref 0, .int i1] (z, kd, I, L, Rf) (AI (fun x τ => x = r ∧ τ = (z, kd, I1, L1, Rf))) :=
  Ct_of mu_19 (Nat.le_of_ble_eq_true rfl) ((w_19 X hS n dp d hd I L i1 _ _ _) h)

/-! 13 CutFloor.carcasses(II)I -/
set_option maxHeartbeats 4000000 in
set_option maxRecDepth 100000 in
def g_13 : Nat → Nat → EN → Nat → (Nat → Nat → Int32) → (Nat → Nat → Int64) → Int32 → Int32 →  Option (Int32 × (Nat → Nat → Int32) × (Nat → Nat → Int64))
  | 0, _, _, _, _, _, _, _ => none
  | n + 1, dp, e, lab, I, L, i1, i2 =>
    if lab = 0 then (if 1 ≤ dp then (g_14 n (dp - 1) e 0 I L i1 (0 : Int32) (2 : Int32)).bind (fun ⟨x0_3, I0_3, L0_3⟩ => (if x0_3 = 0 then (if 1 ≤ dp then (g_15 n (dp - 1) e 0 I0_3 L0_3 (-1 : Int32)).bind (fun ⟨x1_21, I1_21, L1_21⟩ => (some (x1_21, I1_21, L1_21))) else none) else (if 1 ≤ dp then (g_14 n (dp - 1) e 0 I0_3 L0_3 i2 (0 : Int32) (8 : Int32)).bind (fun ⟨x1_13, I1_13, L1_13⟩ => (if x1_13 = 0 then (if 1 ≤ dp then (g_15 n (dp - 1) e 0 I1_13 L1_13 (-1 : Int32)).bind (fun ⟨x2_21, I2_21, L2_21⟩ => (some (x2_21, I2_21, L2_21))) else none) else (if 0 ≤ i1 ∧ (Int32.toNatClampNeg i1) < 3 then (stI (I1_13 2 (Int32.toNatClampNeg i1)) (fun v_34 => (if 1 ≤ dp then (g_16 n (dp - 1) e 0 I1_13 L1_13).bind (fun ⟨x2_39, I2_39, L2_39⟩ => (if ((x2_39 - v_34) + i2) ≤ (8 : Int32) then (if 0 ≤ i1 ∧ (Int32.toNatClampNeg i1) < 3 then (stI (u2 I2_39 2 (Int32.toNatClampNeg i1) i2) (fun I_67 => (if 1 ≤ dp then (g_17 n (dp - 1) e 0 I_67 L2_39).bind (fun ⟨I3_72, L3_72⟩ => (if 1 ≤ dp then (g_18 n (dp - 1) e 0 I3_72 L3_72).bind (fun ⟨I4_79, L4_79⟩ => (if 1 ≤ dp then (g_19 n (dp - 1) e 0 I4_79 L4_79 v_34).bind (fun ⟨x5_84, I5_84, L5_84⟩ => (some (x5_84, I5_84, L5_84))) else none)) else none)) else none))) else none) else (if 1 ≤ dp then (g_15 n (dp - 1) e 0 I2_39 L2_39 (-3 : Int32)).bind (fun ⟨x3_54, I3_54, L3_54⟩ => (some (x3_54, I3_54, L3_54))) else none))) else none))) else none))) else none))) else none)
    else none
set_option maxRecDepth 100000 in
theorem e_13_0 (n dp : Nat) (e : EN) (I : (Nat → Nat → Int32)) (L : (Nat → Nat → Int64)) (i1 : Int32) (i2 : Int32) : g_13 (n + 1) dp e 0 I L i1 i2 = (if 1 ≤ dp then (g_14 n (dp - 1) e 0 I L i1 (0 : Int32) (2 : Int32)).bind (fun ⟨x0_3, I0_3, L0_3⟩ => (if x0_3 = 0 then (if 1 ≤ dp then (g_15 n (dp - 1) e 0 I0_3 L0_3 (-1 : Int32)).bind (fun ⟨x1_21, I1_21, L1_21⟩ => (some (x1_21, I1_21, L1_21))) else none) else (if 1 ≤ dp then (g_14 n (dp - 1) e 0 I0_3 L0_3 i2 (0 : Int32) (8 : Int32)).bind (fun ⟨x1_13, I1_13, L1_13⟩ => (if x1_13 = 0 then (if 1 ≤ dp then (g_15 n (dp - 1) e 0 I1_13 L1_13 (-1 : Int32)).bind (fun ⟨x2_21, I2_21, L2_21⟩ => (some (x2_21, I2_21, L2_21))) else none) else (if 0 ≤ i1 ∧ (Int32.toNatClampNeg i1) < 3 then (stI (I1_13 2 (Int32.toNatClampNeg i1)) (fun v_34 => (if 1 ≤ dp then (g_16 n (dp - 1) e 0 I1_13 L1_13).bind (fun ⟨x2_39, I2_39, L2_39⟩ => (if ((x2_39 - v_34) + i2) ≤ (8 : Int32) then (if 0 ≤ i1 ∧ (Int32.toNatClampNeg i1) < 3 then (stI (u2 I2_39 2 (Int32.toNatClampNeg i1) i2) (fun I_67 => (if 1 ≤ dp then (g_17 n (dp - 1) e 0 I_67 L2_39).bind (fun ⟨I3_72, L3_72⟩ => (if 1 ≤ dp then (g_18 n (dp - 1) e 0 I3_72 L3_72).bind (fun ⟨I4_79, L4_79⟩ => (if 1 ≤ dp then (g_19 n (dp - 1) e 0 I4_79 L4_79 v_34).bind (fun ⟨x5_84, I5_84, L5_84⟩ => (some (x5_84, I5_84, L5_84))) else none)) else none)) else none))) else none) else (if 1 ≤ dp then (g_15 n (dp - 1) e 0 I2_39 L2_39 (-3 : Int32)).bind (fun ⟨x3_54, I3_54, L3_54⟩ => (some (x3_54, I3_54, L3_54))) else none))) else none))) else none))) else none))) else none) := by rw [g_13.eq_2, if_pos (show (0 : Nat) = 0 from rfl)]
set_option maxHeartbeats 8000000 in
set_option maxRecDepth 100000 in
theorem w_13 (X : GX) {z : Nat} {kd : Nat → Nat × Nat} {Rf : Nat → Nat → Option Nat} (hS : Sh z kd Rf) : ∀ (n dp d : Nat), dp ≤ d → ∀ (I : (Nat → Nat → Int32)) (L : (Nat → Nat → Int64)) (i1 : Int32) (i2 : Int32) (r : Int32) (I1 : (Nat → Nat → Int32)) (L1 : (Nat → Nat → Int64)), (g_13 n dp (z, kd, Rf) 0 I L i1 i2 = some (r, I1, L1) → K X d 13 0 0 (AI (fun x τ => x = r ∧ τ = (z, kd, I1, L1, Rf))) 0 [some (.ref 0), some (.int i1), some (.int i2), none] [] (z, kd, I, L, Rf) 0 0) := by
  intro n
  induction n with
  | zero => intro dp d hdp I L i1 i2 r I1 L1; exact fun h => by cases h
  | succ n ih =>
    intro dp d hdp I L i1 i2 r I1 L1
    · intro h
      rw [e_13_0] at h
      refine K_of b_13_0 h_13_0 ?_
      refine q_iload rfl ?_
      refine q_iconst (0) (by decide) ?_
      refine q_iconst (2) (by decide) ?_
      obtain ⟨d_3, h⟩ := ite_some h
      obtain ⟨⟨x0_3, I0_3, L0_3⟩, e_3, h⟩ := Option.bind_eq_some_iff.mp h
      dsimp only at h
      refine q_fs3I (a_14 X hS (d := d - 1) (by omega) e_3) (by omega) (Nat.le_refl _) (Nat.le_refl _) rfl (Nat.le_of_ble_eq_true rfl) ?_
      refine q_if_eq (fun c_6 => ?_) (fun c_6 => ?_)
      · rw [if_pos c_6] at h
        refine K_of b_13_19 h_13_19 ?_
        refine q_aload rfl ?_
        refine q_iconst (-1) (by decide) ?_
        obtain ⟨d_21, h⟩ := ite_some h
        obtain ⟨⟨x1_21, I1_21, L1_21⟩, e_21, h⟩ := Option.bind_eq_some_iff.mp h
        dsimp only at h
        refine q_fv2I (a_15 X hS (d := d - 1) (by omega) e_21) (by omega) (Nat.le_refl _) (Nat.le_refl _) rfl (Nat.le_of_ble_eq_true rfl) ⟨(zl hS 0 (by decide)), congrArg Prod.fst (sk hS 0 (by decide) rfl), by decide⟩ ?_
        cases h
        exact q_iret rfl (Nat.le_refl _) (Nat.le_refl _) ⟨rfl, rfl⟩
      · rw [if_neg c_6] at h
        refine q_iload rfl ?_
        refine q_iconst (0) (by decide) ?_
        refine q_iconst (8) (by decide) ?_
        obtain ⟨d_13, h⟩ := ite_some h
        obtain ⟨⟨x1_13, I1_13, L1_13⟩, e_13, h⟩ := Option.bind_eq_some_iff.mp h
        dsimp only at h
        refine q_fs3I (a_14 X hS (d := d - 1) (by omega) e_13) (by omega) (Nat.le_refl _) (Nat.le_refl _) rfl (Nat.le_of_ble_eq_true rfl) ?_
        refine q_if_ne (fun c_16 => ?_) (fun c_16 => ?_)
        · rw [if_neg c_16] at h
          refine K_of b_13_25 h_13_25 ?_
          refine q_aload rfl ?_
          refine q_getRs (c0 := 11) (j := 0) rfl rfl (zl hS 0 (by decide)) (sk hS 0 (by decide) rfl) rfl (by decide) (r_0_0 hS) ?_
          refine q_getRs (c0 := 3) (j := 0) rfl rfl (zl hS 1 (by decide)) (sk hS 1 (by decide) rfl) rfl (by decide) (r_1_0 hS) ?_
          refine q_iload rfl ?_
          obtain ⟨⟨u_33, v_33⟩, h⟩ := ite_some h
          refine q_ialN (Int32.toNatClampNeg i1) (nx u_33) (zl hS 2 (by decide)) (sk hS 2 (by decide) rfl) v_33 (by decide) ?_
          obtain ⟨v_34, nv_34, h⟩ := stI_some h
          refine q_eqi nv_34.symm ?_
          refine q_istore (ls1 := [some (.ref 0), some (.int i1), some (.int i2), some (.int v_34)]) (Nat.le_of_ble_eq_true rfl) rfl ?_
          refine q_aload rfl ?_
          refine q_getRs (c0 := 11) (j := 0) rfl rfl (zl hS 0 (by decide)) (sk hS 0 (by decide) rfl) rfl (by decide) (r_0_0 hS) ?_
          obtain ⟨d_39, h⟩ := ite_some h
          obtain ⟨⟨x2_39, I2_39, L2_39⟩, e_39, h⟩ := Option.bind_eq_some_iff.mp h
          dsimp only at h
          refine q_fv1I (a_16 X hS (d := d - 1) (by omega) e_39) (by omega) (Nat.le_refl _) (Nat.le_refl _) rfl (Nat.le_of_ble_eq_true rfl) ⟨(zl hS 1 (by decide)), congrArg Prod.fst (sk hS 1 (by decide) rfl), by decide⟩ ?_
          refine q_iload rfl ?_
          refine q_isub ?_
          refine q_iload rfl ?_
          refine q_iadd ?_
          refine q_iconst (8) (by decide) ?_
          refine q_icmp_le (fun c_48 => ?_) (fun c_48 => ?_)
          · rw [if_pos c_48] at h
            refine K_of b_13_58 h_13_58 ?_
            refine q_aload rfl ?_
            refine q_getRs (c0 := 11) (j := 0) rfl rfl (zl hS 0 (by decide)) (sk hS 0 (by decide) rfl) rfl (by decide) (r_0_0 hS) ?_
            refine q_getRs (c0 := 3) (j := 0) rfl rfl (zl hS 1 (by decide)) (sk hS 1 (by decide) rfl) rfl (by decide) (r_1_0 hS) ?_
            refine q_iload rfl ?_
            refine q_iload rfl ?_
            obtain ⟨⟨u_67, v_67⟩, h⟩ := ite_some h
            refine q_iasN (Int32.toNatClampNeg i1) (nx u_67) (zl hS 2 (by decide)) (sk hS 2 (by decide) rfl) v_67 (by decide) ?_
            obtain ⟨I_67, nI_67, h⟩ := stI_some h
            refine q_nI nI_67 ?_
            refine q_aload rfl ?_
            refine q_getRs (c0 := 11) (j := 3) rfl rfl (zl hS 0 (by decide)) (sk hS 0 (by decide) rfl) rfl (by decide) (r_0_3 hS) ?_
            obtain ⟨d_72, h⟩ := ite_some h
            obtain ⟨⟨I3_72, L3_72⟩, e_72, h⟩ := Option.bind_eq_some_iff.mp h
            dsimp only at h
            refine q_fv1V (a_17 X hS (d := d - 1) (by omega) e_72) (by omega) (Nat.le_refl _) (Nat.le_refl _) rfl (Nat.le_of_ble_eq_true rfl) ⟨(zl hS 24 (by decide)), congrArg Prod.fst (sk hS 24 (by decide) rfl), by decide⟩ ?_
            refine q_aload rfl ?_
            refine q_getRs (c0 := 11) (j := 4) rfl rfl (zl hS 0 (by decide)) (sk hS 0 (by decide) rfl) rfl (by decide) (r_0_4 hS) ?_
            obtain ⟨d_79, h⟩ := ite_some h
            obtain ⟨⟨I4_79, L4_79⟩, e_79, h⟩ := Option.bind_eq_some_iff.mp h
            dsimp only at h
            refine q_fv1V (a_18 X hS (d := d - 1) (by omega) e_79) (by omega) (Nat.le_refl _) (Nat.le_refl _) rfl (Nat.le_of_ble_eq_true rfl) ⟨(zl hS 73 (by decide)), congrArg Prod.fst (sk hS 73 (by decide) rfl), by decide⟩ ?_
            refine q_aload rfl ?_
            refine q_iload rfl ?_
            obtain ⟨d_84, h⟩ := ite_some h
            obtain ⟨⟨x5_84, I5_84, L5_84⟩, e_84, h⟩ := Option.bind_eq_some_iff.mp h
            dsimp only at h
            refine q_fv2I (a_19 X hS (d := d - 1) (by omega) e_84) (by omega) (Nat.le_refl _) (Nat.le_refl _) rfl (Nat.le_of_ble_eq_true rfl) ⟨(zl hS 0 (by decide)), congrArg Prod.fst (sk hS 0 (by decide) rfl), by decide⟩ ?_
            cases h
            exact q_iret rfl (Nat.le_refl _) (Nat.le_refl _) ⟨rfl, rfl⟩
          · rw [if_neg c_48] at h
            refine q_aload rfl ?_
            refine q_iconst (-3) (by decide) ?_
            obtain ⟨d_54, h⟩ := ite_some h
            obtain ⟨⟨x3_54, I3_54, L3_54⟩, e_54, h⟩ := Option.bind_eq_some_iff.mp h
            dsimp only at h
            refine q_fv2I (a_15 X hS (d := d - 1) (by omega) e_54) (by omega) (Nat.le_refl _) (Nat.le_refl _) rfl (Nat.le_of_ble_eq_true rfl) ⟨(zl hS 0 (by decide)), congrArg Prod.fst (sk hS 0 (by decide) rfl), by decide⟩ ?_
            cases h
            exact q_iret rfl (Nat.le_refl _) (Nat.le_refl _) ⟨rfl, rfl⟩
        · rw [if_pos c_16] at h
          refine q_end ?_
          refine K_of b_13_19 h_13_19 ?_
          refine q_aload rfl ?_
          refine q_iconst (-1) (by decide) ?_
          obtain ⟨d_21, h⟩ := ite_some h
          obtain ⟨⟨x2_21, I2_21, L2_21⟩, e_21, h⟩ := Option.bind_eq_some_iff.mp h
          dsimp only at h
          refine q_fv2I (a_15 X hS (d := d - 1) (by omega) e_21) (by omega) (Nat.le_refl _) (Nat.le_refl _) rfl (Nat.le_of_ble_eq_true rfl) ⟨(zl hS 0 (by decide)), congrArg Prod.fst (sk hS 0 (by decide) rfl), by decide⟩ ?_
          cases h
          exact q_iret rfl (Nat.le_refl _) (Nat.le_refl _) ⟨rfl, rfl⟩
theorem a_13 (X : GX) {z : Nat} {kd : Nat → Nat × Nat} {Rf : Nat → Nat → Option Nat} (hS : Sh z kd Rf) {n dp d : Nat} (hd : dp ≤ d) {I : (Nat → Nat → Int32)} {L : (Nat → Nat → Int64)} {i1 : Int32} {i2 : Int32} {I1 : (Nat → Nat → Int32)} {L1 : (Nat → Nat → Int64)} {r : Int32} (h : g_13 n dp (z, kd, Rf) 0 I L i1 i2 = some (r, I1, L1)) : Ct X d 13 0 0 [.ref 0, .int i1, .int i2] (z, kd, I, L, Rf) (AI (fun x τ => x = r ∧ τ = (z, kd, I1, L1, Rf))) :=
  Ct_of mu_13 (Nat.le_of_ble_eq_true rfl) ((w_13 X hS n dp d hd I L i1 i2 _ _ _) h)

/-! 22 CutFloor$Planner.forgetWays()V -/
set_option maxHeartbeats 4000000 in
set_option maxRecDepth 100000 in
def g_22 : Nat → Nat → EN → Nat → (Nat → Nat → Int32) → (Nat → Nat → Int64) →  Option ((Nat → Nat → Int32) × (Nat → Nat → Int64))
  | 0, _, _, _, _, _ => none
  | n + 1, dp, e, lab, I, L =>
    if lab = 0 then (stI (u2 I 24 13 (1 : Int32)) (fun I_2 => (some (I_2, L))))
    else none
set_option maxRecDepth 100000 in
theorem e_22_0 (n dp : Nat) (e : EN) (I : (Nat → Nat → Int32)) (L : (Nat → Nat → Int64)) : g_22 (n + 1) dp e 0 I L = (stI (u2 I 24 13 (1 : Int32)) (fun I_2 => (some (I_2, L)))) := by rw [g_22.eq_2, if_pos (show (0 : Nat) = 0 from rfl)]
set_option maxHeartbeats 8000000 in
set_option maxRecDepth 100000 in
theorem w_22 (X : GX) {z : Nat} {kd : Nat → Nat × Nat} {Rf : Nat → Nat → Option Nat} (hS : Sh z kd Rf) : ∀ (n dp d : Nat), dp ≤ d → ∀ (I : (Nat → Nat → Int32)) (L : (Nat → Nat → Int64)) (I1 : (Nat → Nat → Int32)) (L1 : (Nat → Nat → Int64)), (g_22 n dp (z, kd, Rf) 0 I L = some (I1, L1) → K X d 22 0 0 (AV (fun τ => τ = (z, kd, I1, L1, Rf))) 0 [some (.ref 24)] [] (z, kd, I, L, Rf) 0 0) := by
  intro n
  induction n with
  | zero => intro dp d hdp I L I1 L1; exact fun h => by cases h
  | succ n ih =>
    intro dp d hdp I L I1 L1
    · intro h
      rw [e_22_0] at h
      refine K_of b_22_0 h_22_0 ?_
      refine q_aload rfl ?_
      refine q_iconst (1) (by decide) ?_
      refine q_putZ (c0 := 7) (j := 13) rfl rfl (zl hS 24 (by decide)) (sk hS 24 (by decide) rfl) rfl (Or.inr rfl) ?_
      obtain ⟨I_2, nI_2, h⟩ := stI_some h
      refine q_nI nI_2 ?_
      cases h
      exact q_vret rfl (Nat.le_refl _) (Nat.le_refl _) rfl
theorem a_22 (X : GX) {z : Nat} {kd : Nat → Nat × Nat} {Rf : Nat → Nat → Option Nat} (hS : Sh z kd Rf) {n dp d : Nat} (hd : dp ≤ d) {I : (Nat → Nat → Int32)} {L : (Nat → Nat → Int64)} {I1 : (Nat → Nat → Int32)} {L1 : (Nat → Nat → Int64)} (h : g_22 n dp (z, kd, Rf) 0 I L = some (I1, L1)) : Ct X d 22 0 0 [.ref 24] (z, kd, I, L, Rf) (AV (fun τ => τ = (z, kd, I1, L1, Rf))) :=
  Ct_of mu_22 (Nat.le_of_ble_eq_true rfl) ((w_22 X hS n dp d hd I L _ _) h)

/-! 21 CutFloor.forgetWays()V -/
set_option maxHeartbeats 4000000 in
set_option maxRecDepth 100000 in
def g_21 : Nat → Nat → EN → Nat → (Nat → Nat → Int32) → (Nat → Nat → Int64) →  Option ((Nat → Nat → Int32) × (Nat → Nat → Int64))
  | 0, _, _, _, _, _ => none
  | n + 1, dp, e, lab, I, L =>
    if lab = 0 then (if 1 ≤ dp then (g_22 n (dp - 1) e 0 I L).bind (fun ⟨I0_4, L0_4⟩ => (if 1 ≤ dp then (g_18 n (dp - 1) e 0 I0_4 L0_4).bind (fun ⟨I1_11, L1_11⟩ => (some (I1_11, L1_11))) else none)) else none)
    else none
set_option maxRecDepth 100000 in
theorem e_21_0 (n dp : Nat) (e : EN) (I : (Nat → Nat → Int32)) (L : (Nat → Nat → Int64)) : g_21 (n + 1) dp e 0 I L = (if 1 ≤ dp then (g_22 n (dp - 1) e 0 I L).bind (fun ⟨I0_4, L0_4⟩ => (if 1 ≤ dp then (g_18 n (dp - 1) e 0 I0_4 L0_4).bind (fun ⟨I1_11, L1_11⟩ => (some (I1_11, L1_11))) else none)) else none) := by rw [g_21.eq_2, if_pos (show (0 : Nat) = 0 from rfl)]
set_option maxHeartbeats 8000000 in
set_option maxRecDepth 100000 in
theorem w_21 (X : GX) {z : Nat} {kd : Nat → Nat × Nat} {Rf : Nat → Nat → Option Nat} (hS : Sh z kd Rf) : ∀ (n dp d : Nat), dp ≤ d → ∀ (I : (Nat → Nat → Int32)) (L : (Nat → Nat → Int64)) (I1 : (Nat → Nat → Int32)) (L1 : (Nat → Nat → Int64)), (g_21 n dp (z, kd, Rf) 0 I L = some (I1, L1) → K X d 21 0 0 (AV (fun τ => τ = (z, kd, I1, L1, Rf))) 0 [some (.ref 0)] [] (z, kd, I, L, Rf) 0 0) := by
  intro n
  induction n with
  | zero => intro dp d hdp I L I1 L1; exact fun h => by cases h
  | succ n ih =>
    intro dp d hdp I L I1 L1
    · intro h
      rw [e_21_0] at h
      refine K_of b_21_0 h_21_0 ?_
      refine q_aload rfl ?_
      refine q_getRs (c0 := 11) (j := 3) rfl rfl (zl hS 0 (by decide)) (sk hS 0 (by decide) rfl) rfl (by decide) (r_0_3 hS) ?_
      obtain ⟨d_4, h⟩ := ite_some h
      obtain ⟨⟨I0_4, L0_4⟩, e_4, h⟩ := Option.bind_eq_some_iff.mp h
      dsimp only at h
      refine q_fv1V (a_22 X hS (d := d - 1) (by omega) e_4) (by omega) (Nat.le_refl _) (Nat.le_refl _) rfl (Nat.le_of_ble_eq_true rfl) ⟨(zl hS 24 (by decide)), congrArg Prod.fst (sk hS 24 (by decide) rfl), by decide⟩ ?_
      refine q_aload rfl ?_
      refine q_getRs (c0 := 11) (j := 4) rfl rfl (zl hS 0 (by decide)) (sk hS 0 (by decide) rfl) rfl (by decide) (r_0_4 hS) ?_
      obtain ⟨d_11, h⟩ := ite_some h
      obtain ⟨⟨I1_11, L1_11⟩, e_11, h⟩ := Option.bind_eq_some_iff.mp h
      dsimp only at h
      refine q_fv1V (a_18 X hS (d := d - 1) (by omega) e_11) (by omega) (Nat.le_refl _) (Nat.le_refl _) rfl (Nat.le_of_ble_eq_true rfl) ⟨(zl hS 73 (by decide)), congrArg Prod.fst (sk hS 73 (by decide) rfl), by decide⟩ ?_
      cases h
      exact q_vret rfl (Nat.le_refl _) (Nat.le_refl _) rfl
theorem a_21 (X : GX) {z : Nat} {kd : Nat → Nat × Nat} {Rf : Nat → Nat → Option Nat} (hS : Sh z kd Rf) {n dp d : Nat} (hd : dp ≤ d) {I : (Nat → Nat → Int32)} {L : (Nat → Nat → Int64)} {I1 : (Nat → Nat → Int32)} {L1 : (Nat → Nat → Int64)} (h : g_21 n dp (z, kd, Rf) 0 I L = some (I1, L1)) : Ct X d 21 0 0 [.ref 0] (z, kd, I, L, Rf) (AV (fun τ => τ = (z, kd, I1, L1, Rf))) :=
  Ct_of mu_21 (Nat.le_of_ble_eq_true rfl) ((w_21 X hS n dp d hd I L _ _) h)

/-! 20 CutFloor.weighs(III)I -/
set_option maxHeartbeats 4000000 in
set_option maxRecDepth 100000 in
def g_20 : Nat → Nat → EN → Nat → (Nat → Nat → Int32) → (Nat → Nat → Int64) → Int32 → Int32 → Int32 →  Option (Int32 × (Nat → Nat → Int32) × (Nat → Nat → Int64))
  | 0, _, _, _, _, _, _, _, _ => none
  | n + 1, dp, e, lab, I, L, i1, i2, i3 =>
    if lab = 0 then (if 1 ≤ dp then (g_14 n (dp - 1) e 0 I L i1 (0 : Int32) (9 : Int32)).bind (fun ⟨x0_4, I0_4, L0_4⟩ => (if x0_4 = 0 then (if 1 ≤ dp then (g_15 n (dp - 1) e 0 I0_4 L0_4 (-1 : Int32)).bind (fun ⟨x1_32, I1_32, L1_32⟩ => (some (x1_32, I1_32, L1_32))) else none) else (if 1 ≤ dp then (g_14 n (dp - 1) e 0 I0_4 L0_4 i2 (0 : Int32) (2 : Int32)).bind (fun ⟨x1_13, I1_13, L1_13⟩ => (if x1_13 = 0 then (if 1 ≤ dp then (g_15 n (dp - 1) e 0 I1_13 L1_13 (-1 : Int32)).bind (fun ⟨x2_32, I2_32, L2_32⟩ => (some (x2_32, I2_32, L2_32))) else none) else (if 1 ≤ dp then (g_14 n (dp - 1) e 0 I1_13 L1_13 i3 (0 : Int32) (9999 : Int32)).bind (fun ⟨x2_24, I2_24, L2_24⟩ => (if x2_24 = 0 then (if 1 ≤ dp then (g_15 n (dp - 1) e 0 I2_24 L2_24 (-1 : Int32)).bind (fun ⟨x3_32, I3_32, L3_32⟩ => (some (x3_32, I3_32, L3_32))) else none) else (stI ((i1 * (3 : Int32)) + i2) (fun v_41 => (if 0 ≤ v_41 ∧ (Int32.toNatClampNeg v_41) < 30 then (stI (I2_24 3 (Int32.toNatClampNeg v_41)) (fun v_53 => (if 0 ≤ v_41 ∧ (Int32.toNatClampNeg v_41) < 30 then (stI (u2 I2_24 3 (Int32.toNatClampNeg v_41) i3) (fun I_65 => (if 1 ≤ dp then (g_21 n (dp - 1) e 0 I_65 L2_24).bind (fun ⟨I3_67, L3_67⟩ => (if 1 ≤ dp then (g_19 n (dp - 1) e 0 I3_67 L3_67 v_53).bind (fun ⟨x4_73, I4_73, L4_73⟩ => (some (x4_73, I4_73, L4_73))) else none)) else none))) else none))) else none))))) else none))) else none))) else none)
    else none
set_option maxRecDepth 100000 in
theorem e_20_0 (n dp : Nat) (e : EN) (I : (Nat → Nat → Int32)) (L : (Nat → Nat → Int64)) (i1 : Int32) (i2 : Int32) (i3 : Int32) : g_20 (n + 1) dp e 0 I L i1 i2 i3 = (if 1 ≤ dp then (g_14 n (dp - 1) e 0 I L i1 (0 : Int32) (9 : Int32)).bind (fun ⟨x0_4, I0_4, L0_4⟩ => (if x0_4 = 0 then (if 1 ≤ dp then (g_15 n (dp - 1) e 0 I0_4 L0_4 (-1 : Int32)).bind (fun ⟨x1_32, I1_32, L1_32⟩ => (some (x1_32, I1_32, L1_32))) else none) else (if 1 ≤ dp then (g_14 n (dp - 1) e 0 I0_4 L0_4 i2 (0 : Int32) (2 : Int32)).bind (fun ⟨x1_13, I1_13, L1_13⟩ => (if x1_13 = 0 then (if 1 ≤ dp then (g_15 n (dp - 1) e 0 I1_13 L1_13 (-1 : Int32)).bind (fun ⟨x2_32, I2_32, L2_32⟩ => (some (x2_32, I2_32, L2_32))) else none) else (if 1 ≤ dp then (g_14 n (dp - 1) e 0 I1_13 L1_13 i3 (0 : Int32) (9999 : Int32)).bind (fun ⟨x2_24, I2_24, L2_24⟩ => (if x2_24 = 0 then (if 1 ≤ dp then (g_15 n (dp - 1) e 0 I2_24 L2_24 (-1 : Int32)).bind (fun ⟨x3_32, I3_32, L3_32⟩ => (some (x3_32, I3_32, L3_32))) else none) else (stI ((i1 * (3 : Int32)) + i2) (fun v_41 => (if 0 ≤ v_41 ∧ (Int32.toNatClampNeg v_41) < 30 then (stI (I2_24 3 (Int32.toNatClampNeg v_41)) (fun v_53 => (if 0 ≤ v_41 ∧ (Int32.toNatClampNeg v_41) < 30 then (stI (u2 I2_24 3 (Int32.toNatClampNeg v_41) i3) (fun I_65 => (if 1 ≤ dp then (g_21 n (dp - 1) e 0 I_65 L2_24).bind (fun ⟨I3_67, L3_67⟩ => (if 1 ≤ dp then (g_19 n (dp - 1) e 0 I3_67 L3_67 v_53).bind (fun ⟨x4_73, I4_73, L4_73⟩ => (some (x4_73, I4_73, L4_73))) else none)) else none))) else none))) else none))))) else none))) else none))) else none) := by rw [g_20.eq_2, if_pos (show (0 : Nat) = 0 from rfl)]
set_option maxHeartbeats 8000000 in
set_option maxRecDepth 100000 in
theorem w_20 (X : GX) {z : Nat} {kd : Nat → Nat × Nat} {Rf : Nat → Nat → Option Nat} (hS : Sh z kd Rf) : ∀ (n dp d : Nat), dp ≤ d → ∀ (I : (Nat → Nat → Int32)) (L : (Nat → Nat → Int64)) (i1 : Int32) (i2 : Int32) (i3 : Int32) (r : Int32) (I1 : (Nat → Nat → Int32)) (L1 : (Nat → Nat → Int64)), (g_20 n dp (z, kd, Rf) 0 I L i1 i2 i3 = some (r, I1, L1) → K X d 20 0 0 (AI (fun x τ => x = r ∧ τ = (z, kd, I1, L1, Rf))) 0 [some (.ref 0), some (.int i1), some (.int i2), some (.int i3), none, none] [] (z, kd, I, L, Rf) 0 0) := by
  intro n
  induction n with
  | zero => intro dp d hdp I L i1 i2 i3 r I1 L1; exact fun h => by cases h
  | succ n ih =>
    intro dp d hdp I L i1 i2 i3 r I1 L1
    · intro h
      rw [e_20_0] at h
      refine K_of b_20_0 h_20_0 ?_
      refine q_iload rfl ?_
      refine q_iconst (0) (by decide) ?_
      refine q_iconst (9) (by decide) ?_
      obtain ⟨d_4, h⟩ := ite_some h
      obtain ⟨⟨x0_4, I0_4, L0_4⟩, e_4, h⟩ := Option.bind_eq_some_iff.mp h
      dsimp only at h
      refine q_fs3I (a_14 X hS (d := d - 1) (by omega) e_4) (by omega) (Nat.le_refl _) (Nat.le_refl _) rfl (Nat.le_of_ble_eq_true rfl) ?_
      refine q_if_eq (fun c_7 => ?_) (fun c_7 => ?_)
      · rw [if_pos c_7] at h
        refine K_of b_20_30 h_20_30 ?_
        refine q_aload rfl ?_
        refine q_iconst (-1) (by decide) ?_
        obtain ⟨d_32, h⟩ := ite_some h
        obtain ⟨⟨x1_32, I1_32, L1_32⟩, e_32, h⟩ := Option.bind_eq_some_iff.mp h
        dsimp only at h
        refine q_fv2I (a_15 X hS (d := d - 1) (by omega) e_32) (by omega) (Nat.le_refl _) (Nat.le_refl _) rfl (Nat.le_of_ble_eq_true rfl) ⟨(zl hS 0 (by decide)), congrArg Prod.fst (sk hS 0 (by decide) rfl), by decide⟩ ?_
        cases h
        exact q_iret rfl (Nat.le_refl _) (Nat.le_refl _) ⟨rfl, rfl⟩
      · rw [if_neg c_7] at h
        refine q_iload rfl ?_
        refine q_iconst (0) (by decide) ?_
        refine q_iconst (2) (by decide) ?_
        obtain ⟨d_13, h⟩ := ite_some h
        obtain ⟨⟨x1_13, I1_13, L1_13⟩, e_13, h⟩ := Option.bind_eq_some_iff.mp h
        dsimp only at h
        refine q_fs3I (a_14 X hS (d := d - 1) (by omega) e_13) (by omega) (Nat.le_refl _) (Nat.le_refl _) rfl (Nat.le_of_ble_eq_true rfl) ?_
        refine q_if_eq (fun c_16 => ?_) (fun c_16 => ?_)
        · rw [if_pos c_16] at h
          refine K_of b_20_30 h_20_30 ?_
          refine q_aload rfl ?_
          refine q_iconst (-1) (by decide) ?_
          obtain ⟨d_32, h⟩ := ite_some h
          obtain ⟨⟨x2_32, I2_32, L2_32⟩, e_32, h⟩ := Option.bind_eq_some_iff.mp h
          dsimp only at h
          refine q_fv2I (a_15 X hS (d := d - 1) (by omega) e_32) (by omega) (Nat.le_refl _) (Nat.le_refl _) rfl (Nat.le_of_ble_eq_true rfl) ⟨(zl hS 0 (by decide)), congrArg Prod.fst (sk hS 0 (by decide) rfl), by decide⟩ ?_
          cases h
          exact q_iret rfl (Nat.le_refl _) (Nat.le_refl _) ⟨rfl, rfl⟩
        · rw [if_neg c_16] at h
          refine q_iload rfl ?_
          refine q_iconst (0) (by decide) ?_
          refine q_iconst (9999) (by decide) ?_
          obtain ⟨d_24, h⟩ := ite_some h
          obtain ⟨⟨x2_24, I2_24, L2_24⟩, e_24, h⟩ := Option.bind_eq_some_iff.mp h
          dsimp only at h
          refine q_fs3I (a_14 X hS (d := d - 1) (by omega) e_24) (by omega) (Nat.le_refl _) (Nat.le_refl _) rfl (Nat.le_of_ble_eq_true rfl) ?_
          refine q_if_ne (fun c_27 => ?_) (fun c_27 => ?_)
          · rw [if_neg c_27] at h
            refine K_of b_20_36 h_20_36 ?_
            refine q_iload rfl ?_
            refine q_iconst (3) (by decide) ?_
            refine q_imul ?_
            refine q_iload rfl ?_
            refine q_iadd ?_
            obtain ⟨v_41, nv_41, h⟩ := stI_some h
            refine q_eqi nv_41.symm ?_
            refine q_istore (ls1 := [some (.ref 0), some (.int i1), some (.int i2), some (.int i3), some (.int v_41), none]) (Nat.le_of_ble_eq_true rfl) rfl ?_
            refine q_aload rfl ?_
            refine q_getRs (c0 := 11) (j := 0) rfl rfl (zl hS 0 (by decide)) (sk hS 0 (by decide) rfl) rfl (by decide) (r_0_0 hS) ?_
            refine q_getRs (c0 := 3) (j := 1) rfl rfl (zl hS 1 (by decide)) (sk hS 1 (by decide) rfl) rfl (by decide) (r_1_1 hS) ?_
            refine q_iload rfl ?_
            obtain ⟨⟨u_52, v_52⟩, h⟩ := ite_some h
            refine q_ialN (Int32.toNatClampNeg v_41) (nx u_52) (zl hS 3 (by decide)) (sk hS 3 (by decide) rfl) v_52 (by decide) ?_
            obtain ⟨v_53, nv_53, h⟩ := stI_some h
            refine q_eqi nv_53.symm ?_
            refine q_istore (ls1 := [some (.ref 0), some (.int i1), some (.int i2), some (.int i3), some (.int v_41), some (.int v_53)]) (Nat.le_of_ble_eq_true rfl) rfl ?_
            refine q_aload rfl ?_
            refine q_getRs (c0 := 11) (j := 0) rfl rfl (zl hS 0 (by decide)) (sk hS 0 (by decide) rfl) rfl (by decide) (r_0_0 hS) ?_
            refine q_getRs (c0 := 3) (j := 1) rfl rfl (zl hS 1 (by decide)) (sk hS 1 (by decide) rfl) rfl (by decide) (r_1_1 hS) ?_
            refine q_iload rfl ?_
            refine q_iload rfl ?_
            obtain ⟨⟨u_65, v_65⟩, h⟩ := ite_some h
            refine q_iasN (Int32.toNatClampNeg v_41) (nx u_65) (zl hS 3 (by decide)) (sk hS 3 (by decide) rfl) v_65 (by decide) ?_
            obtain ⟨I_65, nI_65, h⟩ := stI_some h
            refine q_nI nI_65 ?_
            refine q_aload rfl ?_
            obtain ⟨d_67, h⟩ := ite_some h
            obtain ⟨⟨I3_67, L3_67⟩, e_67, h⟩ := Option.bind_eq_some_iff.mp h
            dsimp only at h
            refine q_fv1V (a_21 X hS (d := d - 1) (by omega) e_67) (by omega) (Nat.le_refl _) (Nat.le_refl _) rfl (Nat.le_of_ble_eq_true rfl) ⟨(zl hS 0 (by decide)), congrArg Prod.fst (sk hS 0 (by decide) rfl), by decide⟩ ?_
            refine q_aload rfl ?_
            refine q_iload rfl ?_
            obtain ⟨d_73, h⟩ := ite_some h
            obtain ⟨⟨x4_73, I4_73, L4_73⟩, e_73, h⟩ := Option.bind_eq_some_iff.mp h
            dsimp only at h
            refine q_fv2I (a_19 X hS (d := d - 1) (by omega) e_73) (by omega) (Nat.le_refl _) (Nat.le_refl _) rfl (Nat.le_of_ble_eq_true rfl) ⟨(zl hS 0 (by decide)), congrArg Prod.fst (sk hS 0 (by decide) rfl), by decide⟩ ?_
            cases h
            exact q_iret rfl (Nat.le_refl _) (Nat.le_refl _) ⟨rfl, rfl⟩
          · rw [if_pos c_27] at h
            refine q_end ?_
            refine K_of b_20_30 h_20_30 ?_
            refine q_aload rfl ?_
            refine q_iconst (-1) (by decide) ?_
            obtain ⟨d_32, h⟩ := ite_some h
            obtain ⟨⟨x3_32, I3_32, L3_32⟩, e_32, h⟩ := Option.bind_eq_some_iff.mp h
            dsimp only at h
            refine q_fv2I (a_15 X hS (d := d - 1) (by omega) e_32) (by omega) (Nat.le_refl _) (Nat.le_refl _) rfl (Nat.le_of_ble_eq_true rfl) ⟨(zl hS 0 (by decide)), congrArg Prod.fst (sk hS 0 (by decide) rfl), by decide⟩ ?_
            cases h
            exact q_iret rfl (Nat.le_refl _) (Nat.le_refl _) ⟨rfl, rfl⟩
theorem a_20 (X : GX) {z : Nat} {kd : Nat → Nat × Nat} {Rf : Nat → Nat → Option Nat} (hS : Sh z kd Rf) {n dp d : Nat} (hd : dp ≤ d) {I : (Nat → Nat → Int32)} {L : (Nat → Nat → Int64)} {i1 : Int32} {i2 : Int32} {i3 : Int32} {I1 : (Nat → Nat → Int32)} {L1 : (Nat → Nat → Int64)} {r : Int32} (h : g_20 n dp (z, kd, Rf) 0 I L i1 i2 i3 = some (r, I1, L1)) : Ct X d 20 0 0 [.ref 0, .int i1, .int i2, .int i3] (z, kd, I, L, Rf) (AI (fun x τ => x = r ∧ τ = (z, kd, I1, L1, Rf))) :=
  Ct_of mu_20 (Nat.le_of_ble_eq_true rfl) ((w_20 X hS n dp d hd I L i1 i2 i3 _ _ _) h)

/-! 24 CutFloor$Hall.ordersAboveZero()I -/
set_option maxHeartbeats 4000000 in
set_option maxRecDepth 100000 in
def g_24 : Nat → Nat → EN → Nat → (Nat → Nat → Int32) → (Nat → Nat → Int64) → Int32 → Int32 →  Option (Int32 × (Nat → Nat → Int32) × (Nat → Nat → Int64))
  | 0, _, _, _, _, _, _, _ => none
  | n + 1, dp, e, lab, I, L, i1, i2 =>
    if lab = 0 then (g_24 n dp e 1 I L (0 : Int32) (0 : Int32))
    else if lab = 1 then (if (10 : Int32) ≤ i2 then (some (i1, I, L)) else (if 0 ≤ ((20 : Int32) + i2) ∧ (Int32.toNatClampNeg ((20 : Int32) + i2)) < 30 then (if (I 4 (Int32.toNatClampNeg ((20 : Int32) + i2))) ≤ 0 then (g_24 n dp e 2 I L i1 i2) else (g_24 n dp e 2 I L (i1 + Int32.ofInt (1)) i2)) else none))
    else if lab = 2 then (g_24 n dp e 1 I L i1 (i2 + Int32.ofInt (1)))
    else none
set_option maxRecDepth 100000 in
theorem e_24_0 (n dp : Nat) (e : EN) (I : (Nat → Nat → Int32)) (L : (Nat → Nat → Int64)) (i1 : Int32) (i2 : Int32) : g_24 (n + 1) dp e 0 I L i1 i2 = (g_24 n dp e 1 I L (0 : Int32) (0 : Int32)) := by rw [g_24.eq_2, if_pos (show (0 : Nat) = 0 from rfl)]
set_option maxRecDepth 100000 in
theorem e_24_1 (n dp : Nat) (e : EN) (I : (Nat → Nat → Int32)) (L : (Nat → Nat → Int64)) (i1 : Int32) (i2 : Int32) : g_24 (n + 1) dp e 1 I L i1 i2 = (if (10 : Int32) ≤ i2 then (some (i1, I, L)) else (if 0 ≤ ((20 : Int32) + i2) ∧ (Int32.toNatClampNeg ((20 : Int32) + i2)) < 30 then (if (I 4 (Int32.toNatClampNeg ((20 : Int32) + i2))) ≤ 0 then (g_24 n dp e 2 I L i1 i2) else (g_24 n dp e 2 I L (i1 + Int32.ofInt (1)) i2)) else none)) := by rw [g_24.eq_2, if_neg (show ¬ ((1 : Nat) = 0) by decide), if_pos (show (1 : Nat) = 1 from rfl)]
set_option maxRecDepth 100000 in
theorem e_24_2 (n dp : Nat) (e : EN) (I : (Nat → Nat → Int32)) (L : (Nat → Nat → Int64)) (i1 : Int32) (i2 : Int32) : g_24 (n + 1) dp e 2 I L i1 i2 = (g_24 n dp e 1 I L i1 (i2 + Int32.ofInt (1))) := by rw [g_24.eq_2, if_neg (show ¬ ((2 : Nat) = 0) by decide), if_neg (show ¬ ((2 : Nat) = 1) by decide), if_pos (show (2 : Nat) = 2 from rfl)]
set_option maxHeartbeats 8000000 in
set_option maxRecDepth 100000 in
theorem w_24 (X : GX) {z : Nat} {kd : Nat → Nat × Nat} {Rf : Nat → Nat → Option Nat} (hS : Sh z kd Rf) : ∀ (n dp d : Nat), dp ≤ d → ∀ (I : (Nat → Nat → Int32)) (L : (Nat → Nat → Int64)) (i1 : Int32) (i2 : Int32) (r : Int32) (I1 : (Nat → Nat → Int32)) (L1 : (Nat → Nat → Int64)), (g_24 n dp (z, kd, Rf) 0 I L i1 i2 = some (r, I1, L1) → K X d 24 0 0 (AI (fun x τ => x = r ∧ τ = (z, kd, I1, L1, Rf))) 0 [some (.ref 1), none, none] [] (z, kd, I, L, Rf) 0 0) ∧
    (g_24 n dp (z, kd, Rf) 1 I L i1 i2 = some (r, I1, L1) → K X d 24 0 0 (AI (fun x τ => x = r ∧ τ = (z, kd, I1, L1, Rf))) 4 [some (.ref 1), some (.int i1), some (.int i2)] [] (z, kd, I, L, Rf) 0 0) ∧
    (g_24 n dp (z, kd, Rf) 2 I L i1 i2 = some (r, I1, L1) → K X d 24 0 0 (AI (fun x τ => x = r ∧ τ = (z, kd, I1, L1, Rf))) 25 [some (.ref 1), some (.int i1), some (.int i2)] [] (z, kd, I, L, Rf) 0 0) := by
  intro n
  induction n with
  | zero => intro dp d hdp I L i1 i2 r I1 L1; exact ⟨(fun h => by cases h), (fun h => by cases h), (fun h => by cases h)⟩
  | succ n ih =>
    intro dp d hdp I L i1 i2 r I1 L1
    refine ⟨?_, ?_, ?_⟩
    · intro h
      rw [e_24_0] at h
      refine K_of b_24_0 h_24_0 ?_
      refine q_iconst (0) (by decide) ?_
      refine q_istore (ls1 := [some (.ref 1), some (.int (0 : Int32)), none]) (Nat.le_of_ble_eq_true rfl) rfl ?_
      refine q_iconst (0) (by decide) ?_
      refine q_istore (ls1 := [some (.ref 1), some (.int (0 : Int32)), some (.int (0 : Int32))]) (Nat.le_of_ble_eq_true rfl) rfl ?_
      refine q_end ?_
      exact (ih dp d hdp _ _ (0 : Int32) (0 : Int32) _ _ _).2.1 h
    · intro h
      rw [e_24_1] at h
      refine K_of b_24_4 h_24_4 ?_
      refine q_iload rfl ?_
      refine q_iconst (10) (by decide) ?_
      refine q_icmp_ge (fun c_7 => ?_) (fun c_7 => ?_)
      · rw [if_pos c_7] at h
        refine K_of b_24_31 h_24_31 ?_
        refine q_iload rfl ?_
        cases h
        exact q_iret rfl (Nat.le_refl _) (Nat.le_refl _) ⟨rfl, rfl⟩
      · rw [if_neg c_7] at h
        refine q_aload rfl ?_
        refine q_getRs (c0 := 3) (j := 2) rfl rfl (zl hS 1 (by decide)) (sk hS 1 (by decide) rfl) rfl (by decide) (r_1_2 hS) ?_
        refine q_iconst (20) (by decide) ?_
        refine q_iload rfl ?_
        refine q_iadd ?_
        obtain ⟨⟨u_18, v_18⟩, h⟩ := ite_some h
        refine q_ialN (Int32.toNatClampNeg ((20 : Int32) + i2)) (nx u_18) (zl hS 4 (by decide)) (sk hS 4 (by decide) rfl) v_18 (by decide) ?_
        refine q_if_le (fun c_19 => ?_) (fun c_19 => ?_)
        · rw [if_pos c_19] at h
          exact (ih dp d hdp _ _ i1 i2 _ _ _).2.2 h
        · rw [if_neg c_19] at h
          refine q_iinc (ls1 := [some (.ref 1), some (.int (i1 + Int32.ofInt (1))), some (.int i2)]) rfl rfl ?_
          refine q_end ?_
          exact (ih dp d hdp _ _ (i1 + Int32.ofInt (1)) i2 _ _ _).2.2 h
    · intro h
      rw [e_24_2] at h
      refine K_of b_24_25 h_24_25 ?_
      refine q_iinc (ls1 := [some (.ref 1), some (.int i1), some (.int (i2 + Int32.ofInt (1)))]) rfl rfl ?_
      refine q_goto ?_
      exact (ih dp d hdp _ _ i1 (i2 + Int32.ofInt (1)) _ _ _).2.1 h
theorem a_24 (X : GX) {z : Nat} {kd : Nat → Nat × Nat} {Rf : Nat → Nat → Option Nat} (hS : Sh z kd Rf) {n dp d : Nat} (hd : dp ≤ d) {I : (Nat → Nat → Int32)} {L : (Nat → Nat → Int64)} {I1 : (Nat → Nat → Int32)} {L1 : (Nat → Nat → Int64)} {r : Int32} (h : g_24 n dp (z, kd, Rf) 0 I L 0 0 = some (r, I1, L1)) : Ct X d 24 0 0 [.ref 1] (z, kd, I, L, Rf) (AI (fun x τ => x = r ∧ τ = (z, kd, I1, L1, Rf))) :=
  Ct_of mu_24 (Nat.le_of_ble_eq_true rfl) ((w_24 X hS n dp d hd I L 0 0 _ _ _).1 h)

/-! 25 CutFloor$Planner.forgetPlans()V -/
set_option maxHeartbeats 4000000 in
set_option maxRecDepth 100000 in
def g_25 : Nat → Nat → EN → Nat → (Nat → Nat → Int32) → (Nat → Nat → Int64) →  Option ((Nat → Nat → Int32) × (Nat → Nat → Int64))
  | 0, _, _, _, _, _ => none
  | n + 1, dp, e, lab, I, L =>
    if lab = 0 then (stI (u2 I 24 14 (1 : Int32)) (fun I_2 => (stI (u2 I_2 24 15 (1 : Int32)) (fun I_7 => (stI (u2 I_7 24 12 ((I_7 24 12) + (1 : Int32))) (fun I_17 => (some (I_17, L))))))))
    else none
set_option maxRecDepth 100000 in
theorem e_25_0 (n dp : Nat) (e : EN) (I : (Nat → Nat → Int32)) (L : (Nat → Nat → Int64)) : g_25 (n + 1) dp e 0 I L = (stI (u2 I 24 14 (1 : Int32)) (fun I_2 => (stI (u2 I_2 24 15 (1 : Int32)) (fun I_7 => (stI (u2 I_7 24 12 ((I_7 24 12) + (1 : Int32))) (fun I_17 => (some (I_17, L)))))))) := by rw [g_25.eq_2, if_pos (show (0 : Nat) = 0 from rfl)]
set_option maxHeartbeats 8000000 in
set_option maxRecDepth 100000 in
theorem w_25 (X : GX) {z : Nat} {kd : Nat → Nat × Nat} {Rf : Nat → Nat → Option Nat} (hS : Sh z kd Rf) : ∀ (n dp d : Nat), dp ≤ d → ∀ (I : (Nat → Nat → Int32)) (L : (Nat → Nat → Int64)) (I1 : (Nat → Nat → Int32)) (L1 : (Nat → Nat → Int64)), (g_25 n dp (z, kd, Rf) 0 I L = some (I1, L1) → K X d 25 0 0 (AV (fun τ => τ = (z, kd, I1, L1, Rf))) 0 [some (.ref 24)] [] (z, kd, I, L, Rf) 0 0) := by
  intro n
  induction n with
  | zero => intro dp d hdp I L I1 L1; exact fun h => by cases h
  | succ n ih =>
    intro dp d hdp I L I1 L1
    · intro h
      rw [e_25_0] at h
      refine K_of b_25_0 h_25_0 ?_
      refine q_aload rfl ?_
      refine q_iconst (1) (by decide) ?_
      refine q_putZ (c0 := 7) (j := 14) rfl rfl (zl hS 24 (by decide)) (sk hS 24 (by decide) rfl) rfl (Or.inr rfl) ?_
      obtain ⟨I_2, nI_2, h⟩ := stI_some h
      refine q_nI nI_2 ?_
      refine q_aload rfl ?_
      refine q_iconst (1) (by decide) ?_
      refine q_putZ (c0 := 7) (j := 15) rfl rfl (zl hS 24 (by decide)) (sk hS 24 (by decide) rfl) rfl (Or.inr rfl) ?_
      obtain ⟨I_7, nI_7, h⟩ := stI_some h
      refine q_nI nI_7 ?_
      refine q_aload rfl ?_
      refine q_dup rfl ?_
      refine q_getI (c0 := 7) (j := 12) rfl rfl (zl hS 24 (by decide)) (sk hS 24 (by decide) rfl) (Or.inl rfl) (by decide) ?_
      refine q_iconst (1) (by decide) ?_
      refine q_iadd ?_
      refine q_putI (c0 := 7) (j := 12) rfl rfl (zl hS 24 (by decide)) (sk hS 24 (by decide) rfl) rfl ?_
      obtain ⟨I_17, nI_17, h⟩ := stI_some h
      refine q_nI nI_17 ?_
      cases h
      exact q_vret rfl (Nat.le_refl _) (Nat.le_refl _) rfl
theorem a_25 (X : GX) {z : Nat} {kd : Nat → Nat × Nat} {Rf : Nat → Nat → Option Nat} (hS : Sh z kd Rf) {n dp d : Nat} (hd : dp ≤ d) {I : (Nat → Nat → Int32)} {L : (Nat → Nat → Int64)} {I1 : (Nat → Nat → Int32)} {L1 : (Nat → Nat → Int64)} (h : g_25 n dp (z, kd, Rf) 0 I L = some (I1, L1)) : Ct X d 25 0 0 [.ref 24] (z, kd, I, L, Rf) (AV (fun τ => τ = (z, kd, I1, L1, Rf))) :=
  Ct_of mu_25 (Nat.le_of_ble_eq_true rfl) ((w_25 X hS n dp d hd I L _ _) h)

/-! 23 CutFloor.put(III)I -/
set_option maxHeartbeats 4000000 in
set_option maxRecDepth 100000 in
def g_23 : Nat → Nat → EN → Nat → (Nat → Nat → Int32) → (Nat → Nat → Int64) → Int32 → Int32 → Int32 → Int32 → Int32 →  Option (Int32 × (Nat → Nat → Int32) × (Nat → Nat → Int64))
  | 0, _, _, _, _, _, _, _, _, _, _ => none
  | n + 1, dp, e, lab, I, L, i1, i2, i3, i4, i5 =>
    if lab = 0 then (if 1 ≤ dp then (g_14 n (dp - 1) e 0 I L i1 (0 : Int32) (9 : Int32)).bind (fun ⟨x0_4, I0_4, L0_4⟩ => (if x0_4 = 0 then (if 1 ≤ dp then (g_15 n (dp - 1) e 0 I0_4 L0_4 (-1 : Int32)).bind (fun ⟨x1_42, I1_42, L1_42⟩ => (some (x1_42, I1_42, L1_42))) else none) else (if 1 ≤ dp then (g_14 n (dp - 1) e 0 I0_4 L0_4 i2 (0 : Int32) (2 : Int32)).bind (fun ⟨x1_13, I1_13, L1_13⟩ => (if x1_13 = 0 then (if 1 ≤ dp then (g_15 n (dp - 1) e 0 I1_13 L1_13 (-1 : Int32)).bind (fun ⟨x2_42, I2_42, L2_42⟩ => (some (x2_42, I2_42, L2_42))) else none) else (if i2 = (2 : Int32) then (if 1 ≤ dp then (g_14 n (dp - 1) e 0 I1_13 L1_13 i3 (0 : Int32) (8 : Int32)).bind (fun ⟨x2_34, I2_34, L2_34⟩ => (if x2_34 = 0 then (if 1 ≤ dp then (g_15 n (dp - 1) e 0 I2_34 L2_34 (-1 : Int32)).bind (fun ⟨x3_42, I3_42, L3_42⟩ => (some (x3_42, I3_42, L3_42))) else none) else (stI ((i2 * (10 : Int32)) + i1) (fun v_52 => (if 0 ≤ v_52 ∧ (Int32.toNatClampNeg v_52) < 30 then (stI (I2_34 4 (Int32.toNatClampNeg v_52)) (fun v_64 => (if i2 = (2 : Int32) then (if i3 ≤ 0 then (g_23 n dp e 1 I2_34 L2_34 i1 i2 i3 v_52 v_64) else (if v_64 = 0 then (if 1 ≤ dp then (g_24 n (dp - 1) e 0 I2_34 L2_34 0 0).bind (fun ⟨x3_84, I3_84, L3_84⟩ => (if x3_84 < (5 : Int32) then (g_23 n dp e 1 I3_84 L3_84 i1 i2 i3 v_52 v_64) else (if 1 ≤ dp then (g_15 n (dp - 1) e 0 I3_84 L3_84 (-3 : Int32)).bind (fun ⟨x4_94, I4_94, L4_94⟩ => (some (x4_94, I4_94, L4_94))) else none))) else none) else (g_23 n dp e 1 I2_34 L2_34 i1 i2 i3 v_52 v_64))) else (g_23 n dp e 1 I2_34 L2_34 i1 i2 i3 v_52 v_64)))) else none))))) else none) else (if 1 ≤ dp then (g_14 n (dp - 1) e 0 I1_13 L1_13 i3 (0 : Int32) (999 : Int32)).bind (fun ⟨x2_34, I2_34, L2_34⟩ => (if x2_34 = 0 then (if 1 ≤ dp then (g_15 n (dp - 1) e 0 I2_34 L2_34 (-1 : Int32)).bind (fun ⟨x3_42, I3_42, L3_42⟩ => (some (x3_42, I3_42, L3_42))) else none) else (stI ((i2 * (10 : Int32)) + i1) (fun v_52 => (if 0 ≤ v_52 ∧ (Int32.toNatClampNeg v_52) < 30 then (stI (I2_34 4 (Int32.toNatClampNeg v_52)) (fun v_64 => (if i2 = (2 : Int32) then (if i3 ≤ 0 then (g_23 n dp e 1 I2_34 L2_34 i1 i2 i3 v_52 v_64) else (if v_64 = 0 then (if 1 ≤ dp then (g_24 n (dp - 1) e 0 I2_34 L2_34 0 0).bind (fun ⟨x3_84, I3_84, L3_84⟩ => (if x3_84 < (5 : Int32) then (g_23 n dp e 1 I3_84 L3_84 i1 i2 i3 v_52 v_64) else (if 1 ≤ dp then (g_15 n (dp - 1) e 0 I3_84 L3_84 (-3 : Int32)).bind (fun ⟨x4_94, I4_94, L4_94⟩ => (some (x4_94, I4_94, L4_94))) else none))) else none) else (g_23 n dp e 1 I2_34 L2_34 i1 i2 i3 v_52 v_64))) else (g_23 n dp e 1 I2_34 L2_34 i1 i2 i3 v_52 v_64)))) else none))))) else none)))) else none))) else none)
    else if lab = 1 then (if 0 ≤ i4 ∧ (Int32.toNatClampNeg i4) < 30 then (stI (u2 I 4 (Int32.toNatClampNeg i4) i3) (fun I_108 => (if 1 ≤ dp then (g_25 n (dp - 1) e 0 I_108 L).bind (fun ⟨I0_113, L0_113⟩ => (if 1 ≤ dp then (g_18 n (dp - 1) e 0 I0_113 L0_113).bind (fun ⟨I1_120, L1_120⟩ => (if 1 ≤ dp then (g_19 n (dp - 1) e 0 I1_120 L1_120 i5).bind (fun ⟨x2_126, I2_126, L2_126⟩ => (some (x2_126, I2_126, L2_126))) else none)) else none)) else none))) else none)
    else none
set_option maxRecDepth 100000 in
theorem e_23_0 (n dp : Nat) (e : EN) (I : (Nat → Nat → Int32)) (L : (Nat → Nat → Int64)) (i1 : Int32) (i2 : Int32) (i3 : Int32) (i4 : Int32) (i5 : Int32) : g_23 (n + 1) dp e 0 I L i1 i2 i3 i4 i5 = (if 1 ≤ dp then (g_14 n (dp - 1) e 0 I L i1 (0 : Int32) (9 : Int32)).bind (fun ⟨x0_4, I0_4, L0_4⟩ => (if x0_4 = 0 then (if 1 ≤ dp then (g_15 n (dp - 1) e 0 I0_4 L0_4 (-1 : Int32)).bind (fun ⟨x1_42, I1_42, L1_42⟩ => (some (x1_42, I1_42, L1_42))) else none) else (if 1 ≤ dp then (g_14 n (dp - 1) e 0 I0_4 L0_4 i2 (0 : Int32) (2 : Int32)).bind (fun ⟨x1_13, I1_13, L1_13⟩ => (if x1_13 = 0 then (if 1 ≤ dp then (g_15 n (dp - 1) e 0 I1_13 L1_13 (-1 : Int32)).bind (fun ⟨x2_42, I2_42, L2_42⟩ => (some (x2_42, I2_42, L2_42))) else none) else (if i2 = (2 : Int32) then (if 1 ≤ dp then (g_14 n (dp - 1) e 0 I1_13 L1_13 i3 (0 : Int32) (8 : Int32)).bind (fun ⟨x2_34, I2_34, L2_34⟩ => (if x2_34 = 0 then (if 1 ≤ dp then (g_15 n (dp - 1) e 0 I2_34 L2_34 (-1 : Int32)).bind (fun ⟨x3_42, I3_42, L3_42⟩ => (some (x3_42, I3_42, L3_42))) else none) else (stI ((i2 * (10 : Int32)) + i1) (fun v_52 => (if 0 ≤ v_52 ∧ (Int32.toNatClampNeg v_52) < 30 then (stI (I2_34 4 (Int32.toNatClampNeg v_52)) (fun v_64 => (if i2 = (2 : Int32) then (if i3 ≤ 0 then (g_23 n dp e 1 I2_34 L2_34 i1 i2 i3 v_52 v_64) else (if v_64 = 0 then (if 1 ≤ dp then (g_24 n (dp - 1) e 0 I2_34 L2_34 0 0).bind (fun ⟨x3_84, I3_84, L3_84⟩ => (if x3_84 < (5 : Int32) then (g_23 n dp e 1 I3_84 L3_84 i1 i2 i3 v_52 v_64) else (if 1 ≤ dp then (g_15 n (dp - 1) e 0 I3_84 L3_84 (-3 : Int32)).bind (fun ⟨x4_94, I4_94, L4_94⟩ => (some (x4_94, I4_94, L4_94))) else none))) else none) else (g_23 n dp e 1 I2_34 L2_34 i1 i2 i3 v_52 v_64))) else (g_23 n dp e 1 I2_34 L2_34 i1 i2 i3 v_52 v_64)))) else none))))) else none) else (if 1 ≤ dp then (g_14 n (dp - 1) e 0 I1_13 L1_13 i3 (0 : Int32) (999 : Int32)).bind (fun ⟨x2_34, I2_34, L2_34⟩ => (if x2_34 = 0 then (if 1 ≤ dp then (g_15 n (dp - 1) e 0 I2_34 L2_34 (-1 : Int32)).bind (fun ⟨x3_42, I3_42, L3_42⟩ => (some (x3_42, I3_42, L3_42))) else none) else (stI ((i2 * (10 : Int32)) + i1) (fun v_52 => (if 0 ≤ v_52 ∧ (Int32.toNatClampNeg v_52) < 30 then (stI (I2_34 4 (Int32.toNatClampNeg v_52)) (fun v_64 => (if i2 = (2 : Int32) then (if i3 ≤ 0 then (g_23 n dp e 1 I2_34 L2_34 i1 i2 i3 v_52 v_64) else (if v_64 = 0 then (if 1 ≤ dp then (g_24 n (dp - 1) e 0 I2_34 L2_34 0 0).bind (fun ⟨x3_84, I3_84, L3_84⟩ => (if x3_84 < (5 : Int32) then (g_23 n dp e 1 I3_84 L3_84 i1 i2 i3 v_52 v_64) else (if 1 ≤ dp then (g_15 n (dp - 1) e 0 I3_84 L3_84 (-3 : Int32)).bind (fun ⟨x4_94, I4_94, L4_94⟩ => (some (x4_94, I4_94, L4_94))) else none))) else none) else (g_23 n dp e 1 I2_34 L2_34 i1 i2 i3 v_52 v_64))) else (g_23 n dp e 1 I2_34 L2_34 i1 i2 i3 v_52 v_64)))) else none))))) else none)))) else none))) else none) := by rw [g_23.eq_2, if_pos (show (0 : Nat) = 0 from rfl)]
set_option maxRecDepth 100000 in
theorem e_23_1 (n dp : Nat) (e : EN) (I : (Nat → Nat → Int32)) (L : (Nat → Nat → Int64)) (i1 : Int32) (i2 : Int32) (i3 : Int32) (i4 : Int32) (i5 : Int32) : g_23 (n + 1) dp e 1 I L i1 i2 i3 i4 i5 = (if 0 ≤ i4 ∧ (Int32.toNatClampNeg i4) < 30 then (stI (u2 I 4 (Int32.toNatClampNeg i4) i3) (fun I_108 => (if 1 ≤ dp then (g_25 n (dp - 1) e 0 I_108 L).bind (fun ⟨I0_113, L0_113⟩ => (if 1 ≤ dp then (g_18 n (dp - 1) e 0 I0_113 L0_113).bind (fun ⟨I1_120, L1_120⟩ => (if 1 ≤ dp then (g_19 n (dp - 1) e 0 I1_120 L1_120 i5).bind (fun ⟨x2_126, I2_126, L2_126⟩ => (some (x2_126, I2_126, L2_126))) else none)) else none)) else none))) else none) := by rw [g_23.eq_2, if_neg (show ¬ ((1 : Nat) = 0) by decide), if_pos (show (1 : Nat) = 1 from rfl)]
set_option maxHeartbeats 8000000 in
set_option maxRecDepth 100000 in
theorem w_23 (X : GX) {z : Nat} {kd : Nat → Nat × Nat} {Rf : Nat → Nat → Option Nat} (hS : Sh z kd Rf) : ∀ (n dp d : Nat), dp ≤ d → ∀ (I : (Nat → Nat → Int32)) (L : (Nat → Nat → Int64)) (i1 : Int32) (i2 : Int32) (i3 : Int32) (i4 : Int32) (i5 : Int32) (r : Int32) (I1 : (Nat → Nat → Int32)) (L1 : (Nat → Nat → Int64)), (g_23 n dp (z, kd, Rf) 0 I L i1 i2 i3 i4 i5 = some (r, I1, L1) → K X d 23 0 0 (AI (fun x τ => x = r ∧ τ = (z, kd, I1, L1, Rf))) 0 [some (.ref 0), some (.int i1), some (.int i2), some (.int i3), none, none] [] (z, kd, I, L, Rf) 0 0) ∧
    (g_23 n dp (z, kd, Rf) 1 I L i1 i2 i3 i4 i5 = some (r, I1, L1) → K X d 23 0 0 (AI (fun x τ => x = r ∧ τ = (z, kd, I1, L1, Rf))) 98 [some (.ref 0), some (.int i1), some (.int i2), some (.int i3), some (.int i4), some (.int i5)] [] (z, kd, I, L, Rf) 0 0) := by
  intro n
  induction n with
  | zero => intro dp d hdp I L i1 i2 i3 i4 i5 r I1 L1; exact ⟨(fun h => by cases h), (fun h => by cases h)⟩
  | succ n ih =>
    intro dp d hdp I L i1 i2 i3 i4 i5 r I1 L1
    refine ⟨?_, ?_⟩
    · intro h
      rw [e_23_0] at h
      refine K_of b_23_0 h_23_0 ?_
      refine q_iload rfl ?_
      refine q_iconst (0) (by decide) ?_
      refine q_iconst (9) (by decide) ?_
      obtain ⟨d_4, h⟩ := ite_some h
      obtain ⟨⟨x0_4, I0_4, L0_4⟩, e_4, h⟩ := Option.bind_eq_some_iff.mp h
      dsimp only at h
      refine q_fs3I (a_14 X hS (d := d - 1) (by omega) e_4) (by omega) (Nat.le_refl _) (Nat.le_refl _) rfl (Nat.le_of_ble_eq_true rfl) ?_
      refine q_if_eq (fun c_7 => ?_) (fun c_7 => ?_)
      · rw [if_pos c_7] at h
        refine K_of b_23_40 h_23_40 ?_
        refine q_aload rfl ?_
        refine q_iconst (-1) (by decide) ?_
        obtain ⟨d_42, h⟩ := ite_some h
        obtain ⟨⟨x1_42, I1_42, L1_42⟩, e_42, h⟩ := Option.bind_eq_some_iff.mp h
        dsimp only at h
        refine q_fv2I (a_15 X hS (d := d - 1) (by omega) e_42) (by omega) (Nat.le_refl _) (Nat.le_refl _) rfl (Nat.le_of_ble_eq_true rfl) ⟨(zl hS 0 (by decide)), congrArg Prod.fst (sk hS 0 (by decide) rfl), by decide⟩ ?_
        cases h
        exact q_iret rfl (Nat.le_refl _) (Nat.le_refl _) ⟨rfl, rfl⟩
      · rw [if_neg c_7] at h
        refine q_iload rfl ?_
        refine q_iconst (0) (by decide) ?_
        refine q_iconst (2) (by decide) ?_
        obtain ⟨d_13, h⟩ := ite_some h
        obtain ⟨⟨x1_13, I1_13, L1_13⟩, e_13, h⟩ := Option.bind_eq_some_iff.mp h
        dsimp only at h
        refine q_fs3I (a_14 X hS (d := d - 1) (by omega) e_13) (by omega) (Nat.le_refl _) (Nat.le_refl _) rfl (Nat.le_of_ble_eq_true rfl) ?_
        refine q_if_eq (fun c_16 => ?_) (fun c_16 => ?_)
        · rw [if_pos c_16] at h
          refine K_of b_23_40 h_23_40 ?_
          refine q_aload rfl ?_
          refine q_iconst (-1) (by decide) ?_
          obtain ⟨d_42, h⟩ := ite_some h
          obtain ⟨⟨x2_42, I2_42, L2_42⟩, e_42, h⟩ := Option.bind_eq_some_iff.mp h
          dsimp only at h
          refine q_fv2I (a_15 X hS (d := d - 1) (by omega) e_42) (by omega) (Nat.le_refl _) (Nat.le_refl _) rfl (Nat.le_of_ble_eq_true rfl) ⟨(zl hS 0 (by decide)), congrArg Prod.fst (sk hS 0 (by decide) rfl), by decide⟩ ?_
          cases h
          exact q_iret rfl (Nat.le_refl _) (Nat.le_refl _) ⟨rfl, rfl⟩
        · rw [if_neg c_16] at h
          refine q_iload rfl ?_
          refine q_iconst (0) (by decide) ?_
          refine q_iload rfl ?_
          refine q_iconst (2) (by decide) ?_
          refine q_icmp_ne (fun c_23 => ?_) (fun c_23 => ?_)
          · rw [if_neg c_23] at h
            refine K_of b_23_31 h_23_31 ?_
            refine q_iconst (999) (by decide) ?_
            refine q_end ?_
            refine K_of b_23_34 h_23_34 ?_
            obtain ⟨d_34, h⟩ := ite_some h
            obtain ⟨⟨x2_34, I2_34, L2_34⟩, e_34, h⟩ := Option.bind_eq_some_iff.mp h
            dsimp only at h
            refine q_fs3I (a_14 X hS (d := d - 1) (by omega) e_34) (by omega) (Nat.le_refl _) (Nat.le_refl _) rfl (Nat.le_of_ble_eq_true rfl) ?_
            refine q_if_ne (fun c_37 => ?_) (fun c_37 => ?_)
            · rw [if_neg c_37] at h
              refine K_of b_23_46 h_23_46 ?_
              refine q_iload rfl ?_
              refine q_iconst (10) (by decide) ?_
              refine q_imul ?_
              refine q_iload rfl ?_
              refine q_iadd ?_
              obtain ⟨v_52, nv_52, h⟩ := stI_some h
              refine q_eqi nv_52.symm ?_
              refine q_istore (ls1 := [some (.ref 0), some (.int i1), some (.int i2), some (.int i3), some (.int v_52), none]) (Nat.le_of_ble_eq_true rfl) rfl ?_
              refine q_aload rfl ?_
              refine q_getRs (c0 := 11) (j := 0) rfl rfl (zl hS 0 (by decide)) (sk hS 0 (by decide) rfl) rfl (by decide) (r_0_0 hS) ?_
              refine q_getRs (c0 := 3) (j := 2) rfl rfl (zl hS 1 (by decide)) (sk hS 1 (by decide) rfl) rfl (by decide) (r_1_2 hS) ?_
              refine q_iload rfl ?_
              obtain ⟨⟨u_63, v_63⟩, h⟩ := ite_some h
              refine q_ialN (Int32.toNatClampNeg v_52) (nx u_63) (zl hS 4 (by decide)) (sk hS 4 (by decide) rfl) v_63 (by decide) ?_
              obtain ⟨v_64, nv_64, h⟩ := stI_some h
              refine q_eqi nv_64.symm ?_
              refine q_istore (ls1 := [some (.ref 0), some (.int i1), some (.int i2), some (.int i3), some (.int v_52), some (.int v_64)]) (Nat.le_of_ble_eq_true rfl) rfl ?_
              refine q_iload rfl ?_
              refine q_iconst (2) (by decide) ?_
              refine q_icmp_ne (fun c_68 => ?_) (fun c_68 => ?_)
              · rw [if_neg c_68] at h
                exact (ih dp d hdp _ _ i1 i2 i3 v_52 v_64 _ _ _).2 h
              · rw [if_pos c_68] at h
                refine q_iload rfl ?_
                refine q_if_le (fun c_72 => ?_) (fun c_72 => ?_)
                · rw [if_pos c_72] at h
                  exact (ih dp d hdp _ _ i1 i2 i3 v_52 v_64 _ _ _).2 h
                · rw [if_neg c_72] at h
                  refine q_iload rfl ?_
                  refine q_if_ne (fun c_77 => ?_) (fun c_77 => ?_)
                  · rw [if_neg c_77] at h
                    exact (ih dp d hdp _ _ i1 i2 i3 v_52 v_64 _ _ _).2 h
                  · rw [if_pos c_77] at h
                    refine q_aload rfl ?_
                    refine q_getRs (c0 := 11) (j := 0) rfl rfl (zl hS 0 (by decide)) (sk hS 0 (by decide) rfl) rfl (by decide) (r_0_0 hS) ?_
                    obtain ⟨d_84, h⟩ := ite_some h
                    obtain ⟨⟨x3_84, I3_84, L3_84⟩, e_84, h⟩ := Option.bind_eq_some_iff.mp h
                    dsimp only at h
                    refine q_fv1I (a_24 X hS (d := d - 1) (by omega) e_84) (by omega) (Nat.le_refl _) (Nat.le_refl _) rfl (Nat.le_of_ble_eq_true rfl) ⟨(zl hS 1 (by decide)), congrArg Prod.fst (sk hS 1 (by decide) rfl), by decide⟩ ?_
                    refine q_iconst (5) (by decide) ?_
                    refine q_icmp_lt (fun c_88 => ?_) (fun c_88 => ?_)
                    · rw [if_pos c_88] at h
                      exact (ih dp d hdp _ _ i1 i2 i3 v_52 v_64 _ _ _).2 h
                    · rw [if_neg c_88] at h
                      refine q_aload rfl ?_
                      refine q_iconst (-3) (by decide) ?_
                      obtain ⟨d_94, h⟩ := ite_some h
                      obtain ⟨⟨x4_94, I4_94, L4_94⟩, e_94, h⟩ := Option.bind_eq_some_iff.mp h
                      dsimp only at h
                      refine q_fv2I (a_15 X hS (d := d - 1) (by omega) e_94) (by omega) (Nat.le_refl _) (Nat.le_refl _) rfl (Nat.le_of_ble_eq_true rfl) ⟨(zl hS 0 (by decide)), congrArg Prod.fst (sk hS 0 (by decide) rfl), by decide⟩ ?_
                      cases h
                      exact q_iret rfl (Nat.le_refl _) (Nat.le_refl _) ⟨rfl, rfl⟩
            · rw [if_pos c_37] at h
              refine q_end ?_
              refine K_of b_23_40 h_23_40 ?_
              refine q_aload rfl ?_
              refine q_iconst (-1) (by decide) ?_
              obtain ⟨d_42, h⟩ := ite_some h
              obtain ⟨⟨x3_42, I3_42, L3_42⟩, e_42, h⟩ := Option.bind_eq_some_iff.mp h
              dsimp only at h
              refine q_fv2I (a_15 X hS (d := d - 1) (by omega) e_42) (by omega) (Nat.le_refl _) (Nat.le_refl _) rfl (Nat.le_of_ble_eq_true rfl) ⟨(zl hS 0 (by decide)), congrArg Prod.fst (sk hS 0 (by decide) rfl), by decide⟩ ?_
              cases h
              exact q_iret rfl (Nat.le_refl _) (Nat.le_refl _) ⟨rfl, rfl⟩
          · rw [if_pos c_23] at h
            refine q_iconst (8) (by decide) ?_
            refine q_goto ?_
            refine K_of b_23_34 h_23_34 ?_
            obtain ⟨d_34, h⟩ := ite_some h
            obtain ⟨⟨x2_34, I2_34, L2_34⟩, e_34, h⟩ := Option.bind_eq_some_iff.mp h
            dsimp only at h
            refine q_fs3I (a_14 X hS (d := d - 1) (by omega) e_34) (by omega) (Nat.le_refl _) (Nat.le_refl _) rfl (Nat.le_of_ble_eq_true rfl) ?_
            refine q_if_ne (fun c_37 => ?_) (fun c_37 => ?_)
            · rw [if_neg c_37] at h
              refine K_of b_23_46 h_23_46 ?_
              refine q_iload rfl ?_
              refine q_iconst (10) (by decide) ?_
              refine q_imul ?_
              refine q_iload rfl ?_
              refine q_iadd ?_
              obtain ⟨v_52, nv_52, h⟩ := stI_some h
              refine q_eqi nv_52.symm ?_
              refine q_istore (ls1 := [some (.ref 0), some (.int i1), some (.int i2), some (.int i3), some (.int v_52), none]) (Nat.le_of_ble_eq_true rfl) rfl ?_
              refine q_aload rfl ?_
              refine q_getRs (c0 := 11) (j := 0) rfl rfl (zl hS 0 (by decide)) (sk hS 0 (by decide) rfl) rfl (by decide) (r_0_0 hS) ?_
              refine q_getRs (c0 := 3) (j := 2) rfl rfl (zl hS 1 (by decide)) (sk hS 1 (by decide) rfl) rfl (by decide) (r_1_2 hS) ?_
              refine q_iload rfl ?_
              obtain ⟨⟨u_63, v_63⟩, h⟩ := ite_some h
              refine q_ialN (Int32.toNatClampNeg v_52) (nx u_63) (zl hS 4 (by decide)) (sk hS 4 (by decide) rfl) v_63 (by decide) ?_
              obtain ⟨v_64, nv_64, h⟩ := stI_some h
              refine q_eqi nv_64.symm ?_
              refine q_istore (ls1 := [some (.ref 0), some (.int i1), some (.int i2), some (.int i3), some (.int v_52), some (.int v_64)]) (Nat.le_of_ble_eq_true rfl) rfl ?_
              refine q_iload rfl ?_
              refine q_iconst (2) (by decide) ?_
              refine q_icmp_ne (fun c_68 => ?_) (fun c_68 => ?_)
              · rw [if_neg c_68] at h
                exact (ih dp d hdp _ _ i1 i2 i3 v_52 v_64 _ _ _).2 h
              · rw [if_pos c_68] at h
                refine q_iload rfl ?_
                refine q_if_le (fun c_72 => ?_) (fun c_72 => ?_)
                · rw [if_pos c_72] at h
                  exact (ih dp d hdp _ _ i1 i2 i3 v_52 v_64 _ _ _).2 h
                · rw [if_neg c_72] at h
                  refine q_iload rfl ?_
                  refine q_if_ne (fun c_77 => ?_) (fun c_77 => ?_)
                  · rw [if_neg c_77] at h
                    exact (ih dp d hdp _ _ i1 i2 i3 v_52 v_64 _ _ _).2 h
                  · rw [if_pos c_77] at h
                    refine q_aload rfl ?_
                    refine q_getRs (c0 := 11) (j := 0) rfl rfl (zl hS 0 (by decide)) (sk hS 0 (by decide) rfl) rfl (by decide) (r_0_0 hS) ?_
                    obtain ⟨d_84, h⟩ := ite_some h
                    obtain ⟨⟨x3_84, I3_84, L3_84⟩, e_84, h⟩ := Option.bind_eq_some_iff.mp h
                    dsimp only at h
                    refine q_fv1I (a_24 X hS (d := d - 1) (by omega) e_84) (by omega) (Nat.le_refl _) (Nat.le_refl _) rfl (Nat.le_of_ble_eq_true rfl) ⟨(zl hS 1 (by decide)), congrArg Prod.fst (sk hS 1 (by decide) rfl), by decide⟩ ?_
                    refine q_iconst (5) (by decide) ?_
                    refine q_icmp_lt (fun c_88 => ?_) (fun c_88 => ?_)
                    · rw [if_pos c_88] at h
                      exact (ih dp d hdp _ _ i1 i2 i3 v_52 v_64 _ _ _).2 h
                    · rw [if_neg c_88] at h
                      refine q_aload rfl ?_
                      refine q_iconst (-3) (by decide) ?_
                      obtain ⟨d_94, h⟩ := ite_some h
                      obtain ⟨⟨x4_94, I4_94, L4_94⟩, e_94, h⟩ := Option.bind_eq_some_iff.mp h
                      dsimp only at h
                      refine q_fv2I (a_15 X hS (d := d - 1) (by omega) e_94) (by omega) (Nat.le_refl _) (Nat.le_refl _) rfl (Nat.le_of_ble_eq_true rfl) ⟨(zl hS 0 (by decide)), congrArg Prod.fst (sk hS 0 (by decide) rfl), by decide⟩ ?_
                      cases h
                      exact q_iret rfl (Nat.le_refl _) (Nat.le_refl _) ⟨rfl, rfl⟩
            · rw [if_pos c_37] at h
              refine q_end ?_
              refine K_of b_23_40 h_23_40 ?_
              refine q_aload rfl ?_
              refine q_iconst (-1) (by decide) ?_
              obtain ⟨d_42, h⟩ := ite_some h
              obtain ⟨⟨x3_42, I3_42, L3_42⟩, e_42, h⟩ := Option.bind_eq_some_iff.mp h
              dsimp only at h
              refine q_fv2I (a_15 X hS (d := d - 1) (by omega) e_42) (by omega) (Nat.le_refl _) (Nat.le_refl _) rfl (Nat.le_of_ble_eq_true rfl) ⟨(zl hS 0 (by decide)), congrArg Prod.fst (sk hS 0 (by decide) rfl), by decide⟩ ?_
              cases h
              exact q_iret rfl (Nat.le_refl _) (Nat.le_refl _) ⟨rfl, rfl⟩
    · intro h
      rw [e_23_1] at h
      refine K_of b_23_98 h_23_98 ?_
      refine q_aload rfl ?_
      refine q_getRs (c0 := 11) (j := 0) rfl rfl (zl hS 0 (by decide)) (sk hS 0 (by decide) rfl) rfl (by decide) (r_0_0 hS) ?_
      refine q_getRs (c0 := 3) (j := 2) rfl rfl (zl hS 1 (by decide)) (sk hS 1 (by decide) rfl) rfl (by decide) (r_1_2 hS) ?_
      refine q_iload rfl ?_
      refine q_iload rfl ?_
      obtain ⟨⟨u_108, v_108⟩, h⟩ := ite_some h
      refine q_iasN (Int32.toNatClampNeg i4) (nx u_108) (zl hS 4 (by decide)) (sk hS 4 (by decide) rfl) v_108 (by decide) ?_
      obtain ⟨I_108, nI_108, h⟩ := stI_some h
      refine q_nI nI_108 ?_
      refine q_aload rfl ?_
      refine q_getRs (c0 := 11) (j := 3) rfl rfl (zl hS 0 (by decide)) (sk hS 0 (by decide) rfl) rfl (by decide) (r_0_3 hS) ?_
      obtain ⟨d_113, h⟩ := ite_some h
      obtain ⟨⟨I0_113, L0_113⟩, e_113, h⟩ := Option.bind_eq_some_iff.mp h
      dsimp only at h
      refine q_fv1V (a_25 X hS (d := d - 1) (by omega) e_113) (by omega) (Nat.le_refl _) (Nat.le_refl _) rfl (Nat.le_of_ble_eq_true rfl) ⟨(zl hS 24 (by decide)), congrArg Prod.fst (sk hS 24 (by decide) rfl), by decide⟩ ?_
      refine q_aload rfl ?_
      refine q_getRs (c0 := 11) (j := 4) rfl rfl (zl hS 0 (by decide)) (sk hS 0 (by decide) rfl) rfl (by decide) (r_0_4 hS) ?_
      obtain ⟨d_120, h⟩ := ite_some h
      obtain ⟨⟨I1_120, L1_120⟩, e_120, h⟩ := Option.bind_eq_some_iff.mp h
      dsimp only at h
      refine q_fv1V (a_18 X hS (d := d - 1) (by omega) e_120) (by omega) (Nat.le_refl _) (Nat.le_refl _) rfl (Nat.le_of_ble_eq_true rfl) ⟨(zl hS 73 (by decide)), congrArg Prod.fst (sk hS 73 (by decide) rfl), by decide⟩ ?_
      refine q_aload rfl ?_
      refine q_iload rfl ?_
      obtain ⟨d_126, h⟩ := ite_some h
      obtain ⟨⟨x2_126, I2_126, L2_126⟩, e_126, h⟩ := Option.bind_eq_some_iff.mp h
      dsimp only at h
      refine q_fv2I (a_19 X hS (d := d - 1) (by omega) e_126) (by omega) (Nat.le_refl _) (Nat.le_refl _) rfl (Nat.le_of_ble_eq_true rfl) ⟨(zl hS 0 (by decide)), congrArg Prod.fst (sk hS 0 (by decide) rfl), by decide⟩ ?_
      cases h
      exact q_iret rfl (Nat.le_refl _) (Nat.le_refl _) ⟨rfl, rfl⟩
theorem a_23 (X : GX) {z : Nat} {kd : Nat → Nat × Nat} {Rf : Nat → Nat → Option Nat} (hS : Sh z kd Rf) {n dp d : Nat} (hd : dp ≤ d) {I : (Nat → Nat → Int32)} {L : (Nat → Nat → Int64)} {i1 : Int32} {i2 : Int32} {i3 : Int32} {I1 : (Nat → Nat → Int32)} {L1 : (Nat → Nat → Int64)} {r : Int32} (h : g_23 n dp (z, kd, Rf) 0 I L i1 i2 i3 0 0 = some (r, I1, L1)) : Ct X d 23 0 0 [.ref 0, .int i1, .int i2, .int i3] (z, kd, I, L, Rf) (AI (fun x τ => x = r ∧ τ = (z, kd, I1, L1, Rf))) :=
  Ct_of mu_23 (Nat.le_of_ble_eq_true rfl) ((w_23 X hS n dp d hd I L i1 i2 i3 0 0 _ _ _).1 h)

/-! 26 CutFloor.man(I)I -/
set_option maxHeartbeats 4000000 in
set_option maxRecDepth 100000 in
def g_26 : Nat → Nat → EN → Nat → (Nat → Nat → Int32) → (Nat → Nat → Int64) → Int32 →  Option (Int32 × (Nat → Nat → Int32) × (Nat → Nat → Int64))
  | 0, _, _, _, _, _, _ => none
  | n + 1, dp, e, lab, I, L, i1 =>
    if lab = 0 then (if 1 ≤ dp then (g_14 n (dp - 1) e 0 I L i1 (0 : Int32) (15 : Int32)).bind (fun ⟨x0_4, I0_4, L0_4⟩ => (if x0_4 = 0 then (if 1 ≤ dp then (g_15 n (dp - 1) e 0 I0_4 L0_4 (-1 : Int32)).bind (fun ⟨x1_12, I1_12, L1_12⟩ => (some (x1_12, I1_12, L1_12))) else none) else (if (I0_4 1 8) < (4 : Int32) then (if 0 ≤ (I0_4 1 8) ∧ (Int32.toNatClampNeg (I0_4 1 8)) < 4 then (stI (u2 I0_4 5 (Int32.toNatClampNeg (I0_4 1 8)) i1) (fun I_45 => (stI (u2 I_45 1 8 ((I0_4 1 8) + (1 : Int32))) (fun I_53 => (if 1 ≤ dp then (g_18 n (dp - 1) e 0 I_53 L0_4).bind (fun ⟨I1_60, L1_60⟩ => (if 1 ≤ dp then (g_19 n (dp - 1) e 0 I1_60 L1_60 (I0_4 1 8)).bind (fun ⟨x2_65, I2_65, L2_65⟩ => (some (x2_65, I2_65, L2_65))) else none)) else none))))) else none) else (if 1 ≤ dp then (g_15 n (dp - 1) e 0 I0_4 L0_4 (-5 : Int32)).bind (fun ⟨x1_32, I1_32, L1_32⟩ => (some (x1_32, I1_32, L1_32))) else none)))) else none)
    else none
set_option maxRecDepth 100000 in
theorem e_26_0 (n dp : Nat) (e : EN) (I : (Nat → Nat → Int32)) (L : (Nat → Nat → Int64)) (i1 : Int32) : g_26 (n + 1) dp e 0 I L i1 = (if 1 ≤ dp then (g_14 n (dp - 1) e 0 I L i1 (0 : Int32) (15 : Int32)).bind (fun ⟨x0_4, I0_4, L0_4⟩ => (if x0_4 = 0 then (if 1 ≤ dp then (g_15 n (dp - 1) e 0 I0_4 L0_4 (-1 : Int32)).bind (fun ⟨x1_12, I1_12, L1_12⟩ => (some (x1_12, I1_12, L1_12))) else none) else (if (I0_4 1 8) < (4 : Int32) then (if 0 ≤ (I0_4 1 8) ∧ (Int32.toNatClampNeg (I0_4 1 8)) < 4 then (stI (u2 I0_4 5 (Int32.toNatClampNeg (I0_4 1 8)) i1) (fun I_45 => (stI (u2 I_45 1 8 ((I0_4 1 8) + (1 : Int32))) (fun I_53 => (if 1 ≤ dp then (g_18 n (dp - 1) e 0 I_53 L0_4).bind (fun ⟨I1_60, L1_60⟩ => (if 1 ≤ dp then (g_19 n (dp - 1) e 0 I1_60 L1_60 (I0_4 1 8)).bind (fun ⟨x2_65, I2_65, L2_65⟩ => (some (x2_65, I2_65, L2_65))) else none)) else none))))) else none) else (if 1 ≤ dp then (g_15 n (dp - 1) e 0 I0_4 L0_4 (-5 : Int32)).bind (fun ⟨x1_32, I1_32, L1_32⟩ => (some (x1_32, I1_32, L1_32))) else none)))) else none) := by rw [g_26.eq_2, if_pos (show (0 : Nat) = 0 from rfl)]
set_option maxHeartbeats 8000000 in
set_option maxRecDepth 100000 in
theorem w_26 (X : GX) {z : Nat} {kd : Nat → Nat × Nat} {Rf : Nat → Nat → Option Nat} (hS : Sh z kd Rf) : ∀ (n dp d : Nat), dp ≤ d → ∀ (I : (Nat → Nat → Int32)) (L : (Nat → Nat → Int64)) (i1 : Int32) (r : Int32) (I1 : (Nat → Nat → Int32)) (L1 : (Nat → Nat → Int64)), (g_26 n dp (z, kd, Rf) 0 I L i1 = some (r, I1, L1) → K X d 26 0 0 (AI (fun x τ => x = r ∧ τ = (z, kd, I1, L1, Rf))) 0 [some (.ref 0), some (.int i1), none] [] (z, kd, I, L, Rf) 0 0) := by
  intro n
  induction n with
  | zero => intro dp d hdp I L i1 r I1 L1; exact fun h => by cases h
  | succ n ih =>
    intro dp d hdp I L i1 r I1 L1
    · intro h
      rw [e_26_0] at h
      refine K_of b_26_0 h_26_0 ?_
      refine q_iload rfl ?_
      refine q_iconst (0) (by decide) ?_
      refine q_iconst (15) (by decide) ?_
      obtain ⟨d_4, h⟩ := ite_some h
      obtain ⟨⟨x0_4, I0_4, L0_4⟩, e_4, h⟩ := Option.bind_eq_some_iff.mp h
      dsimp only at h
      refine q_fs3I (a_14 X hS (d := d - 1) (by omega) e_4) (by omega) (Nat.le_refl _) (Nat.le_refl _) rfl (Nat.le_of_ble_eq_true rfl) ?_
      refine q_if_ne (fun c_7 => ?_) (fun c_7 => ?_)
      · rw [if_neg c_7] at h
        refine K_of b_26_16 h_26_16 ?_
        refine q_aload rfl ?_
        refine q_getRs (c0 := 11) (j := 0) rfl rfl (zl hS 0 (by decide)) (sk hS 0 (by decide) rfl) rfl (by decide) (r_0_0 hS) ?_
        refine q_getI (c0 := 3) (j := 8) rfl rfl (zl hS 1 (by decide)) (sk hS 1 (by decide) rfl) (Or.inl rfl) (by decide) ?_
        refine q_istore (ls1 := [some (.ref 0), some (.int i1), some (.int (I0_4 1 8))]) (Nat.le_of_ble_eq_true rfl) rfl ?_
        refine q_iload rfl ?_
        refine q_iconst (4) (by decide) ?_
        refine q_icmp_lt (fun c_26 => ?_) (fun c_26 => ?_)
        · rw [if_pos c_26] at h
          refine K_of b_26_36 h_26_36 ?_
          refine q_aload rfl ?_
          refine q_getRs (c0 := 11) (j := 0) rfl rfl (zl hS 0 (by decide)) (sk hS 0 (by decide) rfl) rfl (by decide) (r_0_0 hS) ?_
          refine q_getRs (c0 := 3) (j := 3) rfl rfl (zl hS 1 (by decide)) (sk hS 1 (by decide) rfl) rfl (by decide) (r_1_3 hS) ?_
          refine q_iload rfl ?_
          refine q_iload rfl ?_
          obtain ⟨⟨u_45, v_45⟩, h⟩ := ite_some h
          refine q_iasN (Int32.toNatClampNeg (I0_4 1 8)) (nx u_45) (zl hS 5 (by decide)) (sk hS 5 (by decide) rfl) v_45 (by decide) ?_
          obtain ⟨I_45, nI_45, h⟩ := stI_some h
          refine q_nI nI_45 ?_
          refine q_aload rfl ?_
          refine q_getRs (c0 := 11) (j := 0) rfl rfl (zl hS 0 (by decide)) (sk hS 0 (by decide) rfl) rfl (by decide) (r_0_0 hS) ?_
          refine q_iload rfl ?_
          refine q_iconst (1) (by decide) ?_
          refine q_iadd ?_
          refine q_putI (c0 := 3) (j := 8) rfl rfl (zl hS 1 (by decide)) (sk hS 1 (by decide) rfl) rfl ?_
          obtain ⟨I_53, nI_53, h⟩ := stI_some h
          refine q_nI nI_53 ?_
          refine q_aload rfl ?_
          refine q_getRs (c0 := 11) (j := 4) rfl rfl (zl hS 0 (by decide)) (sk hS 0 (by decide) rfl) rfl (by decide) (r_0_4 hS) ?_
          obtain ⟨d_60, h⟩ := ite_some h
          obtain ⟨⟨I1_60, L1_60⟩, e_60, h⟩ := Option.bind_eq_some_iff.mp h
          dsimp only at h
          refine q_fv1V (a_18 X hS (d := d - 1) (by omega) e_60) (by omega) (Nat.le_refl _) (Nat.le_refl _) rfl (Nat.le_of_ble_eq_true rfl) ⟨(zl hS 73 (by decide)), congrArg Prod.fst (sk hS 73 (by decide) rfl), by decide⟩ ?_
          refine q_aload rfl ?_
          refine q_iload rfl ?_
          obtain ⟨d_65, h⟩ := ite_some h
          obtain ⟨⟨x2_65, I2_65, L2_65⟩, e_65, h⟩ := Option.bind_eq_some_iff.mp h
          dsimp only at h
          refine q_fv2I (a_19 X hS (d := d - 1) (by omega) e_65) (by omega) (Nat.le_refl _) (Nat.le_refl _) rfl (Nat.le_of_ble_eq_true rfl) ⟨(zl hS 0 (by decide)), congrArg Prod.fst (sk hS 0 (by decide) rfl), by decide⟩ ?_
          cases h
          exact q_iret rfl (Nat.le_refl _) (Nat.le_refl _) ⟨rfl, rfl⟩
        · rw [if_neg c_26] at h
          refine q_aload rfl ?_
          refine q_iconst (-5) (by decide) ?_
          obtain ⟨d_32, h⟩ := ite_some h
          obtain ⟨⟨x1_32, I1_32, L1_32⟩, e_32, h⟩ := Option.bind_eq_some_iff.mp h
          dsimp only at h
          refine q_fv2I (a_15 X hS (d := d - 1) (by omega) e_32) (by omega) (Nat.le_refl _) (Nat.le_refl _) rfl (Nat.le_of_ble_eq_true rfl) ⟨(zl hS 0 (by decide)), congrArg Prod.fst (sk hS 0 (by decide) rfl), by decide⟩ ?_
          cases h
          exact q_iret rfl (Nat.le_refl _) (Nat.le_refl _) ⟨rfl, rfl⟩
      · rw [if_pos c_7] at h
        refine q_aload rfl ?_
        refine q_iconst (-1) (by decide) ?_
        obtain ⟨d_12, h⟩ := ite_some h
        obtain ⟨⟨x1_12, I1_12, L1_12⟩, e_12, h⟩ := Option.bind_eq_some_iff.mp h
        dsimp only at h
        refine q_fv2I (a_15 X hS (d := d - 1) (by omega) e_12) (by omega) (Nat.le_refl _) (Nat.le_refl _) rfl (Nat.le_of_ble_eq_true rfl) ⟨(zl hS 0 (by decide)), congrArg Prod.fst (sk hS 0 (by decide) rfl), by decide⟩ ?_
        cases h
        exact q_iret rfl (Nat.le_refl _) (Nat.le_refl _) ⟨rfl, rfl⟩
theorem a_26 (X : GX) {z : Nat} {kd : Nat → Nat × Nat} {Rf : Nat → Nat → Option Nat} (hS : Sh z kd Rf) {n dp d : Nat} (hd : dp ≤ d) {I : (Nat → Nat → Int32)} {L : (Nat → Nat → Int64)} {i1 : Int32} {I1 : (Nat → Nat → Int32)} {L1 : (Nat → Nat → Int64)} {r : Int32} (h : g_26 n dp (z, kd, Rf) 0 I L i1 = some (r, I1, L1)) : Ct X d 26 0 0 [.ref 0, .int i1] (z, kd, I, L, Rf) (AI (fun x τ => x = r ∧ τ = (z, kd, I1, L1, Rf))) :=
  Ct_of mu_26 (Nat.le_of_ble_eq_true rfl) ((w_26 X hS n dp d hd I L i1 _ _ _) h)

/-! 27 CutFloor.skills(II)I -/
set_option maxHeartbeats 4000000 in
set_option maxRecDepth 100000 in
def g_27 : Nat → Nat → EN → Nat → (Nat → Nat → Int32) → (Nat → Nat → Int64) → Int32 → Int32 →  Option (Int32 × (Nat → Nat → Int32) × (Nat → Nat → Int64))
  | 0, _, _, _, _, _, _, _ => none
  | n + 1, dp, e, lab, I, L, i1, i2 =>
    if lab = 0 then (if 1 ≤ dp then (g_14 n (dp - 1) e 0 I L i2 (0 : Int32) (15 : Int32)).bind (fun ⟨x0_4, I0_4, L0_4⟩ => (if x0_4 = 0 then (if 1 ≤ dp then (g_15 n (dp - 1) e 0 I0_4 L0_4 (-1 : Int32)).bind (fun ⟨x1_12, I1_12, L1_12⟩ => (some (x1_12, I1_12, L1_12))) else none) else (if 1 ≤ dp then (g_14 n (dp - 1) e 0 I0_4 L0_4 i1 (0 : Int32) ((I0_4 1 8) - (1 : Int32))).bind (fun ⟨x1_27, I1_27, L1_27⟩ => (if x1_27 = 0 then (if 1 ≤ dp then (g_15 n (dp - 1) e 0 I1_27 L1_27 (-2 : Int32)).bind (fun ⟨x2_36, I2_36, L2_36⟩ => (some (x2_36, I2_36, L2_36))) else none) else (if 0 ≤ i1 ∧ (Int32.toNatClampNeg i1) < 4 then (stI (I1_27 5 (Int32.toNatClampNeg i1)) (fun v_49 => (if 0 ≤ i1 ∧ (Int32.toNatClampNeg i1) < 4 then (stI (u2 I1_27 5 (Int32.toNatClampNeg i1) i2) (fun I_59 => (if 1 ≤ dp then (g_18 n (dp - 1) e 0 I_59 L1_27).bind (fun ⟨I2_64, L2_64⟩ => (if 1 ≤ dp then (g_19 n (dp - 1) e 0 I2_64 L2_64 v_49).bind (fun ⟨x3_69, I3_69, L3_69⟩ => (some (x3_69, I3_69, L3_69))) else none)) else none))) else none))) else none))) else none))) else none)
    else none
set_option maxRecDepth 100000 in
theorem e_27_0 (n dp : Nat) (e : EN) (I : (Nat → Nat → Int32)) (L : (Nat → Nat → Int64)) (i1 : Int32) (i2 : Int32) : g_27 (n + 1) dp e 0 I L i1 i2 = (if 1 ≤ dp then (g_14 n (dp - 1) e 0 I L i2 (0 : Int32) (15 : Int32)).bind (fun ⟨x0_4, I0_4, L0_4⟩ => (if x0_4 = 0 then (if 1 ≤ dp then (g_15 n (dp - 1) e 0 I0_4 L0_4 (-1 : Int32)).bind (fun ⟨x1_12, I1_12, L1_12⟩ => (some (x1_12, I1_12, L1_12))) else none) else (if 1 ≤ dp then (g_14 n (dp - 1) e 0 I0_4 L0_4 i1 (0 : Int32) ((I0_4 1 8) - (1 : Int32))).bind (fun ⟨x1_27, I1_27, L1_27⟩ => (if x1_27 = 0 then (if 1 ≤ dp then (g_15 n (dp - 1) e 0 I1_27 L1_27 (-2 : Int32)).bind (fun ⟨x2_36, I2_36, L2_36⟩ => (some (x2_36, I2_36, L2_36))) else none) else (if 0 ≤ i1 ∧ (Int32.toNatClampNeg i1) < 4 then (stI (I1_27 5 (Int32.toNatClampNeg i1)) (fun v_49 => (if 0 ≤ i1 ∧ (Int32.toNatClampNeg i1) < 4 then (stI (u2 I1_27 5 (Int32.toNatClampNeg i1) i2) (fun I_59 => (if 1 ≤ dp then (g_18 n (dp - 1) e 0 I_59 L1_27).bind (fun ⟨I2_64, L2_64⟩ => (if 1 ≤ dp then (g_19 n (dp - 1) e 0 I2_64 L2_64 v_49).bind (fun ⟨x3_69, I3_69, L3_69⟩ => (some (x3_69, I3_69, L3_69))) else none)) else none))) else none))) else none))) else none))) else none) := by rw [g_27.eq_2, if_pos (show (0 : Nat) = 0 from rfl)]
set_option maxHeartbeats 8000000 in
set_option maxRecDepth 100000 in
theorem w_27 (X : GX) {z : Nat} {kd : Nat → Nat × Nat} {Rf : Nat → Nat → Option Nat} (hS : Sh z kd Rf) : ∀ (n dp d : Nat), dp ≤ d → ∀ (I : (Nat → Nat → Int32)) (L : (Nat → Nat → Int64)) (i1 : Int32) (i2 : Int32) (r : Int32) (I1 : (Nat → Nat → Int32)) (L1 : (Nat → Nat → Int64)), (g_27 n dp (z, kd, Rf) 0 I L i1 i2 = some (r, I1, L1) → K X d 27 0 0 (AI (fun x τ => x = r ∧ τ = (z, kd, I1, L1, Rf))) 0 [some (.ref 0), some (.int i1), some (.int i2), none] [] (z, kd, I, L, Rf) 0 0) := by
  intro n
  induction n with
  | zero => intro dp d hdp I L i1 i2 r I1 L1; exact fun h => by cases h
  | succ n ih =>
    intro dp d hdp I L i1 i2 r I1 L1
    · intro h
      rw [e_27_0] at h
      refine K_of b_27_0 h_27_0 ?_
      refine q_iload rfl ?_
      refine q_iconst (0) (by decide) ?_
      refine q_iconst (15) (by decide) ?_
      obtain ⟨d_4, h⟩ := ite_some h
      obtain ⟨⟨x0_4, I0_4, L0_4⟩, e_4, h⟩ := Option.bind_eq_some_iff.mp h
      dsimp only at h
      refine q_fs3I (a_14 X hS (d := d - 1) (by omega) e_4) (by omega) (Nat.le_refl _) (Nat.le_refl _) rfl (Nat.le_of_ble_eq_true rfl) ?_
      refine q_if_ne (fun c_7 => ?_) (fun c_7 => ?_)
      · rw [if_neg c_7] at h
        refine K_of b_27_16 h_27_16 ?_
        refine q_iload rfl ?_
        refine q_iconst (0) (by decide) ?_
        refine q_aload rfl ?_
        refine q_getRs (c0 := 11) (j := 0) rfl rfl (zl hS 0 (by decide)) (sk hS 0 (by decide) rfl) rfl (by decide) (r_0_0 hS) ?_
        refine q_getI (c0 := 3) (j := 8) rfl rfl (zl hS 1 (by decide)) (sk hS 1 (by decide) rfl) (Or.inl rfl) (by decide) ?_
        refine q_iconst (1) (by decide) ?_
        refine q_isub ?_
        obtain ⟨d_27, h⟩ := ite_some h
        obtain ⟨⟨x1_27, I1_27, L1_27⟩, e_27, h⟩ := Option.bind_eq_some_iff.mp h
        dsimp only at h
        refine q_fs3I (a_14 X hS (d := d - 1) (by omega) e_27) (by omega) (Nat.le_refl _) (Nat.le_refl _) rfl (Nat.le_of_ble_eq_true rfl) ?_
        refine q_if_ne (fun c_30 => ?_) (fun c_30 => ?_)
        · rw [if_neg c_30] at h
          refine K_of b_27_40 h_27_40 ?_
          refine q_aload rfl ?_
          refine q_getRs (c0 := 11) (j := 0) rfl rfl (zl hS 0 (by decide)) (sk hS 0 (by decide) rfl) rfl (by decide) (r_0_0 hS) ?_
          refine q_getRs (c0 := 3) (j := 3) rfl rfl (zl hS 1 (by decide)) (sk hS 1 (by decide) rfl) rfl (by decide) (r_1_3 hS) ?_
          refine q_iload rfl ?_
          obtain ⟨⟨u_48, v_48⟩, h⟩ := ite_some h
          refine q_ialN (Int32.toNatClampNeg i1) (nx u_48) (zl hS 5 (by decide)) (sk hS 5 (by decide) rfl) v_48 (by decide) ?_
          obtain ⟨v_49, nv_49, h⟩ := stI_some h
          refine q_eqi nv_49.symm ?_
          refine q_istore (ls1 := [some (.ref 0), some (.int i1), some (.int i2), some (.int v_49)]) (Nat.le_of_ble_eq_true rfl) rfl ?_
          refine q_aload rfl ?_
          refine q_getRs (c0 := 11) (j := 0) rfl rfl (zl hS 0 (by decide)) (sk hS 0 (by decide) rfl) rfl (by decide) (r_0_0 hS) ?_
          refine q_getRs (c0 := 3) (j := 3) rfl rfl (zl hS 1 (by decide)) (sk hS 1 (by decide) rfl) rfl (by decide) (r_1_3 hS) ?_
          refine q_iload rfl ?_
          refine q_iload rfl ?_
          obtain ⟨⟨u_59, v_59⟩, h⟩ := ite_some h
          refine q_iasN (Int32.toNatClampNeg i1) (nx u_59) (zl hS 5 (by decide)) (sk hS 5 (by decide) rfl) v_59 (by decide) ?_
          obtain ⟨I_59, nI_59, h⟩ := stI_some h
          refine q_nI nI_59 ?_
          refine q_aload rfl ?_
          refine q_getRs (c0 := 11) (j := 4) rfl rfl (zl hS 0 (by decide)) (sk hS 0 (by decide) rfl) rfl (by decide) (r_0_4 hS) ?_
          obtain ⟨d_64, h⟩ := ite_some h
          obtain ⟨⟨I2_64, L2_64⟩, e_64, h⟩ := Option.bind_eq_some_iff.mp h
          dsimp only at h
          refine q_fv1V (a_18 X hS (d := d - 1) (by omega) e_64) (by omega) (Nat.le_refl _) (Nat.le_refl _) rfl (Nat.le_of_ble_eq_true rfl) ⟨(zl hS 73 (by decide)), congrArg Prod.fst (sk hS 73 (by decide) rfl), by decide⟩ ?_
          refine q_aload rfl ?_
          refine q_iload rfl ?_
          obtain ⟨d_69, h⟩ := ite_some h
          obtain ⟨⟨x3_69, I3_69, L3_69⟩, e_69, h⟩ := Option.bind_eq_some_iff.mp h
          dsimp only at h
          refine q_fv2I (a_19 X hS (d := d - 1) (by omega) e_69) (by omega) (Nat.le_refl _) (Nat.le_refl _) rfl (Nat.le_of_ble_eq_true rfl) ⟨(zl hS 0 (by decide)), congrArg Prod.fst (sk hS 0 (by decide) rfl), by decide⟩ ?_
          cases h
          exact q_iret rfl (Nat.le_refl _) (Nat.le_refl _) ⟨rfl, rfl⟩
        · rw [if_pos c_30] at h
          refine q_aload rfl ?_
          refine q_iconst (-2) (by decide) ?_
          obtain ⟨d_36, h⟩ := ite_some h
          obtain ⟨⟨x2_36, I2_36, L2_36⟩, e_36, h⟩ := Option.bind_eq_some_iff.mp h
          dsimp only at h
          refine q_fv2I (a_15 X hS (d := d - 1) (by omega) e_36) (by omega) (Nat.le_refl _) (Nat.le_refl _) rfl (Nat.le_of_ble_eq_true rfl) ⟨(zl hS 0 (by decide)), congrArg Prod.fst (sk hS 0 (by decide) rfl), by decide⟩ ?_
          cases h
          exact q_iret rfl (Nat.le_refl _) (Nat.le_refl _) ⟨rfl, rfl⟩
      · rw [if_pos c_7] at h
        refine q_aload rfl ?_
        refine q_iconst (-1) (by decide) ?_
        obtain ⟨d_12, h⟩ := ite_some h
        obtain ⟨⟨x1_12, I1_12, L1_12⟩, e_12, h⟩ := Option.bind_eq_some_iff.mp h
        dsimp only at h
        refine q_fv2I (a_15 X hS (d := d - 1) (by omega) e_12) (by omega) (Nat.le_refl _) (Nat.le_refl _) rfl (Nat.le_of_ble_eq_true rfl) ⟨(zl hS 0 (by decide)), congrArg Prod.fst (sk hS 0 (by decide) rfl), by decide⟩ ?_
        cases h
        exact q_iret rfl (Nat.le_refl _) (Nat.le_refl _) ⟨rfl, rfl⟩
theorem a_27 (X : GX) {z : Nat} {kd : Nat → Nat × Nat} {Rf : Nat → Nat → Option Nat} (hS : Sh z kd Rf) {n dp d : Nat} (hd : dp ≤ d) {I : (Nat → Nat → Int32)} {L : (Nat → Nat → Int64)} {i1 : Int32} {i2 : Int32} {I1 : (Nat → Nat → Int32)} {L1 : (Nat → Nat → Int64)} {r : Int32} (h : g_27 n dp (z, kd, Rf) 0 I L i1 i2 = some (r, I1, L1)) : Ct X d 27 0 0 [.ref 0, .int i1, .int i2] (z, kd, I, L, Rf) (AI (fun x τ => x = r ∧ τ = (z, kd, I1, L1, Rf))) :=
  Ct_of mu_27 (Nat.le_of_ble_eq_true rfl) ((w_27 X hS n dp d hd I L i1 i2 _ _ _) h)

/-! 28 CutFloor.terms(II)I -/
set_option maxHeartbeats 4000000 in
set_option maxRecDepth 100000 in
def g_28 : Nat → Nat → EN → Nat → (Nat → Nat → Int32) → (Nat → Nat → Int64) → Int32 → Int32 →  Option (Int32 × (Nat → Nat → Int32) × (Nat → Nat → Int64))
  | 0, _, _, _, _, _, _, _ => none
  | n + 1, dp, e, lab, I, L, i1, i2 =>
    if lab = 0 then (if 1 ≤ dp then (g_14 n (dp - 1) e 0 I L i1 (0 : Int32) (1 : Int32)).bind (fun ⟨x0_3, I0_3, L0_3⟩ => (if x0_3 = 0 then (if 1 ≤ dp then (g_15 n (dp - 1) e 0 I0_3 L0_3 (-1 : Int32)).bind (fun ⟨x1_30, I1_30, L1_30⟩ => (some (x1_30, I1_30, L1_30))) else none) else (if i1 = 0 then (if 1 ≤ dp then (g_14 n (dp - 1) e 0 I0_3 L0_3 i2 (0 : Int32) (99 : Int32)).bind (fun ⟨x1_22, I1_22, L1_22⟩ => (if x1_22 = 0 then (if 1 ≤ dp then (g_15 n (dp - 1) e 0 I1_22 L1_22 (-1 : Int32)).bind (fun ⟨x2_30, I2_30, L2_30⟩ => (some (x2_30, I2_30, L2_30))) else none) else (if i1 = (1 : Int32) then (stI (u2 I1_22 1 12 i2) (fun I_52 => (if 1 ≤ dp then (g_19 n (dp - 1) e 0 I_52 L1_22 (I1_22 1 12)).bind (fun ⟨x2_57, I2_57, L2_57⟩ => (some (x2_57, I2_57, L2_57))) else none))) else (stI (u2 I1_22 1 11 i2) (fun I_74 => (if 1 ≤ dp then (g_21 n (dp - 1) e 0 I_74 L1_22).bind (fun ⟨I2_78, L2_78⟩ => (if 1 ≤ dp then (g_19 n (dp - 1) e 0 I2_78 L2_78 (I1_22 1 11)).bind (fun ⟨x3_83, I3_83, L3_83⟩ => (some (x3_83, I3_83, L3_83))) else none)) else none)))))) else none) else (if 1 ≤ dp then (g_14 n (dp - 1) e 0 I0_3 L0_3 i2 (0 : Int32) (100 : Int32)).bind (fun ⟨x1_22, I1_22, L1_22⟩ => (if x1_22 = 0 then (if 1 ≤ dp then (g_15 n (dp - 1) e 0 I1_22 L1_22 (-1 : Int32)).bind (fun ⟨x2_30, I2_30, L2_30⟩ => (some (x2_30, I2_30, L2_30))) else none) else (if i1 = (1 : Int32) then (stI (u2 I1_22 1 12 i2) (fun I_52 => (if 1 ≤ dp then (g_19 n (dp - 1) e 0 I_52 L1_22 (I1_22 1 12)).bind (fun ⟨x2_57, I2_57, L2_57⟩ => (some (x2_57, I2_57, L2_57))) else none))) else (stI (u2 I1_22 1 11 i2) (fun I_74 => (if 1 ≤ dp then (g_21 n (dp - 1) e 0 I_74 L1_22).bind (fun ⟨I2_78, L2_78⟩ => (if 1 ≤ dp then (g_19 n (dp - 1) e 0 I2_78 L2_78 (I1_22 1 11)).bind (fun ⟨x3_83, I3_83, L3_83⟩ => (some (x3_83, I3_83, L3_83))) else none)) else none)))))) else none)))) else none)
    else none
set_option maxRecDepth 100000 in
theorem e_28_0 (n dp : Nat) (e : EN) (I : (Nat → Nat → Int32)) (L : (Nat → Nat → Int64)) (i1 : Int32) (i2 : Int32) : g_28 (n + 1) dp e 0 I L i1 i2 = (if 1 ≤ dp then (g_14 n (dp - 1) e 0 I L i1 (0 : Int32) (1 : Int32)).bind (fun ⟨x0_3, I0_3, L0_3⟩ => (if x0_3 = 0 then (if 1 ≤ dp then (g_15 n (dp - 1) e 0 I0_3 L0_3 (-1 : Int32)).bind (fun ⟨x1_30, I1_30, L1_30⟩ => (some (x1_30, I1_30, L1_30))) else none) else (if i1 = 0 then (if 1 ≤ dp then (g_14 n (dp - 1) e 0 I0_3 L0_3 i2 (0 : Int32) (99 : Int32)).bind (fun ⟨x1_22, I1_22, L1_22⟩ => (if x1_22 = 0 then (if 1 ≤ dp then (g_15 n (dp - 1) e 0 I1_22 L1_22 (-1 : Int32)).bind (fun ⟨x2_30, I2_30, L2_30⟩ => (some (x2_30, I2_30, L2_30))) else none) else (if i1 = (1 : Int32) then (stI (u2 I1_22 1 12 i2) (fun I_52 => (if 1 ≤ dp then (g_19 n (dp - 1) e 0 I_52 L1_22 (I1_22 1 12)).bind (fun ⟨x2_57, I2_57, L2_57⟩ => (some (x2_57, I2_57, L2_57))) else none))) else (stI (u2 I1_22 1 11 i2) (fun I_74 => (if 1 ≤ dp then (g_21 n (dp - 1) e 0 I_74 L1_22).bind (fun ⟨I2_78, L2_78⟩ => (if 1 ≤ dp then (g_19 n (dp - 1) e 0 I2_78 L2_78 (I1_22 1 11)).bind (fun ⟨x3_83, I3_83, L3_83⟩ => (some (x3_83, I3_83, L3_83))) else none)) else none)))))) else none) else (if 1 ≤ dp then (g_14 n (dp - 1) e 0 I0_3 L0_3 i2 (0 : Int32) (100 : Int32)).bind (fun ⟨x1_22, I1_22, L1_22⟩ => (if x1_22 = 0 then (if 1 ≤ dp then (g_15 n (dp - 1) e 0 I1_22 L1_22 (-1 : Int32)).bind (fun ⟨x2_30, I2_30, L2_30⟩ => (some (x2_30, I2_30, L2_30))) else none) else (if i1 = (1 : Int32) then (stI (u2 I1_22 1 12 i2) (fun I_52 => (if 1 ≤ dp then (g_19 n (dp - 1) e 0 I_52 L1_22 (I1_22 1 12)).bind (fun ⟨x2_57, I2_57, L2_57⟩ => (some (x2_57, I2_57, L2_57))) else none))) else (stI (u2 I1_22 1 11 i2) (fun I_74 => (if 1 ≤ dp then (g_21 n (dp - 1) e 0 I_74 L1_22).bind (fun ⟨I2_78, L2_78⟩ => (if 1 ≤ dp then (g_19 n (dp - 1) e 0 I2_78 L2_78 (I1_22 1 11)).bind (fun ⟨x3_83, I3_83, L3_83⟩ => (some (x3_83, I3_83, L3_83))) else none)) else none)))))) else none)))) else none) := by rw [g_28.eq_2, if_pos (show (0 : Nat) = 0 from rfl)]
set_option maxHeartbeats 8000000 in
set_option maxRecDepth 100000 in
theorem w_28 (X : GX) {z : Nat} {kd : Nat → Nat × Nat} {Rf : Nat → Nat → Option Nat} (hS : Sh z kd Rf) : ∀ (n dp d : Nat), dp ≤ d → ∀ (I : (Nat → Nat → Int32)) (L : (Nat → Nat → Int64)) (i1 : Int32) (i2 : Int32) (r : Int32) (I1 : (Nat → Nat → Int32)) (L1 : (Nat → Nat → Int64)), (g_28 n dp (z, kd, Rf) 0 I L i1 i2 = some (r, I1, L1) → K X d 28 0 0 (AI (fun x τ => x = r ∧ τ = (z, kd, I1, L1, Rf))) 0 [some (.ref 0), some (.int i1), some (.int i2), none] [] (z, kd, I, L, Rf) 0 0) := by
  intro n
  induction n with
  | zero => intro dp d hdp I L i1 i2 r I1 L1; exact fun h => by cases h
  | succ n ih =>
    intro dp d hdp I L i1 i2 r I1 L1
    · intro h
      rw [e_28_0] at h
      refine K_of b_28_0 h_28_0 ?_
      refine q_iload rfl ?_
      refine q_iconst (0) (by decide) ?_
      refine q_iconst (1) (by decide) ?_
      obtain ⟨d_3, h⟩ := ite_some h
      obtain ⟨⟨x0_3, I0_3, L0_3⟩, e_3, h⟩ := Option.bind_eq_some_iff.mp h
      dsimp only at h
      refine q_fs3I (a_14 X hS (d := d - 1) (by omega) e_3) (by omega) (Nat.le_refl _) (Nat.le_refl _) rfl (Nat.le_of_ble_eq_true rfl) ?_
      refine q_if_eq (fun c_6 => ?_) (fun c_6 => ?_)
      · rw [if_pos c_6] at h
        refine K_of b_28_28 h_28_28 ?_
        refine q_aload rfl ?_
        refine q_iconst (-1) (by decide) ?_
        obtain ⟨d_30, h⟩ := ite_some h
        obtain ⟨⟨x1_30, I1_30, L1_30⟩, e_30, h⟩ := Option.bind_eq_some_iff.mp h
        dsimp only at h
        refine q_fv2I (a_15 X hS (d := d - 1) (by omega) e_30) (by omega) (Nat.le_refl _) (Nat.le_refl _) rfl (Nat.le_of_ble_eq_true rfl) ⟨(zl hS 0 (by decide)), congrArg Prod.fst (sk hS 0 (by decide) rfl), by decide⟩ ?_
        cases h
        exact q_iret rfl (Nat.le_refl _) (Nat.le_refl _) ⟨rfl, rfl⟩
      · rw [if_neg c_6] at h
        refine q_iload rfl ?_
        refine q_iconst (0) (by decide) ?_
        refine q_iload rfl ?_
        refine q_if_ne (fun c_12 => ?_) (fun c_12 => ?_)
        · rw [if_neg c_12] at h
          refine K_of b_28_20 h_28_20 ?_
          refine q_iconst (100) (by decide) ?_
          refine q_end ?_
          refine K_of b_28_22 h_28_22 ?_
          obtain ⟨d_22, h⟩ := ite_some h
          obtain ⟨⟨x1_22, I1_22, L1_22⟩, e_22, h⟩ := Option.bind_eq_some_iff.mp h
          dsimp only at h
          refine q_fs3I (a_14 X hS (d := d - 1) (by omega) e_22) (by omega) (Nat.le_refl _) (Nat.le_refl _) rfl (Nat.le_of_ble_eq_true rfl) ?_
          refine q_if_ne (fun c_25 => ?_) (fun c_25 => ?_)
          · rw [if_neg c_25] at h
            refine K_of b_28_34 h_28_34 ?_
            refine q_iload rfl ?_
            refine q_iconst (1) (by decide) ?_
            refine q_icmp_ne (fun c_36 => ?_) (fun c_36 => ?_)
            · rw [if_neg c_36] at h
              refine K_of b_28_61 h_28_61 ?_
              refine q_aload rfl ?_
              refine q_getRs (c0 := 11) (j := 0) rfl rfl (zl hS 0 (by decide)) (sk hS 0 (by decide) rfl) rfl (by decide) (r_0_0 hS) ?_
              refine q_getI (c0 := 3) (j := 11) rfl rfl (zl hS 1 (by decide)) (sk hS 1 (by decide) rfl) (Or.inl rfl) (by decide) ?_
              refine q_istore (ls1 := [some (.ref 0), some (.int i1), some (.int i2), some (.int (I1_22 1 11))]) (Nat.le_of_ble_eq_true rfl) rfl ?_
              refine q_aload rfl ?_
              refine q_getRs (c0 := 11) (j := 0) rfl rfl (zl hS 0 (by decide)) (sk hS 0 (by decide) rfl) rfl (by decide) (r_0_0 hS) ?_
              refine q_iload rfl ?_
              refine q_putI (c0 := 3) (j := 11) rfl rfl (zl hS 1 (by decide)) (sk hS 1 (by decide) rfl) rfl ?_
              obtain ⟨I_74, nI_74, h⟩ := stI_some h
              refine q_nI nI_74 ?_
              refine q_aload rfl ?_
              obtain ⟨d_78, h⟩ := ite_some h
              obtain ⟨⟨I2_78, L2_78⟩, e_78, h⟩ := Option.bind_eq_some_iff.mp h
              dsimp only at h
              refine q_fv1V (a_21 X hS (d := d - 1) (by omega) e_78) (by omega) (Nat.le_refl _) (Nat.le_refl _) rfl (Nat.le_of_ble_eq_true rfl) ⟨(zl hS 0 (by decide)), congrArg Prod.fst (sk hS 0 (by decide) rfl), by decide⟩ ?_
              refine q_aload rfl ?_
              refine q_iload rfl ?_
              obtain ⟨d_83, h⟩ := ite_some h
              obtain ⟨⟨x3_83, I3_83, L3_83⟩, e_83, h⟩ := Option.bind_eq_some_iff.mp h
              dsimp only at h
              refine q_fv2I (a_19 X hS (d := d - 1) (by omega) e_83) (by omega) (Nat.le_refl _) (Nat.le_refl _) rfl (Nat.le_of_ble_eq_true rfl) ⟨(zl hS 0 (by decide)), congrArg Prod.fst (sk hS 0 (by decide) rfl), by decide⟩ ?_
              cases h
              exact q_iret rfl (Nat.le_refl _) (Nat.le_refl _) ⟨rfl, rfl⟩
            · rw [if_pos c_36] at h
              refine q_aload rfl ?_
              refine q_getRs (c0 := 11) (j := 0) rfl rfl (zl hS 0 (by decide)) (sk hS 0 (by decide) rfl) rfl (by decide) (r_0_0 hS) ?_
              refine q_getI (c0 := 3) (j := 12) rfl rfl (zl hS 1 (by decide)) (sk hS 1 (by decide) rfl) (Or.inl rfl) (by decide) ?_
              refine q_istore (ls1 := [some (.ref 0), some (.int i1), some (.int i2), some (.int (I1_22 1 12))]) (Nat.le_of_ble_eq_true rfl) rfl ?_
              refine q_aload rfl ?_
              refine q_getRs (c0 := 11) (j := 0) rfl rfl (zl hS 0 (by decide)) (sk hS 0 (by decide) rfl) rfl (by decide) (r_0_0 hS) ?_
              refine q_iload rfl ?_
              refine q_putI (c0 := 3) (j := 12) rfl rfl (zl hS 1 (by decide)) (sk hS 1 (by decide) rfl) rfl ?_
              obtain ⟨I_52, nI_52, h⟩ := stI_some h
              refine q_nI nI_52 ?_
              refine q_aload rfl ?_
              refine q_iload rfl ?_
              obtain ⟨d_57, h⟩ := ite_some h
              obtain ⟨⟨x2_57, I2_57, L2_57⟩, e_57, h⟩ := Option.bind_eq_some_iff.mp h
              dsimp only at h
              refine q_fv2I (a_19 X hS (d := d - 1) (by omega) e_57) (by omega) (Nat.le_refl _) (Nat.le_refl _) rfl (Nat.le_of_ble_eq_true rfl) ⟨(zl hS 0 (by decide)), congrArg Prod.fst (sk hS 0 (by decide) rfl), by decide⟩ ?_
              cases h
              exact q_iret rfl (Nat.le_refl _) (Nat.le_refl _) ⟨rfl, rfl⟩
          · rw [if_pos c_25] at h
            refine q_end ?_
            refine K_of b_28_28 h_28_28 ?_
            refine q_aload rfl ?_
            refine q_iconst (-1) (by decide) ?_
            obtain ⟨d_30, h⟩ := ite_some h
            obtain ⟨⟨x2_30, I2_30, L2_30⟩, e_30, h⟩ := Option.bind_eq_some_iff.mp h
            dsimp only at h
            refine q_fv2I (a_15 X hS (d := d - 1) (by omega) e_30) (by omega) (Nat.le_refl _) (Nat.le_refl _) rfl (Nat.le_of_ble_eq_true rfl) ⟨(zl hS 0 (by decide)), congrArg Prod.fst (sk hS 0 (by decide) rfl), by decide⟩ ?_
            cases h
            exact q_iret rfl (Nat.le_refl _) (Nat.le_refl _) ⟨rfl, rfl⟩
        · rw [if_pos c_12] at h
          refine q_iconst (99) (by decide) ?_
          refine q_goto ?_
          refine K_of b_28_22 h_28_22 ?_
          obtain ⟨d_22, h⟩ := ite_some h
          obtain ⟨⟨x1_22, I1_22, L1_22⟩, e_22, h⟩ := Option.bind_eq_some_iff.mp h
          dsimp only at h
          refine q_fs3I (a_14 X hS (d := d - 1) (by omega) e_22) (by omega) (Nat.le_refl _) (Nat.le_refl _) rfl (Nat.le_of_ble_eq_true rfl) ?_
          refine q_if_ne (fun c_25 => ?_) (fun c_25 => ?_)
          · rw [if_neg c_25] at h
            refine K_of b_28_34 h_28_34 ?_
            refine q_iload rfl ?_
            refine q_iconst (1) (by decide) ?_
            refine q_icmp_ne (fun c_36 => ?_) (fun c_36 => ?_)
            · rw [if_neg c_36] at h
              refine K_of b_28_61 h_28_61 ?_
              refine q_aload rfl ?_
              refine q_getRs (c0 := 11) (j := 0) rfl rfl (zl hS 0 (by decide)) (sk hS 0 (by decide) rfl) rfl (by decide) (r_0_0 hS) ?_
              refine q_getI (c0 := 3) (j := 11) rfl rfl (zl hS 1 (by decide)) (sk hS 1 (by decide) rfl) (Or.inl rfl) (by decide) ?_
              refine q_istore (ls1 := [some (.ref 0), some (.int i1), some (.int i2), some (.int (I1_22 1 11))]) (Nat.le_of_ble_eq_true rfl) rfl ?_
              refine q_aload rfl ?_
              refine q_getRs (c0 := 11) (j := 0) rfl rfl (zl hS 0 (by decide)) (sk hS 0 (by decide) rfl) rfl (by decide) (r_0_0 hS) ?_
              refine q_iload rfl ?_
              refine q_putI (c0 := 3) (j := 11) rfl rfl (zl hS 1 (by decide)) (sk hS 1 (by decide) rfl) rfl ?_
              obtain ⟨I_74, nI_74, h⟩ := stI_some h
              refine q_nI nI_74 ?_
              refine q_aload rfl ?_
              obtain ⟨d_78, h⟩ := ite_some h
              obtain ⟨⟨I2_78, L2_78⟩, e_78, h⟩ := Option.bind_eq_some_iff.mp h
              dsimp only at h
              refine q_fv1V (a_21 X hS (d := d - 1) (by omega) e_78) (by omega) (Nat.le_refl _) (Nat.le_refl _) rfl (Nat.le_of_ble_eq_true rfl) ⟨(zl hS 0 (by decide)), congrArg Prod.fst (sk hS 0 (by decide) rfl), by decide⟩ ?_
              refine q_aload rfl ?_
              refine q_iload rfl ?_
              obtain ⟨d_83, h⟩ := ite_some h
              obtain ⟨⟨x3_83, I3_83, L3_83⟩, e_83, h⟩ := Option.bind_eq_some_iff.mp h
              dsimp only at h
              refine q_fv2I (a_19 X hS (d := d - 1) (by omega) e_83) (by omega) (Nat.le_refl _) (Nat.le_refl _) rfl (Nat.le_of_ble_eq_true rfl) ⟨(zl hS 0 (by decide)), congrArg Prod.fst (sk hS 0 (by decide) rfl), by decide⟩ ?_
              cases h
              exact q_iret rfl (Nat.le_refl _) (Nat.le_refl _) ⟨rfl, rfl⟩
            · rw [if_pos c_36] at h
              refine q_aload rfl ?_
              refine q_getRs (c0 := 11) (j := 0) rfl rfl (zl hS 0 (by decide)) (sk hS 0 (by decide) rfl) rfl (by decide) (r_0_0 hS) ?_
              refine q_getI (c0 := 3) (j := 12) rfl rfl (zl hS 1 (by decide)) (sk hS 1 (by decide) rfl) (Or.inl rfl) (by decide) ?_
              refine q_istore (ls1 := [some (.ref 0), some (.int i1), some (.int i2), some (.int (I1_22 1 12))]) (Nat.le_of_ble_eq_true rfl) rfl ?_
              refine q_aload rfl ?_
              refine q_getRs (c0 := 11) (j := 0) rfl rfl (zl hS 0 (by decide)) (sk hS 0 (by decide) rfl) rfl (by decide) (r_0_0 hS) ?_
              refine q_iload rfl ?_
              refine q_putI (c0 := 3) (j := 12) rfl rfl (zl hS 1 (by decide)) (sk hS 1 (by decide) rfl) rfl ?_
              obtain ⟨I_52, nI_52, h⟩ := stI_some h
              refine q_nI nI_52 ?_
              refine q_aload rfl ?_
              refine q_iload rfl ?_
              obtain ⟨d_57, h⟩ := ite_some h
              obtain ⟨⟨x2_57, I2_57, L2_57⟩, e_57, h⟩ := Option.bind_eq_some_iff.mp h
              dsimp only at h
              refine q_fv2I (a_19 X hS (d := d - 1) (by omega) e_57) (by omega) (Nat.le_refl _) (Nat.le_refl _) rfl (Nat.le_of_ble_eq_true rfl) ⟨(zl hS 0 (by decide)), congrArg Prod.fst (sk hS 0 (by decide) rfl), by decide⟩ ?_
              cases h
              exact q_iret rfl (Nat.le_refl _) (Nat.le_refl _) ⟨rfl, rfl⟩
          · rw [if_pos c_25] at h
            refine q_end ?_
            refine K_of b_28_28 h_28_28 ?_
            refine q_aload rfl ?_
            refine q_iconst (-1) (by decide) ?_
            obtain ⟨d_30, h⟩ := ite_some h
            obtain ⟨⟨x2_30, I2_30, L2_30⟩, e_30, h⟩ := Option.bind_eq_some_iff.mp h
            dsimp only at h
            refine q_fv2I (a_15 X hS (d := d - 1) (by omega) e_30) (by omega) (Nat.le_refl _) (Nat.le_refl _) rfl (Nat.le_of_ble_eq_true rfl) ⟨(zl hS 0 (by decide)), congrArg Prod.fst (sk hS 0 (by decide) rfl), by decide⟩ ?_
            cases h
            exact q_iret rfl (Nat.le_refl _) (Nat.le_refl _) ⟨rfl, rfl⟩
theorem a_28 (X : GX) {z : Nat} {kd : Nat → Nat × Nat} {Rf : Nat → Nat → Option Nat} (hS : Sh z kd Rf) {n dp d : Nat} (hd : dp ≤ d) {I : (Nat → Nat → Int32)} {L : (Nat → Nat → Int64)} {i1 : Int32} {i2 : Int32} {I1 : (Nat → Nat → Int32)} {L1 : (Nat → Nat → Int64)} {r : Int32} (h : g_28 n dp (z, kd, Rf) 0 I L i1 i2 = some (r, I1, L1)) : Ct X d 28 0 0 [.ref 0, .int i1, .int i2] (z, kd, I, L, Rf) (AI (fun x τ => x = r ∧ τ = (z, kd, I1, L1, Rf))) :=
  Ct_of mu_28 (Nat.le_of_ble_eq_true rfl) ((w_28 X hS n dp d hd I L i1 i2 _ _ _) h)

/-! 30 CutFloor.feedFour(I)V -/
set_option maxHeartbeats 4000000 in
set_option maxRecDepth 100000 in
def g_30 : Nat → Nat → EN → Nat → (Nat → Nat → Int32) → (Nat → Nat → Int64) → Int32 → Int32 →  Option ((Nat → Nat → Int32) × (Nat → Nat → Int64))
  | 0, _, _, _, _, _, _, _ => none
  | n + 1, dp, e, lab, I, L, i1, i2 =>
    if lab = 0 then (g_30 n dp e 1 I L i1 (24 : Int32))
    else if lab = 1 then (if i2 < 0 then (some (I, L)) else (if (400 : Int32) ≤ (I 0 13) then (some (I, L)) else (if 0 ≤ (I 0 13) ∧ (Int32.toNatClampNeg (I 0 13)) < 400 then (stI (u2 I 89 (Int32.toNatClampNeg (I 0 13)) ((Int32.toUInt32 i1 >>> (Int32.toUInt32 i2 &&& Int32.toUInt32 31)).toInt32 &&& (255 : Int32))) (fun I_32 => (stI (u2 I_32 0 13 ((I_32 0 13) + (1 : Int32))) (fun I_40 => (g_30 n dp e 1 I_40 L i1 (i2 + Int32.ofInt (-8))))))) else none)))
    else none
set_option maxRecDepth 100000 in
theorem e_30_0 (n dp : Nat) (e : EN) (I : (Nat → Nat → Int32)) (L : (Nat → Nat → Int64)) (i1 : Int32) (i2 : Int32) : g_30 (n + 1) dp e 0 I L i1 i2 = (g_30 n dp e 1 I L i1 (24 : Int32)) := by rw [g_30.eq_2, if_pos (show (0 : Nat) = 0 from rfl)]
set_option maxRecDepth 100000 in
theorem e_30_1 (n dp : Nat) (e : EN) (I : (Nat → Nat → Int32)) (L : (Nat → Nat → Int64)) (i1 : Int32) (i2 : Int32) : g_30 (n + 1) dp e 1 I L i1 i2 = (if i2 < 0 then (some (I, L)) else (if (400 : Int32) ≤ (I 0 13) then (some (I, L)) else (if 0 ≤ (I 0 13) ∧ (Int32.toNatClampNeg (I 0 13)) < 400 then (stI (u2 I 89 (Int32.toNatClampNeg (I 0 13)) ((Int32.toUInt32 i1 >>> (Int32.toUInt32 i2 &&& Int32.toUInt32 31)).toInt32 &&& (255 : Int32))) (fun I_32 => (stI (u2 I_32 0 13 ((I_32 0 13) + (1 : Int32))) (fun I_40 => (g_30 n dp e 1 I_40 L i1 (i2 + Int32.ofInt (-8))))))) else none))) := by rw [g_30.eq_2, if_neg (show ¬ ((1 : Nat) = 0) by decide), if_pos (show (1 : Nat) = 1 from rfl)]
set_option maxHeartbeats 8000000 in
set_option maxRecDepth 100000 in
theorem w_30 (X : GX) {z : Nat} {kd : Nat → Nat × Nat} {Rf : Nat → Nat → Option Nat} (hS : Sh z kd Rf) : ∀ (n dp d : Nat), dp ≤ d → ∀ (I : (Nat → Nat → Int32)) (L : (Nat → Nat → Int64)) (i1 : Int32) (i2 : Int32) (I1 : (Nat → Nat → Int32)) (L1 : (Nat → Nat → Int64)), (g_30 n dp (z, kd, Rf) 0 I L i1 i2 = some (I1, L1) → K X d 30 0 0 (AV (fun τ => τ = (z, kd, I1, L1, Rf))) 0 [some (.ref 0), some (.int i1), none] [] (z, kd, I, L, Rf) 0 0) ∧
    (g_30 n dp (z, kd, Rf) 1 I L i1 i2 = some (I1, L1) → K X d 30 0 0 (AV (fun τ => τ = (z, kd, I1, L1, Rf))) 3 [some (.ref 0), some (.int i1), some (.int i2)] [] (z, kd, I, L, Rf) 0 0) := by
  intro n
  induction n with
  | zero => intro dp d hdp I L i1 i2 I1 L1; exact ⟨(fun h => by cases h), (fun h => by cases h)⟩
  | succ n ih =>
    intro dp d hdp I L i1 i2 I1 L1
    refine ⟨?_, ?_⟩
    · intro h
      rw [e_30_0] at h
      refine K_of b_30_0 h_30_0 ?_
      refine q_iconst (24) (by decide) ?_
      refine q_istore (ls1 := [some (.ref 0), some (.int i1), some (.int (24 : Int32))]) (Nat.le_of_ble_eq_true rfl) rfl ?_
      refine q_end ?_
      exact (ih dp d hdp _ _ i1 (24 : Int32) _ _).2 h
    · intro h
      rw [e_30_1] at h
      refine K_of b_30_3 h_30_3 ?_
      refine q_iload rfl ?_
      refine q_if_lt (fun c_4 => ?_) (fun c_4 => ?_)
      · rw [if_pos c_4] at h
        refine K_of b_30_49 h_30_49 ?_
        cases h
        exact q_vret rfl (Nat.le_refl _) (Nat.le_refl _) rfl
      · rw [if_neg c_4] at h
        refine q_aload rfl ?_
        refine q_getI (c0 := 11) (j := 13) rfl rfl (zl hS 0 (by decide)) (sk hS 0 (by decide) rfl) (Or.inl rfl) (by decide) ?_
        refine q_iconst (400) (by decide) ?_
        refine q_icmp_ge (fun c_14 => ?_) (fun c_14 => ?_)
        · rw [if_pos c_14] at h
          refine K_of b_30_49 h_30_49 ?_
          cases h
          exact q_vret rfl (Nat.le_refl _) (Nat.le_refl _) rfl
        · rw [if_neg c_14] at h
          refine q_aload rfl ?_
          refine q_getRs (c0 := 11) (j := 7) rfl rfl (zl hS 0 (by decide)) (sk hS 0 (by decide) rfl) rfl (by decide) (r_0_7 hS) ?_
          refine q_aload rfl ?_
          refine q_getI (c0 := 11) (j := 13) rfl rfl (zl hS 0 (by decide)) (sk hS 0 (by decide) rfl) (Or.inl rfl) (by decide) ?_
          refine q_iload rfl ?_
          refine q_iload rfl ?_
          refine q_iushr ?_
          refine q_iconst (255) (by decide) ?_
          refine q_iand ?_
          obtain ⟨⟨u_32, v_32⟩, h⟩ := ite_some h
          refine q_iasN (Int32.toNatClampNeg (I 0 13)) (nx u_32) (zl hS 89 (by decide)) (sk hS 89 (by decide) rfl) v_32 (by decide) ?_
          obtain ⟨I_32, nI_32, h⟩ := stI_some h
          refine q_nI nI_32 ?_
          refine q_aload rfl ?_
          refine q_dup rfl ?_
          refine q_getI (c0 := 11) (j := 13) rfl rfl (zl hS 0 (by decide)) (sk hS 0 (by decide) rfl) (Or.inl rfl) (by decide) ?_
          refine q_iconst (1) (by decide) ?_
          refine q_iadd ?_
          refine q_putI (c0 := 11) (j := 13) rfl rfl (zl hS 0 (by decide)) (sk hS 0 (by decide) rfl) rfl ?_
          obtain ⟨I_40, nI_40, h⟩ := stI_some h
          refine q_nI nI_40 ?_
          refine q_iinc (ls1 := [some (.ref 0), some (.int i1), some (.int (i2 + Int32.ofInt (-8)))]) rfl rfl ?_
          refine q_goto ?_
          exact (ih dp d hdp _ _ i1 (i2 + Int32.ofInt (-8)) _ _).2 h
theorem a_30 (X : GX) {z : Nat} {kd : Nat → Nat × Nat} {Rf : Nat → Nat → Option Nat} (hS : Sh z kd Rf) {n dp d : Nat} (hd : dp ≤ d) {I : (Nat → Nat → Int32)} {L : (Nat → Nat → Int64)} {i1 : Int32} {I1 : (Nat → Nat → Int32)} {L1 : (Nat → Nat → Int64)} (h : g_30 n dp (z, kd, Rf) 0 I L i1 0 = some (I1, L1)) : Ct X d 30 0 0 [.ref 0, .int i1] (z, kd, I, L, Rf) (AV (fun τ => τ = (z, kd, I1, L1, Rf))) :=
  Ct_of mu_30 (Nat.le_of_ble_eq_true rfl) ((w_30 X hS n dp d hd I L i1 0 _ _).1 h)

/-! 29 CutFloor.feed(IIIII)I -/
set_option maxHeartbeats 4000000 in
set_option maxRecDepth 100000 in
def g_29 : Nat → Nat → EN → Nat → (Nat → Nat → Int32) → (Nat → Nat → Int64) → Int32 → Int32 → Int32 → Int32 → Int32 →  Option (Int32 × (Nat → Nat → Int32) × (Nat → Nat → Int64))
  | 0, _, _, _, _, _, _, _, _, _, _ => none
  | n + 1, dp, e, lab, I, L, i1, i2, i3, i4, i5 =>
    if lab = 0 then (if (I 0 13) ≤ (380 : Int32) then (if 1 ≤ dp then (g_30 n (dp - 1) e 0 I L i1 0).bind (fun ⟨I0_14, L0_14⟩ => (if 1 ≤ dp then (g_30 n (dp - 1) e 0 I0_14 L0_14 i2 0).bind (fun ⟨I1_19, L1_19⟩ => (if 1 ≤ dp then (g_30 n (dp - 1) e 0 I1_19 L1_19 i3 0).bind (fun ⟨I2_24, L2_24⟩ => (if 1 ≤ dp then (g_30 n (dp - 1) e 0 I2_24 L2_24 i4 0).bind (fun ⟨I3_30, L3_30⟩ => (if 1 ≤ dp then (g_30 n (dp - 1) e 0 I3_30 L3_30 i5 0).bind (fun ⟨I4_36, L4_36⟩ => (some ((I4_36 0 13), I4_36, L4_36))) else none)) else none)) else none)) else none)) else none) else (some ((-1 : Int32), I, L)))
    else none
set_option maxRecDepth 100000 in
theorem e_29_0 (n dp : Nat) (e : EN) (I : (Nat → Nat → Int32)) (L : (Nat → Nat → Int64)) (i1 : Int32) (i2 : Int32) (i3 : Int32) (i4 : Int32) (i5 : Int32) : g_29 (n + 1) dp e 0 I L i1 i2 i3 i4 i5 = (if (I 0 13) ≤ (380 : Int32) then (if 1 ≤ dp then (g_30 n (dp - 1) e 0 I L i1 0).bind (fun ⟨I0_14, L0_14⟩ => (if 1 ≤ dp then (g_30 n (dp - 1) e 0 I0_14 L0_14 i2 0).bind (fun ⟨I1_19, L1_19⟩ => (if 1 ≤ dp then (g_30 n (dp - 1) e 0 I1_19 L1_19 i3 0).bind (fun ⟨I2_24, L2_24⟩ => (if 1 ≤ dp then (g_30 n (dp - 1) e 0 I2_24 L2_24 i4 0).bind (fun ⟨I3_30, L3_30⟩ => (if 1 ≤ dp then (g_30 n (dp - 1) e 0 I3_30 L3_30 i5 0).bind (fun ⟨I4_36, L4_36⟩ => (some ((I4_36 0 13), I4_36, L4_36))) else none)) else none)) else none)) else none)) else none) else (some ((-1 : Int32), I, L))) := by rw [g_29.eq_2, if_pos (show (0 : Nat) = 0 from rfl)]
set_option maxHeartbeats 8000000 in
set_option maxRecDepth 100000 in
theorem w_29 (X : GX) {z : Nat} {kd : Nat → Nat × Nat} {Rf : Nat → Nat → Option Nat} (hS : Sh z kd Rf) : ∀ (n dp d : Nat), dp ≤ d → ∀ (I : (Nat → Nat → Int32)) (L : (Nat → Nat → Int64)) (i1 : Int32) (i2 : Int32) (i3 : Int32) (i4 : Int32) (i5 : Int32) (r : Int32) (I1 : (Nat → Nat → Int32)) (L1 : (Nat → Nat → Int64)), (g_29 n dp (z, kd, Rf) 0 I L i1 i2 i3 i4 i5 = some (r, I1, L1) → K X d 29 0 0 (AI (fun x τ => x = r ∧ τ = (z, kd, I1, L1, Rf))) 0 [some (.ref 0), some (.int i1), some (.int i2), some (.int i3), some (.int i4), some (.int i5)] [] (z, kd, I, L, Rf) 0 0) := by
  intro n
  induction n with
  | zero => intro dp d hdp I L i1 i2 i3 i4 i5 r I1 L1; exact fun h => by cases h
  | succ n ih =>
    intro dp d hdp I L i1 i2 i3 i4 i5 r I1 L1
    · intro h
      rw [e_29_0] at h
      refine K_of b_29_0 h_29_0 ?_
      refine q_aload rfl ?_
      refine q_getI (c0 := 11) (j := 13) rfl rfl (zl hS 0 (by decide)) (sk hS 0 (by decide) rfl) (Or.inl rfl) (by decide) ?_
      refine q_iconst (380) (by decide) ?_
      refine q_icmp_le (fun c_7 => ?_) (fun c_7 => ?_)
      · rw [if_pos c_7] at h
        refine K_of b_29_12 h_29_12 ?_
        refine q_aload rfl ?_
        refine q_iload rfl ?_
        obtain ⟨d_14, h⟩ := ite_some h
        obtain ⟨⟨I0_14, L0_14⟩, e_14, h⟩ := Option.bind_eq_some_iff.mp h
        dsimp only at h
        refine q_fv2V (a_30 X hS (d := d - 1) (by omega) e_14) (by omega) (Nat.le_refl _) (Nat.le_refl _) rfl (Nat.le_of_ble_eq_true rfl) ⟨(zl hS 0 (by decide)), congrArg Prod.fst (sk hS 0 (by decide) rfl), by decide⟩ ?_
        refine q_aload rfl ?_
        refine q_iload rfl ?_
        obtain ⟨d_19, h⟩ := ite_some h
        obtain ⟨⟨I1_19, L1_19⟩, e_19, h⟩ := Option.bind_eq_some_iff.mp h
        dsimp only at h
        refine q_fv2V (a_30 X hS (d := d - 1) (by omega) e_19) (by omega) (Nat.le_refl _) (Nat.le_refl _) rfl (Nat.le_of_ble_eq_true rfl) ⟨(zl hS 0 (by decide)), congrArg Prod.fst (sk hS 0 (by decide) rfl), by decide⟩ ?_
        refine q_aload rfl ?_
        refine q_iload rfl ?_
        obtain ⟨d_24, h⟩ := ite_some h
        obtain ⟨⟨I2_24, L2_24⟩, e_24, h⟩ := Option.bind_eq_some_iff.mp h
        dsimp only at h
        refine q_fv2V (a_30 X hS (d := d - 1) (by omega) e_24) (by omega) (Nat.le_refl _) (Nat.le_refl _) rfl (Nat.le_of_ble_eq_true rfl) ⟨(zl hS 0 (by decide)), congrArg Prod.fst (sk hS 0 (by decide) rfl), by decide⟩ ?_
        refine q_aload rfl ?_
        refine q_iload rfl ?_
        obtain ⟨d_30, h⟩ := ite_some h
        obtain ⟨⟨I3_30, L3_30⟩, e_30, h⟩ := Option.bind_eq_some_iff.mp h
        dsimp only at h
        refine q_fv2V (a_30 X hS (d := d - 1) (by omega) e_30) (by omega) (Nat.le_refl _) (Nat.le_refl _) rfl (Nat.le_of_ble_eq_true rfl) ⟨(zl hS 0 (by decide)), congrArg Prod.fst (sk hS 0 (by decide) rfl), by decide⟩ ?_
        refine q_aload rfl ?_
        refine q_iload rfl ?_
        obtain ⟨d_36, h⟩ := ite_some h
        obtain ⟨⟨I4_36, L4_36⟩, e_36, h⟩ := Option.bind_eq_some_iff.mp h
        dsimp only at h
        refine q_fv2V (a_30 X hS (d := d - 1) (by omega) e_36) (by omega) (Nat.le_refl _) (Nat.le_refl _) rfl (Nat.le_of_ble_eq_true rfl) ⟨(zl hS 0 (by decide)), congrArg Prod.fst (sk hS 0 (by decide) rfl), by decide⟩ ?_
        refine q_aload rfl ?_
        refine q_getI (c0 := 11) (j := 13) rfl rfl (zl hS 0 (by decide)) (sk hS 0 (by decide) rfl) (Or.inl rfl) (by decide) ?_
        cases h
        exact q_iret rfl (Nat.le_refl _) (Nat.le_refl _) ⟨rfl, rfl⟩
      · rw [if_neg c_7] at h
        refine q_iconst (-1) (by decide) ?_
        cases h
        exact q_iret rfl (Nat.le_refl _) (Nat.le_refl _) ⟨rfl, rfl⟩
theorem a_29 (X : GX) {z : Nat} {kd : Nat → Nat × Nat} {Rf : Nat → Nat → Option Nat} (hS : Sh z kd Rf) {n dp d : Nat} (hd : dp ≤ d) {I : (Nat → Nat → Int32)} {L : (Nat → Nat → Int64)} {i1 : Int32} {i2 : Int32} {i3 : Int32} {i4 : Int32} {i5 : Int32} {I1 : (Nat → Nat → Int32)} {L1 : (Nat → Nat → Int64)} {r : Int32} (h : g_29 n dp (z, kd, Rf) 0 I L i1 i2 i3 i4 i5 = some (r, I1, L1)) : Ct X d 29 0 0 [.ref 0, .int i1, .int i2, .int i3, .int i4, .int i5] (z, kd, I, L, Rf) (AI (fun x τ => x = r ∧ τ = (z, kd, I1, L1, Rf))) :=
  Ct_of mu_29 (Nat.le_of_ble_eq_true rfl) ((w_29 X hS n dp d hd I L i1 i2 i3 i4 i5 _ _ _) h)

/-! 31 CutFloor.end(I)I -/
set_option maxHeartbeats 4000000 in
set_option maxRecDepth 100000 in
def g_31 : Nat → Nat → EN → Nat → (Nat → Nat → Int32) → (Nat → Nat → Int64) → Int32 →  Option (Int32 × (Nat → Nat → Int32) × (Nat → Nat → Int64))
  | 0, _, _, _, _, _, _ => none
  | n + 1, dp, e, lab, I, L, i1 =>
    if lab = 0 then (if 1 ≤ dp then (g_14 n (dp - 1) e 0 I L i1 (0 : Int32) (I 0 13)).bind (fun ⟨x0_6, I0_6, L0_6⟩ => (if x0_6 = 0 then (some ((-1 : Int32), I0_6, L0_6)) else (stI (u2 I0_6 0 13 i1) (fun I_16 => (some (i1, I_16, L0_6)))))) else none)
    else none
set_option maxRecDepth 100000 in
theorem e_31_0 (n dp : Nat) (e : EN) (I : (Nat → Nat → Int32)) (L : (Nat → Nat → Int64)) (i1 : Int32) : g_31 (n + 1) dp e 0 I L i1 = (if 1 ≤ dp then (g_14 n (dp - 1) e 0 I L i1 (0 : Int32) (I 0 13)).bind (fun ⟨x0_6, I0_6, L0_6⟩ => (if x0_6 = 0 then (some ((-1 : Int32), I0_6, L0_6)) else (stI (u2 I0_6 0 13 i1) (fun I_16 => (some (i1, I_16, L0_6)))))) else none) := by rw [g_31.eq_2, if_pos (show (0 : Nat) = 0 from rfl)]
set_option maxHeartbeats 8000000 in
set_option maxRecDepth 100000 in
theorem w_31 (X : GX) {z : Nat} {kd : Nat → Nat × Nat} {Rf : Nat → Nat → Option Nat} (hS : Sh z kd Rf) : ∀ (n dp d : Nat), dp ≤ d → ∀ (I : (Nat → Nat → Int32)) (L : (Nat → Nat → Int64)) (i1 : Int32) (r : Int32) (I1 : (Nat → Nat → Int32)) (L1 : (Nat → Nat → Int64)), (g_31 n dp (z, kd, Rf) 0 I L i1 = some (r, I1, L1) → K X d 31 0 0 (AI (fun x τ => x = r ∧ τ = (z, kd, I1, L1, Rf))) 0 [some (.ref 0), some (.int i1)] [] (z, kd, I, L, Rf) 0 0) := by
  intro n
  induction n with
  | zero => intro dp d hdp I L i1 r I1 L1; exact fun h => by cases h
  | succ n ih =>
    intro dp d hdp I L i1 r I1 L1
    · intro h
      rw [e_31_0] at h
      refine K_of b_31_0 h_31_0 ?_
      refine q_iload rfl ?_
      refine q_iconst (0) (by decide) ?_
      refine q_aload rfl ?_
      refine q_getI (c0 := 11) (j := 13) rfl rfl (zl hS 0 (by decide)) (sk hS 0 (by decide) rfl) (Or.inl rfl) (by decide) ?_
      obtain ⟨d_6, h⟩ := ite_some h
      obtain ⟨⟨x0_6, I0_6, L0_6⟩, e_6, h⟩ := Option.bind_eq_some_iff.mp h
      dsimp only at h
      refine q_fs3I (a_14 X hS (d := d - 1) (by omega) e_6) (by omega) (Nat.le_refl _) (Nat.le_refl _) rfl (Nat.le_of_ble_eq_true rfl) ?_
      refine q_if_ne (fun c_9 => ?_) (fun c_9 => ?_)
      · rw [if_neg c_9] at h
        refine K_of b_31_14 h_31_14 ?_
        refine q_aload rfl ?_
        refine q_iload rfl ?_
        refine q_putI (c0 := 11) (j := 13) rfl rfl (zl hS 0 (by decide)) (sk hS 0 (by decide) rfl) rfl ?_
        obtain ⟨I_16, nI_16, h⟩ := stI_some h
        refine q_nI nI_16 ?_
        refine q_iload rfl ?_
        cases h
        exact q_iret rfl (Nat.le_refl _) (Nat.le_refl _) ⟨rfl, rfl⟩
      · rw [if_pos c_9] at h
        refine q_iconst (-1) (by decide) ?_
        cases h
        exact q_iret rfl (Nat.le_refl _) (Nat.le_refl _) ⟨rfl, rfl⟩
theorem a_31 (X : GX) {z : Nat} {kd : Nat → Nat × Nat} {Rf : Nat → Nat → Option Nat} (hS : Sh z kd Rf) {n dp d : Nat} (hd : dp ≤ d) {I : (Nat → Nat → Int32)} {L : (Nat → Nat → Int64)} {i1 : Int32} {I1 : (Nat → Nat → Int32)} {L1 : (Nat → Nat → Int64)} {r : Int32} (h : g_31 n dp (z, kd, Rf) 0 I L i1 = some (r, I1, L1)) : Ct X d 31 0 0 [.ref 0, .int i1] (z, kd, I, L, Rf) (AI (fun x τ => x = r ∧ τ = (z, kd, I1, L1, Rf))) :=
  Ct_of mu_31 (Nat.le_of_ble_eq_true rfl) ((w_31 X hS n dp d hd I L i1 _ _ _) h)

/-! 36 java/util/Arrays.fill([II)V -/
set_option maxHeartbeats 4000000 in
set_option maxRecDepth 100000 in
def g_36 : Nat → Nat → EN → Nat → (Nat → Nat → Int32) → (Nat → Nat → Int64) → Int32 → Int32 → Int32 → Nat →  Option ((Nat → Nat → Int32) × (Nat → Nat → Int64))
  | 0, _, _, _, _, _, _, _, _, _ => none
  | n + 1, dp, e, lab, I, L, i1, i2, i3, a0 =>
    if lab = 0 then (if a0 < e.1 ∧ (e.2.1 a0).1 = 13 then (g_36 n dp e 1 I L i1 (0 : Int32) (nI (e.2.1 a0).2) a0) else none)
    else if lab = 1 then (if i3 ≤ i2 then (some (I, L)) else (if (a0 < e.1 ∧ (e.2.1 a0).1 = 13 ∧ (e.2.1 a0).2 < 2 ^ 31) ∧ 0 ≤ i2 ∧ (Int32.toNatClampNeg i2) < (e.2.1 a0).2 then (stI (u2 I a0 (Int32.toNatClampNeg i2) i1) (fun I_13 => (g_36 n dp e 1 I_13 L i1 (i2 + Int32.ofInt (1)) i3 a0))) else none))
    else none
set_option maxRecDepth 100000 in
theorem e_36_0 (n dp : Nat) (e : EN) (I : (Nat → Nat → Int32)) (L : (Nat → Nat → Int64)) (i1 : Int32) (i2 : Int32) (i3 : Int32) (a0 : Nat) : g_36 (n + 1) dp e 0 I L i1 i2 i3 a0 = (if a0 < e.1 ∧ (e.2.1 a0).1 = 13 then (g_36 n dp e 1 I L i1 (0 : Int32) (nI (e.2.1 a0).2) a0) else none) := by rw [g_36.eq_2, if_pos (show (0 : Nat) = 0 from rfl)]
set_option maxRecDepth 100000 in
theorem e_36_1 (n dp : Nat) (e : EN) (I : (Nat → Nat → Int32)) (L : (Nat → Nat → Int64)) (i1 : Int32) (i2 : Int32) (i3 : Int32) (a0 : Nat) : g_36 (n + 1) dp e 1 I L i1 i2 i3 a0 = (if i3 ≤ i2 then (some (I, L)) else (if (a0 < e.1 ∧ (e.2.1 a0).1 = 13 ∧ (e.2.1 a0).2 < 2 ^ 31) ∧ 0 ≤ i2 ∧ (Int32.toNatClampNeg i2) < (e.2.1 a0).2 then (stI (u2 I a0 (Int32.toNatClampNeg i2) i1) (fun I_13 => (g_36 n dp e 1 I_13 L i1 (i2 + Int32.ofInt (1)) i3 a0))) else none)) := by rw [g_36.eq_2, if_neg (show ¬ ((1 : Nat) = 0) by decide), if_pos (show (1 : Nat) = 1 from rfl)]
set_option maxHeartbeats 8000000 in
set_option maxRecDepth 100000 in
theorem w_36 (X : GX) {z : Nat} {kd : Nat → Nat × Nat} {Rf : Nat → Nat → Option Nat} (hS : Sh z kd Rf) : ∀ (n dp d : Nat), dp ≤ d → ∀ (I : (Nat → Nat → Int32)) (L : (Nat → Nat → Int64)) (i1 : Int32) (i2 : Int32) (i3 : Int32) (a0 : Nat) (I1 : (Nat → Nat → Int32)) (L1 : (Nat → Nat → Int64)), (g_36 n dp (z, kd, Rf) 0 I L i1 i2 i3 a0 = some (I1, L1) → K X d 36 0 0 (AV (fun τ => τ = (z, kd, I1, L1, Rf))) 0 [some (.ref a0), some (.int i1), none, none] [] (z, kd, I, L, Rf) 0 0) ∧
    (g_36 n dp (z, kd, Rf) 1 I L i1 i2 i3 a0 = some (I1, L1) → K X d 36 0 0 (AV (fun τ => τ = (z, kd, I1, L1, Rf))) 5 [some (.ref a0), some (.int i1), some (.int i2), some (.int i3)] [] (z, kd, I, L, Rf) 0 0) := by
  intro n
  induction n with
  | zero => intro dp d hdp I L i1 i2 i3 a0 I1 L1; exact ⟨(fun h => by cases h), (fun h => by cases h)⟩
  | succ n ih =>
    intro dp d hdp I L i1 i2 i3 a0 I1 L1
    refine ⟨?_, ?_⟩
    · intro h
      rw [e_36_0] at h
      refine K_of b_36_0 h_36_0 ?_
      refine q_iconst (0) (by decide) ?_
      refine q_istore (ls1 := [some (.ref a0), some (.int i1), some (.int (0 : Int32)), none]) (Nat.le_of_ble_eq_true rfl) rfl ?_
      refine q_aload rfl ?_
      obtain ⟨⟨z_3, k_3⟩, h⟩ := ite_some h
      refine q_alen z_3 (fst_eq k_3) (by decide) (by decide) ?_
      refine q_istore (ls1 := [some (.ref a0), some (.int i1), some (.int (0 : Int32)), some (.int (nI (kd a0).2))]) (Nat.le_of_ble_eq_true rfl) rfl ?_
      refine q_end ?_
      exact (ih dp d hdp _ _ i1 (0 : Int32) (nI (kd a0).2) a0 _ _).2 h
    · intro h
      rw [e_36_1] at h
      refine K_of b_36_5 h_36_5 ?_
      refine q_iload rfl ?_
      refine q_iload rfl ?_
      refine q_icmp_ge (fun c_7 => ?_) (fun c_7 => ?_)
      · rw [if_pos c_7] at h
        refine K_of b_36_20 h_36_20 ?_
        cases h
        exact q_vret rfl (Nat.le_refl _) (Nat.le_refl _) rfl
      · rw [if_neg c_7] at h
        refine q_aload rfl ?_
        refine q_iload rfl ?_
        refine q_iload rfl ?_
        obtain ⟨⟨⟨z_13, k_13, m_13⟩, u_13, v_13⟩, h⟩ := ite_some h
        refine q_iasN (Int32.toNatClampNeg i2) (nx u_13) z_13 (fst_eq k_13) v_13 m_13 ?_
        obtain ⟨I_13, nI_13, h⟩ := stI_some h
        refine q_nI nI_13 ?_
        refine q_iinc (ls1 := [some (.ref a0), some (.int i1), some (.int (i2 + Int32.ofInt (1))), some (.int i3)]) rfl rfl ?_
        refine q_goto ?_
        exact (ih dp d hdp _ _ i1 (i2 + Int32.ofInt (1)) i3 a0 _ _).2 h
theorem a_36 (X : GX) {z : Nat} {kd : Nat → Nat × Nat} {Rf : Nat → Nat → Option Nat} (hS : Sh z kd Rf) {n dp d : Nat} (hd : dp ≤ d) {I : (Nat → Nat → Int32)} {L : (Nat → Nat → Int64)} {a0 : Nat} {i1 : Int32} {I1 : (Nat → Nat → Int32)} {L1 : (Nat → Nat → Int64)} (h : g_36 n dp (z, kd, Rf) 0 I L i1 0 0 a0 = some (I1, L1)) : Ct X d 36 0 0 [.ref a0, .int i1] (z, kd, I, L, Rf) (AV (fun τ => τ = (z, kd, I1, L1, Rf))) :=
  Ct_of mu_36 (Nat.le_of_ble_eq_true rfl) ((w_36 X hS n dp d hd I L i1 0 0 a0 _ _).1 h)

/-! 35 CutFloor$Tree.clear()V -/
set_option maxHeartbeats 4000000 in
set_option maxRecDepth 100000 in
def g_35 : Nat → Nat → EN → Nat → (Nat → Nat → Int32) → (Nat → Nat → Int64) → Nat →  Option ((Nat → Nat → Int32) × (Nat → Nat → Int64))
  | 0, _, _, _, _, _, _ => none
  | n + 1, dp, e, lab, I, L, a0 =>
    if lab = 0 then (if a0 < e.1 ∧ (e.2.1 a0).1 = 10 then ((e.2.2 a0 7).bind (fun b_1 => (if 1 ≤ dp then (g_36 n (dp - 1) e 0 I L (0 : Int32) 0 0 b_1).bind (fun ⟨I0_5, L0_5⟩ => (if a0 < e.1 ∧ (e.2.1 a0).1 = 10 then (stI (u2 I0_5 a0 10 (0 : Int32)) (fun I_10 => (if a0 < e.1 ∧ (e.2.1 a0).1 = 10 then (stI (u2 I_10 a0 11 (0 : Int32)) (fun I_15 => (if a0 < e.1 ∧ (e.2.1 a0).1 = 10 then (stI (u2 I_15 a0 12 (0 : Int32)) (fun I_20 => (some (I_20, L0_5)))) else none))) else none))) else none)) else none))) else none)
    else none
set_option maxRecDepth 100000 in
theorem e_35_0 (n dp : Nat) (e : EN) (I : (Nat → Nat → Int32)) (L : (Nat → Nat → Int64)) (a0 : Nat) : g_35 (n + 1) dp e 0 I L a0 = (if a0 < e.1 ∧ (e.2.1 a0).1 = 10 then ((e.2.2 a0 7).bind (fun b_1 => (if 1 ≤ dp then (g_36 n (dp - 1) e 0 I L (0 : Int32) 0 0 b_1).bind (fun ⟨I0_5, L0_5⟩ => (if a0 < e.1 ∧ (e.2.1 a0).1 = 10 then (stI (u2 I0_5 a0 10 (0 : Int32)) (fun I_10 => (if a0 < e.1 ∧ (e.2.1 a0).1 = 10 then (stI (u2 I_10 a0 11 (0 : Int32)) (fun I_15 => (if a0 < e.1 ∧ (e.2.1 a0).1 = 10 then (stI (u2 I_15 a0 12 (0 : Int32)) (fun I_20 => (some (I_20, L0_5)))) else none))) else none))) else none)) else none))) else none) := by rw [g_35.eq_2, if_pos (show (0 : Nat) = 0 from rfl)]
set_option maxHeartbeats 8000000 in
set_option maxRecDepth 100000 in
theorem w_35 (X : GX) {z : Nat} {kd : Nat → Nat × Nat} {Rf : Nat → Nat → Option Nat} (hS : Sh z kd Rf) : ∀ (n dp d : Nat), dp ≤ d → ∀ (I : (Nat → Nat → Int32)) (L : (Nat → Nat → Int64)) (a0 : Nat) (I1 : (Nat → Nat → Int32)) (L1 : (Nat → Nat → Int64)), (g_35 n dp (z, kd, Rf) 0 I L a0 = some (I1, L1) → K X d 35 0 0 (AV (fun τ => τ = (z, kd, I1, L1, Rf))) 0 [some (.ref a0)] [] (z, kd, I, L, Rf) 0 0) := by
  intro n
  induction n with
  | zero => intro dp d hdp I L a0 I1 L1; exact fun h => by cases h
  | succ n ih =>
    intro dp d hdp I L a0 I1 L1
    · intro h
      rw [e_35_0] at h
      refine K_of b_35_0 h_35_0 ?_
      refine q_aload rfl ?_
      obtain ⟨⟨z_1, k_1⟩, h⟩ := ite_some h
      obtain ⟨b_1, r_1, h⟩ := Option.bind_eq_some_iff.mp h
      refine q_getRs (c0 := 10) (j := 7) rfl rfl z_1 (fst_eq k_1) rfl (by decide) r_1 ?_
      refine q_iconst (0) (by decide) ?_
      obtain ⟨d_5, h⟩ := ite_some h
      obtain ⟨⟨I0_5, L0_5⟩, e_5, h⟩ := Option.bind_eq_some_iff.mp h
      dsimp only at h
      refine q_fs2V (a_36 X hS (d := d - 1) (by omega) e_5) (by omega) (Nat.le_refl _) (Nat.le_refl _) rfl (Nat.le_of_ble_eq_true rfl) ?_
      refine q_aload rfl ?_
      refine q_iconst (0) (by decide) ?_
      obtain ⟨⟨z_10, k_10⟩, h⟩ := ite_some h
      refine q_putI (c0 := 10) (j := 10) rfl rfl z_10 (fst_eq k_10) rfl ?_
      obtain ⟨I_10, nI_10, h⟩ := stI_some h
      refine q_nI nI_10 ?_
      refine q_aload rfl ?_
      refine q_iconst (0) (by decide) ?_
      obtain ⟨⟨z_15, k_15⟩, h⟩ := ite_some h
      refine q_putI (c0 := 10) (j := 11) rfl rfl z_15 (fst_eq k_15) rfl ?_
      obtain ⟨I_15, nI_15, h⟩ := stI_some h
      refine q_nI nI_15 ?_
      refine q_aload rfl ?_
      refine q_iconst (0) (by decide) ?_
      obtain ⟨⟨z_20, k_20⟩, h⟩ := ite_some h
      refine q_putI (c0 := 10) (j := 12) rfl rfl z_20 (fst_eq k_20) rfl ?_
      obtain ⟨I_20, nI_20, h⟩ := stI_some h
      refine q_nI nI_20 ?_
      cases h
      exact q_vret rfl (Nat.le_refl _) (Nat.le_refl _) rfl
theorem a_35 (X : GX) {z : Nat} {kd : Nat → Nat × Nat} {Rf : Nat → Nat → Option Nat} (hS : Sh z kd Rf) {n dp d : Nat} (hd : dp ≤ d) {I : (Nat → Nat → Int32)} {L : (Nat → Nat → Int64)} {a0 : Nat} {I1 : (Nat → Nat → Int32)} {L1 : (Nat → Nat → Int64)} (h : g_35 n dp (z, kd, Rf) 0 I L a0 = some (I1, L1)) : Ct X d 35 0 0 [.ref a0] (z, kd, I, L, Rf) (AV (fun τ => τ = (z, kd, I1, L1, Rf))) :=
  Ct_of mu_35 (Nat.le_of_ble_eq_true rfl) ((w_35 X hS n dp d hd I L a0 _ _) h)

/-! 38 CutFloor$Reader.isLetter(I)Z -/
set_option maxHeartbeats 4000000 in
set_option maxRecDepth 100000 in
def g_38 : Nat → Nat → EN → Nat → (Nat → Nat → Int32) → (Nat → Nat → Int64) → Int32 →  Option (Int32 × (Nat → Nat → Int32) × (Nat → Nat → Int64))
  | 0, _, _, _, _, _, _ => none
  | n + 1, dp, e, lab, I, L, i0 =>
    if lab = 0 then (if i0 < (97 : Int32) then (some ((0 : Int32), I, L)) else (if (122 : Int32) < i0 then (some ((0 : Int32), I, L)) else (some ((1 : Int32), I, L))))
    else none
set_option maxRecDepth 100000 in
theorem e_38_0 (n dp : Nat) (e : EN) (I : (Nat → Nat → Int32)) (L : (Nat → Nat → Int64)) (i0 : Int32) : g_38 (n + 1) dp e 0 I L i0 = (if i0 < (97 : Int32) then (some ((0 : Int32), I, L)) else (if (122 : Int32) < i0 then (some ((0 : Int32), I, L)) else (some ((1 : Int32), I, L)))) := by rw [g_38.eq_2, if_pos (show (0 : Nat) = 0 from rfl)]
set_option maxHeartbeats 8000000 in
set_option maxRecDepth 100000 in
theorem w_38 (X : GX) {z : Nat} {kd : Nat → Nat × Nat} {Rf : Nat → Nat → Option Nat} (hS : Sh z kd Rf) : ∀ (n dp d : Nat), dp ≤ d → ∀ (I : (Nat → Nat → Int32)) (L : (Nat → Nat → Int64)) (i0 : Int32) (r : Int32) (I1 : (Nat → Nat → Int32)) (L1 : (Nat → Nat → Int64)), (g_38 n dp (z, kd, Rf) 0 I L i0 = some (r, I1, L1) → K X d 38 0 0 (AI (fun x τ => x = r ∧ τ = (z, kd, I1, L1, Rf))) 0 [some (.int i0)] [] (z, kd, I, L, Rf) 0 0) := by
  intro n
  induction n with
  | zero => intro dp d hdp I L i0 r I1 L1; exact fun h => by cases h
  | succ n ih =>
    intro dp d hdp I L i0 r I1 L1
    · intro h
      rw [e_38_0] at h
      refine K_of b_38_0 h_38_0 ?_
      refine q_iload rfl ?_
      refine q_iconst (97) (by decide) ?_
      refine q_icmp_lt (fun c_3 => ?_) (fun c_3 => ?_)
      · rw [if_pos c_3] at h
        refine K_of b_38_16 h_38_16 ?_
        refine q_iconst (0) (by decide) ?_
        refine q_end ?_
        refine K_of b_38_17 h_38_17 ?_
        cases h
        exact q_iret rfl (Nat.le_refl _) (Nat.le_refl _) ⟨rfl, rfl⟩
      · rw [if_neg c_3] at h
        refine q_iload rfl ?_
        refine q_iconst (122) (by decide) ?_
        refine q_icmp_gt (fun c_9 => ?_) (fun c_9 => ?_)
        · rw [if_pos c_9] at h
          refine K_of b_38_16 h_38_16 ?_
          refine q_iconst (0) (by decide) ?_
          refine q_end ?_
          refine K_of b_38_17 h_38_17 ?_
          cases h
          exact q_iret rfl (Nat.le_refl _) (Nat.le_refl _) ⟨rfl, rfl⟩
        · rw [if_neg c_9] at h
          refine q_iconst (1) (by decide) ?_
          refine q_goto ?_
          refine K_of b_38_17 h_38_17 ?_
          cases h
          exact q_iret rfl (Nat.le_refl _) (Nat.le_refl _) ⟨rfl, rfl⟩
theorem a_38 (X : GX) {z : Nat} {kd : Nat → Nat × Nat} {Rf : Nat → Nat → Option Nat} (hS : Sh z kd Rf) {n dp d : Nat} (hd : dp ≤ d) {I : (Nat → Nat → Int32)} {L : (Nat → Nat → Int64)} {i0 : Int32} {I1 : (Nat → Nat → Int32)} {L1 : (Nat → Nat → Int64)} {r : Int32} (h : g_38 n dp (z, kd, Rf) 0 I L i0 = some (r, I1, L1)) : Ct X d 38 0 0 [.int i0] (z, kd, I, L, Rf) (AI (fun x τ => x = r ∧ τ = (z, kd, I1, L1, Rf))) :=
  Ct_of mu_38 (Nat.le_of_ble_eq_true rfl) ((w_38 X hS n dp d hd I L i0 _ _ _) h)

/-! 39 CutFloor$Reader.isDigit(I)Z -/
set_option maxHeartbeats 4000000 in
set_option maxRecDepth 100000 in
def g_39 : Nat → Nat → EN → Nat → (Nat → Nat → Int32) → (Nat → Nat → Int64) → Int32 →  Option (Int32 × (Nat → Nat → Int32) × (Nat → Nat → Int64))
  | 0, _, _, _, _, _, _ => none
  | n + 1, dp, e, lab, I, L, i0 =>
    if lab = 0 then (if i0 < (48 : Int32) then (some ((0 : Int32), I, L)) else (if (57 : Int32) < i0 then (some ((0 : Int32), I, L)) else (some ((1 : Int32), I, L))))
    else none
set_option maxRecDepth 100000 in
theorem e_39_0 (n dp : Nat) (e : EN) (I : (Nat → Nat → Int32)) (L : (Nat → Nat → Int64)) (i0 : Int32) : g_39 (n + 1) dp e 0 I L i0 = (if i0 < (48 : Int32) then (some ((0 : Int32), I, L)) else (if (57 : Int32) < i0 then (some ((0 : Int32), I, L)) else (some ((1 : Int32), I, L)))) := by rw [g_39.eq_2, if_pos (show (0 : Nat) = 0 from rfl)]
set_option maxHeartbeats 8000000 in
set_option maxRecDepth 100000 in
theorem w_39 (X : GX) {z : Nat} {kd : Nat → Nat × Nat} {Rf : Nat → Nat → Option Nat} (hS : Sh z kd Rf) : ∀ (n dp d : Nat), dp ≤ d → ∀ (I : (Nat → Nat → Int32)) (L : (Nat → Nat → Int64)) (i0 : Int32) (r : Int32) (I1 : (Nat → Nat → Int32)) (L1 : (Nat → Nat → Int64)), (g_39 n dp (z, kd, Rf) 0 I L i0 = some (r, I1, L1) → K X d 39 0 0 (AI (fun x τ => x = r ∧ τ = (z, kd, I1, L1, Rf))) 0 [some (.int i0)] [] (z, kd, I, L, Rf) 0 0) := by
  intro n
  induction n with
  | zero => intro dp d hdp I L i0 r I1 L1; exact fun h => by cases h
  | succ n ih =>
    intro dp d hdp I L i0 r I1 L1
    · intro h
      rw [e_39_0] at h
      refine K_of b_39_0 h_39_0 ?_
      refine q_iload rfl ?_
      refine q_iconst (48) (by decide) ?_
      refine q_icmp_lt (fun c_3 => ?_) (fun c_3 => ?_)
      · rw [if_pos c_3] at h
        refine K_of b_39_16 h_39_16 ?_
        refine q_iconst (0) (by decide) ?_
        refine q_end ?_
        refine K_of b_39_17 h_39_17 ?_
        cases h
        exact q_iret rfl (Nat.le_refl _) (Nat.le_refl _) ⟨rfl, rfl⟩
      · rw [if_neg c_3] at h
        refine q_iload rfl ?_
        refine q_iconst (57) (by decide) ?_
        refine q_icmp_gt (fun c_9 => ?_) (fun c_9 => ?_)
        · rw [if_pos c_9] at h
          refine K_of b_39_16 h_39_16 ?_
          refine q_iconst (0) (by decide) ?_
          refine q_end ?_
          refine K_of b_39_17 h_39_17 ?_
          cases h
          exact q_iret rfl (Nat.le_refl _) (Nat.le_refl _) ⟨rfl, rfl⟩
        · rw [if_neg c_9] at h
          refine q_iconst (1) (by decide) ?_
          refine q_goto ?_
          refine K_of b_39_17 h_39_17 ?_
          cases h
          exact q_iret rfl (Nat.le_refl _) (Nat.le_refl _) ⟨rfl, rfl⟩
theorem a_39 (X : GX) {z : Nat} {kd : Nat → Nat × Nat} {Rf : Nat → Nat → Option Nat} (hS : Sh z kd Rf) {n dp d : Nat} (hd : dp ≤ d) {I : (Nat → Nat → Int32)} {L : (Nat → Nat → Int64)} {i0 : Int32} {I1 : (Nat → Nat → Int32)} {L1 : (Nat → Nat → Int64)} {r : Int32} (h : g_39 n dp (z, kd, Rf) 0 I L i0 = some (r, I1, L1)) : Ct X d 39 0 0 [.int i0] (z, kd, I, L, Rf) (AI (fun x τ => x = r ∧ τ = (z, kd, I1, L1, Rf))) :=
  Ct_of mu_39 (Nat.le_of_ble_eq_true rfl) ((w_39 X hS n dp d hd I L i0 _ _ _) h)

/-! 37 CutFloor$Reader.goOn()V -/
set_option maxHeartbeats 4000000 in
set_option maxRecDepth 100000 in
def g_37 : Nat → Nat → EN → Nat → (Nat → Nat → Int32) → (Nat → Nat → Int64) → Int32 →  Option ((Nat → Nat → Int32) × (Nat → Nat → Int64))
  | 0, _, _, _, _, _, _ => none
  | n + 1, dp, e, lab, I, L, i1 =>
    if lab = 0 then (g_37 n dp e 1 I L (I 104 5))
    else if lab = 1 then (if (I 104 2) ≤ i1 then (g_37 n dp e 2 I L i1) else (if 0 ≤ i1 ∧ (Int32.toNatClampNeg i1) < 400 then (if (I 89 (Int32.toNatClampNeg i1)) = (32 : Int32) then (g_37 n dp e 1 I L (i1 + Int32.ofInt (1))) else (g_37 n dp e 2 I L i1)) else none))
    else if lab = 2 then (stI (u2 I 104 4 i1) (fun I_32 => (if i1 < (I_32 104 2) then (if 0 ≤ i1 ∧ (Int32.toNatClampNeg i1) < 400 then (if 1 ≤ dp then (g_38 n (dp - 1) e 0 I_32 L (I_32 89 (Int32.toNatClampNeg i1))).bind (fun ⟨x0_57, I0_57, L0_57⟩ => (if x0_57 = 0 then (if 0 ≤ i1 ∧ (Int32.toNatClampNeg i1) < 400 then (if 1 ≤ dp then (g_39 n (dp - 1) e 0 I0_57 L0_57 (I0_57 89 (Int32.toNatClampNeg i1))).bind (fun ⟨x1_100, I1_100, L1_100⟩ => (if x1_100 = 0 then (stI (u2 I1_100 104 3 (3 : Int32)) (fun I_170 => (stI (u2 I_170 104 5 (i1 + Int32.ofInt (1))) (fun I_178 => (some (I_178, L1_100)))))) else (stI (u2 I1_100 104 3 (2 : Int32)) (fun I_108 => (stI (u2 I_108 104 6 (0 : Int32)) (fun I_113 => (g_37 n dp e 4 I_113 L1_100 i1))))))) else none) else none) else (stI (u2 I0_57 104 3 (1 : Int32)) (fun I_65 => (g_37 n dp e 3 I_65 L0_57 i1))))) else none) else none) else (stI (u2 I_32 104 3 (0 : Int32)) (fun I_45 => (stI (u2 I_45 104 5 i1) (fun I_178 => (some (I_178, L)))))))))
    else if lab = 3 then (if (I 104 2) ≤ i1 then (stI (u2 I 104 5 i1) (fun I_178 => (some (I_178, L)))) else (if 0 ≤ i1 ∧ (Int32.toNatClampNeg i1) < 400 then (if 1 ≤ dp then (g_38 n (dp - 1) e 0 I L (I 89 (Int32.toNatClampNeg i1))).bind (fun ⟨x0_82, I0_82, L0_82⟩ => (if x0_82 = 0 then (stI (u2 I0_82 104 5 i1) (fun I_178 => (some (I_178, L0_82)))) else (g_37 n dp e 3 I0_82 L0_82 (i1 + Int32.ofInt (1))))) else none) else none))
    else if lab = 4 then (if (I 104 2) ≤ i1 then (stI (u2 I 104 5 i1) (fun I_178 => (some (I_178, L)))) else (if 0 ≤ i1 ∧ (Int32.toNatClampNeg i1) < 400 then (if 1 ≤ dp then (g_39 n (dp - 1) e 0 I L (I 89 (Int32.toNatClampNeg i1))).bind (fun ⟨x0_130, I0_130, L0_130⟩ => (if x0_130 = 0 then (stI (u2 I0_130 104 5 i1) (fun I_178 => (some (I_178, L0_130)))) else (if 0 ≤ i1 ∧ (Int32.toNatClampNeg i1) < 400 then (if 1 ≤ dp then (stI (u2 I0_130 104 6 (if ((((I0_130 104 6) * (10 : Int32)) + (I0_130 89 (Int32.toNatClampNeg i1))) - (48 : Int32)) < (100000 : Int32) then ((((I0_130 104 6) * (10 : Int32)) + (I0_130 89 (Int32.toNatClampNeg i1))) - (48 : Int32)) else (100000 : Int32))) (fun I_159 => (g_37 n dp e 4 I_159 L0_130 (i1 + Int32.ofInt (1))))) else none) else none))) else none) else none))
    else none
set_option maxRecDepth 100000 in
theorem e_37_0 (n dp : Nat) (e : EN) (I : (Nat → Nat → Int32)) (L : (Nat → Nat → Int64)) (i1 : Int32) : g_37 (n + 1) dp e 0 I L i1 = (g_37 n dp e 1 I L (I 104 5)) := by rw [g_37.eq_2, if_pos (show (0 : Nat) = 0 from rfl)]
set_option maxRecDepth 100000 in
theorem e_37_1 (n dp : Nat) (e : EN) (I : (Nat → Nat → Int32)) (L : (Nat → Nat → Int64)) (i1 : Int32) : g_37 (n + 1) dp e 1 I L i1 = (if (I 104 2) ≤ i1 then (g_37 n dp e 2 I L i1) else (if 0 ≤ i1 ∧ (Int32.toNatClampNeg i1) < 400 then (if (I 89 (Int32.toNatClampNeg i1)) = (32 : Int32) then (g_37 n dp e 1 I L (i1 + Int32.ofInt (1))) else (g_37 n dp e 2 I L i1)) else none)) := by rw [g_37.eq_2, if_neg (show ¬ ((1 : Nat) = 0) by decide), if_pos (show (1 : Nat) = 1 from rfl)]
set_option maxRecDepth 100000 in
theorem e_37_2 (n dp : Nat) (e : EN) (I : (Nat → Nat → Int32)) (L : (Nat → Nat → Int64)) (i1 : Int32) : g_37 (n + 1) dp e 2 I L i1 = (stI (u2 I 104 4 i1) (fun I_32 => (if i1 < (I_32 104 2) then (if 0 ≤ i1 ∧ (Int32.toNatClampNeg i1) < 400 then (if 1 ≤ dp then (g_38 n (dp - 1) e 0 I_32 L (I_32 89 (Int32.toNatClampNeg i1))).bind (fun ⟨x0_57, I0_57, L0_57⟩ => (if x0_57 = 0 then (if 0 ≤ i1 ∧ (Int32.toNatClampNeg i1) < 400 then (if 1 ≤ dp then (g_39 n (dp - 1) e 0 I0_57 L0_57 (I0_57 89 (Int32.toNatClampNeg i1))).bind (fun ⟨x1_100, I1_100, L1_100⟩ => (if x1_100 = 0 then (stI (u2 I1_100 104 3 (3 : Int32)) (fun I_170 => (stI (u2 I_170 104 5 (i1 + Int32.ofInt (1))) (fun I_178 => (some (I_178, L1_100)))))) else (stI (u2 I1_100 104 3 (2 : Int32)) (fun I_108 => (stI (u2 I_108 104 6 (0 : Int32)) (fun I_113 => (g_37 n dp e 4 I_113 L1_100 i1))))))) else none) else none) else (stI (u2 I0_57 104 3 (1 : Int32)) (fun I_65 => (g_37 n dp e 3 I_65 L0_57 i1))))) else none) else none) else (stI (u2 I_32 104 3 (0 : Int32)) (fun I_45 => (stI (u2 I_45 104 5 i1) (fun I_178 => (some (I_178, L))))))))) := by rw [g_37.eq_2, if_neg (show ¬ ((2 : Nat) = 0) by decide), if_neg (show ¬ ((2 : Nat) = 1) by decide), if_pos (show (2 : Nat) = 2 from rfl)]
set_option maxRecDepth 100000 in
theorem e_37_3 (n dp : Nat) (e : EN) (I : (Nat → Nat → Int32)) (L : (Nat → Nat → Int64)) (i1 : Int32) : g_37 (n + 1) dp e 3 I L i1 = (if (I 104 2) ≤ i1 then (stI (u2 I 104 5 i1) (fun I_178 => (some (I_178, L)))) else (if 0 ≤ i1 ∧ (Int32.toNatClampNeg i1) < 400 then (if 1 ≤ dp then (g_38 n (dp - 1) e 0 I L (I 89 (Int32.toNatClampNeg i1))).bind (fun ⟨x0_82, I0_82, L0_82⟩ => (if x0_82 = 0 then (stI (u2 I0_82 104 5 i1) (fun I_178 => (some (I_178, L0_82)))) else (g_37 n dp e 3 I0_82 L0_82 (i1 + Int32.ofInt (1))))) else none) else none)) := by rw [g_37.eq_2, if_neg (show ¬ ((3 : Nat) = 0) by decide), if_neg (show ¬ ((3 : Nat) = 1) by decide), if_neg (show ¬ ((3 : Nat) = 2) by decide), if_pos (show (3 : Nat) = 3 from rfl)]
set_option maxRecDepth 100000 in
theorem e_37_4 (n dp : Nat) (e : EN) (I : (Nat → Nat → Int32)) (L : (Nat → Nat → Int64)) (i1 : Int32) : g_37 (n + 1) dp e 4 I L i1 = (if (I 104 2) ≤ i1 then (stI (u2 I 104 5 i1) (fun I_178 => (some (I_178, L)))) else (if 0 ≤ i1 ∧ (Int32.toNatClampNeg i1) < 400 then (if 1 ≤ dp then (g_39 n (dp - 1) e 0 I L (I 89 (Int32.toNatClampNeg i1))).bind (fun ⟨x0_130, I0_130, L0_130⟩ => (if x0_130 = 0 then (stI (u2 I0_130 104 5 i1) (fun I_178 => (some (I_178, L0_130)))) else (if 0 ≤ i1 ∧ (Int32.toNatClampNeg i1) < 400 then (if 1 ≤ dp then (stI (u2 I0_130 104 6 (if ((((I0_130 104 6) * (10 : Int32)) + (I0_130 89 (Int32.toNatClampNeg i1))) - (48 : Int32)) < (100000 : Int32) then ((((I0_130 104 6) * (10 : Int32)) + (I0_130 89 (Int32.toNatClampNeg i1))) - (48 : Int32)) else (100000 : Int32))) (fun I_159 => (g_37 n dp e 4 I_159 L0_130 (i1 + Int32.ofInt (1))))) else none) else none))) else none) else none)) := by rw [g_37.eq_2, if_neg (show ¬ ((4 : Nat) = 0) by decide), if_neg (show ¬ ((4 : Nat) = 1) by decide), if_neg (show ¬ ((4 : Nat) = 2) by decide), if_neg (show ¬ ((4 : Nat) = 3) by decide), if_pos (show (4 : Nat) = 4 from rfl)]
set_option maxHeartbeats 8000000 in
set_option maxRecDepth 100000 in
theorem w_37 (X : GX) {z : Nat} {kd : Nat → Nat × Nat} {Rf : Nat → Nat → Option Nat} (hS : Sh z kd Rf) : ∀ (n dp d : Nat), dp ≤ d → ∀ (I : (Nat → Nat → Int32)) (L : (Nat → Nat → Int64)) (i1 : Int32) (I1 : (Nat → Nat → Int32)) (L1 : (Nat → Nat → Int64)), (g_37 n dp (z, kd, Rf) 0 I L i1 = some (I1, L1) → K X d 37 0 0 (AV (fun τ => τ = (z, kd, I1, L1, Rf))) 0 [some (.ref 104), none] [] (z, kd, I, L, Rf) 0 0) ∧
    (g_37 n dp (z, kd, Rf) 1 I L i1 = some (I1, L1) → K X d 37 0 0 (AV (fun τ => τ = (z, kd, I1, L1, Rf))) 5 [some (.ref 104), some (.int i1)] [] (z, kd, I, L, Rf) 0 0) ∧
    (g_37 n dp (z, kd, Rf) 2 I L i1 = some (I1, L1) → K X d 37 0 0 (AV (fun τ => τ = (z, kd, I1, L1, Rf))) 30 [some (.ref 104), some (.int i1)] [] (z, kd, I, L, Rf) 0 0) ∧
    (g_37 n dp (z, kd, Rf) 3 I L i1 = some (I1, L1) → K X d 37 0 0 (AV (fun τ => τ = (z, kd, I1, L1, Rf))) 68 [some (.ref 104), some (.int i1)] [] (z, kd, I, L, Rf) 0 0) ∧
    (g_37 n dp (z, kd, Rf) 4 I L i1 = some (I1, L1) → K X d 37 0 0 (AV (fun τ => τ = (z, kd, I1, L1, Rf))) 116 [some (.ref 104), some (.int i1)] [] (z, kd, I, L, Rf) 0 0) := by
  intro n
  induction n with
  | zero => intro dp d hdp I L i1 I1 L1; exact ⟨(fun h => by cases h), (fun h => by cases h), (fun h => by cases h), (fun h => by cases h), (fun h => by cases h)⟩
  | succ n ih =>
    intro dp d hdp I L i1 I1 L1
    refine ⟨?_, ?_, ?_, ?_, ?_⟩
    · intro h
      rw [e_37_0] at h
      refine K_of b_37_0 h_37_0 ?_
      refine q_aload rfl ?_
      refine q_getI (c0 := 8) (j := 5) rfl rfl (zl hS 104 (by decide)) (sk hS 104 (by decide) rfl) (Or.inl rfl) (by decide) ?_
      refine q_istore (ls1 := [some (.ref 104), some (.int (I 104 5))]) (Nat.le_of_ble_eq_true rfl) rfl ?_
      refine q_end ?_
      exact (ih dp d hdp _ _ (I 104 5) _ _).2.1 h
    · intro h
      rw [e_37_1] at h
      refine K_of b_37_5 h_37_5 ?_
      refine q_iload rfl ?_
      refine q_aload rfl ?_
      refine q_getI (c0 := 8) (j := 2) rfl rfl (zl hS 104 (by decide)) (sk hS 104 (by decide) rfl) (Or.inl rfl) (by decide) ?_
      refine q_icmp_ge (fun c_10 => ?_) (fun c_10 => ?_)
      · rw [if_pos c_10] at h
        exact (ih dp d hdp _ _ i1 _ _).2.2.1 h
      · rw [if_neg c_10] at h
        refine q_aload rfl ?_
        refine q_getRs (c0 := 8) (j := 0) rfl rfl (zl hS 104 (by decide)) (sk hS 104 (by decide) rfl) rfl (by decide) (r_104_0 hS) ?_
        refine q_iload rfl ?_
        obtain ⟨⟨u_18, v_18⟩, h⟩ := ite_some h
        refine q_ialN (Int32.toNatClampNeg i1) (nx u_18) (zl hS 89 (by decide)) (sk hS 89 (by decide) rfl) v_18 (by decide) ?_
        refine q_iconst (32) (by decide) ?_
        refine q_icmp_ne (fun c_21 => ?_) (fun c_21 => ?_)
        · rw [if_neg c_21] at h
          exact (ih dp d hdp _ _ i1 _ _).2.2.1 h
        · rw [if_pos c_21] at h
          refine q_iinc (ls1 := [some (.ref 104), some (.int (i1 + Int32.ofInt (1)))]) rfl rfl ?_
          refine q_goto ?_
          exact (ih dp d hdp _ _ (i1 + Int32.ofInt (1)) _ _).2.1 h
    · intro h
      rw [e_37_2] at h
      refine K_of b_37_30 h_37_30 ?_
      refine q_aload rfl ?_
      refine q_iload rfl ?_
      refine q_putI (c0 := 8) (j := 4) rfl rfl (zl hS 104 (by decide)) (sk hS 104 (by decide) rfl) rfl ?_
      obtain ⟨I_32, nI_32, h⟩ := stI_some h
      refine q_nI nI_32 ?_
      refine q_iload rfl ?_
      refine q_aload rfl ?_
      refine q_getI (c0 := 8) (j := 2) rfl rfl (zl hS 104 (by decide)) (sk hS 104 (by decide) rfl) (Or.inl rfl) (by decide) ?_
      refine q_icmp_lt (fun c_40 => ?_) (fun c_40 => ?_)
      · rw [if_pos c_40] at h
        refine K_of b_37_51 h_37_51 ?_
        refine q_aload rfl ?_
        refine q_getRs (c0 := 8) (j := 0) rfl rfl (zl hS 104 (by decide)) (sk hS 104 (by decide) rfl) rfl (by decide) (r_104_0 hS) ?_
        refine q_iload rfl ?_
        obtain ⟨⟨u_56, v_56⟩, h⟩ := ite_some h
        refine q_ialN (Int32.toNatClampNeg i1) (nx u_56) (zl hS 89 (by decide)) (sk hS 89 (by decide) rfl) v_56 (by decide) ?_
        obtain ⟨d_57, h⟩ := ite_some h
        obtain ⟨⟨x0_57, I0_57, L0_57⟩, e_57, h⟩ := Option.bind_eq_some_iff.mp h
        dsimp only at h
        refine q_fs1I (a_38 X hS (d := d - 1) (by omega) e_57) (by omega) (Nat.le_refl _) (Nat.le_refl _) rfl (Nat.le_of_ble_eq_true rfl) ?_
        refine q_if_eq (fun c_60 => ?_) (fun c_60 => ?_)
        · rw [if_pos c_60] at h
          refine K_of b_37_94 h_37_94 ?_
          refine q_aload rfl ?_
          refine q_getRs (c0 := 8) (j := 0) rfl rfl (zl hS 104 (by decide)) (sk hS 104 (by decide) rfl) rfl (by decide) (r_104_0 hS) ?_
          refine q_iload rfl ?_
          obtain ⟨⟨u_99, v_99⟩, h⟩ := ite_some h
          refine q_ialN (Int32.toNatClampNeg i1) (nx u_99) (zl hS 89 (by decide)) (sk hS 89 (by decide) rfl) v_99 (by decide) ?_
          obtain ⟨d_100, h⟩ := ite_some h
          obtain ⟨⟨x1_100, I1_100, L1_100⟩, e_100, h⟩ := Option.bind_eq_some_iff.mp h
          dsimp only at h
          refine q_fs1I (a_39 X hS (d := d - 1) (by omega) e_100) (by omega) (Nat.le_refl _) (Nat.le_refl _) rfl (Nat.le_of_ble_eq_true rfl) ?_
          refine q_if_eq (fun c_103 => ?_) (fun c_103 => ?_)
          · rw [if_pos c_103] at h
            refine K_of b_37_168 h_37_168 ?_
            refine q_aload rfl ?_
            refine q_iconst (3) (by decide) ?_
            refine q_putI (c0 := 8) (j := 3) rfl rfl (zl hS 104 (by decide)) (sk hS 104 (by decide) rfl) rfl ?_
            obtain ⟨I_170, nI_170, h⟩ := stI_some h
            refine q_nI nI_170 ?_
            refine q_iinc (ls1 := [some (.ref 104), some (.int (i1 + Int32.ofInt (1)))]) rfl rfl ?_
            refine q_end ?_
            refine K_of b_37_176 h_37_176 ?_
            refine q_aload rfl ?_
            refine q_iload rfl ?_
            refine q_putI (c0 := 8) (j := 5) rfl rfl (zl hS 104 (by decide)) (sk hS 104 (by decide) rfl) rfl ?_
            obtain ⟨I_178, nI_178, h⟩ := stI_some h
            refine q_nI nI_178 ?_
            cases h
            exact q_vret rfl (Nat.le_refl _) (Nat.le_refl _) rfl
          · rw [if_neg c_103] at h
            refine q_aload rfl ?_
            refine q_iconst (2) (by decide) ?_
            refine q_putI (c0 := 8) (j := 3) rfl rfl (zl hS 104 (by decide)) (sk hS 104 (by decide) rfl) rfl ?_
            obtain ⟨I_108, nI_108, h⟩ := stI_some h
            refine q_nI nI_108 ?_
            refine q_aload rfl ?_
            refine q_iconst (0) (by decide) ?_
            refine q_putI (c0 := 8) (j := 6) rfl rfl (zl hS 104 (by decide)) (sk hS 104 (by decide) rfl) rfl ?_
            obtain ⟨I_113, nI_113, h⟩ := stI_some h
            refine q_nI nI_113 ?_
            refine q_end ?_
            exact (ih dp d hdp _ _ i1 _ _).2.2.2.2 h
        · rw [if_neg c_60] at h
          refine q_aload rfl ?_
          refine q_iconst (1) (by decide) ?_
          refine q_putI (c0 := 8) (j := 3) rfl rfl (zl hS 104 (by decide)) (sk hS 104 (by decide) rfl) rfl ?_
          obtain ⟨I_65, nI_65, h⟩ := stI_some h
          refine q_nI nI_65 ?_
          refine q_end ?_
          exact (ih dp d hdp _ _ i1 _ _).2.2.2.1 h
      · rw [if_neg c_40] at h
        refine q_aload rfl ?_
        refine q_iconst (0) (by decide) ?_
        refine q_putI (c0 := 8) (j := 3) rfl rfl (zl hS 104 (by decide)) (sk hS 104 (by decide) rfl) rfl ?_
        obtain ⟨I_45, nI_45, h⟩ := stI_some h
        refine q_nI nI_45 ?_
        refine q_goto ?_
        refine K_of b_37_176 h_37_176 ?_
        refine q_aload rfl ?_
        refine q_iload rfl ?_
        refine q_putI (c0 := 8) (j := 5) rfl rfl (zl hS 104 (by decide)) (sk hS 104 (by decide) rfl) rfl ?_
        obtain ⟨I_178, nI_178, h⟩ := stI_some h
        refine q_nI nI_178 ?_
        cases h
        exact q_vret rfl (Nat.le_refl _) (Nat.le_refl _) rfl
    · intro h
      rw [e_37_3] at h
      refine K_of b_37_68 h_37_68 ?_
      refine q_iload rfl ?_
      refine q_aload rfl ?_
      refine q_getI (c0 := 8) (j := 2) rfl rfl (zl hS 104 (by decide)) (sk hS 104 (by decide) rfl) (Or.inl rfl) (by decide) ?_
      refine q_icmp_ge (fun c_73 => ?_) (fun c_73 => ?_)
      · rw [if_pos c_73] at h
        refine K_of b_37_176 h_37_176 ?_
        refine q_aload rfl ?_
        refine q_iload rfl ?_
        refine q_putI (c0 := 8) (j := 5) rfl rfl (zl hS 104 (by decide)) (sk hS 104 (by decide) rfl) rfl ?_
        obtain ⟨I_178, nI_178, h⟩ := stI_some h
        refine q_nI nI_178 ?_
        cases h
        exact q_vret rfl (Nat.le_refl _) (Nat.le_refl _) rfl
      · rw [if_neg c_73] at h
        refine q_aload rfl ?_
        refine q_getRs (c0 := 8) (j := 0) rfl rfl (zl hS 104 (by decide)) (sk hS 104 (by decide) rfl) rfl (by decide) (r_104_0 hS) ?_
        refine q_iload rfl ?_
        obtain ⟨⟨u_81, v_81⟩, h⟩ := ite_some h
        refine q_ialN (Int32.toNatClampNeg i1) (nx u_81) (zl hS 89 (by decide)) (sk hS 89 (by decide) rfl) v_81 (by decide) ?_
        obtain ⟨d_82, h⟩ := ite_some h
        obtain ⟨⟨x0_82, I0_82, L0_82⟩, e_82, h⟩ := Option.bind_eq_some_iff.mp h
        dsimp only at h
        refine q_fs1I (a_38 X hS (d := d - 1) (by omega) e_82) (by omega) (Nat.le_refl _) (Nat.le_refl _) rfl (Nat.le_of_ble_eq_true rfl) ?_
        refine q_if_eq (fun c_85 => ?_) (fun c_85 => ?_)
        · rw [if_pos c_85] at h
          refine K_of b_37_176 h_37_176 ?_
          refine q_aload rfl ?_
          refine q_iload rfl ?_
          refine q_putI (c0 := 8) (j := 5) rfl rfl (zl hS 104 (by decide)) (sk hS 104 (by decide) rfl) rfl ?_
          obtain ⟨I_178, nI_178, h⟩ := stI_some h
          refine q_nI nI_178 ?_
          cases h
          exact q_vret rfl (Nat.le_refl _) (Nat.le_refl _) rfl
        · rw [if_neg c_85] at h
          refine q_iinc (ls1 := [some (.ref 104), some (.int (i1 + Int32.ofInt (1)))]) rfl rfl ?_
          refine q_goto ?_
          exact (ih dp d hdp _ _ (i1 + Int32.ofInt (1)) _ _).2.2.2.1 h
    · intro h
      rw [e_37_4] at h
      refine K_of b_37_116 h_37_116 ?_
      refine q_iload rfl ?_
      refine q_aload rfl ?_
      refine q_getI (c0 := 8) (j := 2) rfl rfl (zl hS 104 (by decide)) (sk hS 104 (by decide) rfl) (Or.inl rfl) (by decide) ?_
      refine q_icmp_ge (fun c_121 => ?_) (fun c_121 => ?_)
      · rw [if_pos c_121] at h
        refine K_of b_37_176 h_37_176 ?_
        refine q_aload rfl ?_
        refine q_iload rfl ?_
        refine q_putI (c0 := 8) (j := 5) rfl rfl (zl hS 104 (by decide)) (sk hS 104 (by decide) rfl) rfl ?_
        obtain ⟨I_178, nI_178, h⟩ := stI_some h
        refine q_nI nI_178 ?_
        cases h
        exact q_vret rfl (Nat.le_refl _) (Nat.le_refl _) rfl
      · rw [if_neg c_121] at h
        refine q_aload rfl ?_
        refine q_getRs (c0 := 8) (j := 0) rfl rfl (zl hS 104 (by decide)) (sk hS 104 (by decide) rfl) rfl (by decide) (r_104_0 hS) ?_
        refine q_iload rfl ?_
        obtain ⟨⟨u_129, v_129⟩, h⟩ := ite_some h
        refine q_ialN (Int32.toNatClampNeg i1) (nx u_129) (zl hS 89 (by decide)) (sk hS 89 (by decide) rfl) v_129 (by decide) ?_
        obtain ⟨d_130, h⟩ := ite_some h
        obtain ⟨⟨x0_130, I0_130, L0_130⟩, e_130, h⟩ := Option.bind_eq_some_iff.mp h
        dsimp only at h
        refine q_fs1I (a_39 X hS (d := d - 1) (by omega) e_130) (by omega) (Nat.le_refl _) (Nat.le_refl _) rfl (Nat.le_of_ble_eq_true rfl) ?_
        refine q_if_eq (fun c_133 => ?_) (fun c_133 => ?_)
        · rw [if_pos c_133] at h
          refine K_of b_37_176 h_37_176 ?_
          refine q_aload rfl ?_
          refine q_iload rfl ?_
          refine q_putI (c0 := 8) (j := 5) rfl rfl (zl hS 104 (by decide)) (sk hS 104 (by decide) rfl) rfl ?_
          obtain ⟨I_178, nI_178, h⟩ := stI_some h
          refine q_nI nI_178 ?_
          cases h
          exact q_vret rfl (Nat.le_refl _) (Nat.le_refl _) rfl
        · rw [if_neg c_133] at h
          refine q_aload rfl ?_
          refine q_iconst (100000) (by decide) ?_
          refine q_aload rfl ?_
          refine q_getI (c0 := 8) (j := 6) rfl rfl (zl hS 104 (by decide)) (sk hS 104 (by decide) rfl) (Or.inl rfl) (by decide) ?_
          refine q_iconst (10) (by decide) ?_
          refine q_imul ?_
          refine q_aload rfl ?_
          refine q_getRs (c0 := 8) (j := 0) rfl rfl (zl hS 104 (by decide)) (sk hS 104 (by decide) rfl) rfl (by decide) (r_104_0 hS) ?_
          refine q_iload rfl ?_
          obtain ⟨⟨u_151, v_151⟩, h⟩ := ite_some h
          refine q_ialN (Int32.toNatClampNeg i1) (nx u_151) (zl hS 89 (by decide)) (sk hS 89 (by decide) rfl) v_151 (by decide) ?_
          refine q_iadd ?_
          refine q_iconst (48) (by decide) ?_
          refine q_isub ?_
          obtain ⟨d_156, h⟩ := ite_some h
          refine q_min (Nat.le_of_ble_eq_true rfl) (Nat.le_trans d_156 hdp) (Nat.le_refl _) (Nat.le_refl _) ?_
          refine q_putI (c0 := 8) (j := 6) rfl rfl (zl hS 104 (by decide)) (sk hS 104 (by decide) rfl) rfl ?_
          obtain ⟨I_159, nI_159, h⟩ := stI_some h
          refine q_nI nI_159 ?_
          refine q_iinc (ls1 := [some (.ref 104), some (.int (i1 + Int32.ofInt (1)))]) rfl rfl ?_
          refine q_goto ?_
          exact (ih dp d hdp _ _ (i1 + Int32.ofInt (1)) _ _).2.2.2.2 h
theorem a_37 (X : GX) {z : Nat} {kd : Nat → Nat × Nat} {Rf : Nat → Nat → Option Nat} (hS : Sh z kd Rf) {n dp d : Nat} (hd : dp ≤ d) {I : (Nat → Nat → Int32)} {L : (Nat → Nat → Int64)} {I1 : (Nat → Nat → Int32)} {L1 : (Nat → Nat → Int64)} (h : g_37 n dp (z, kd, Rf) 0 I L 0 = some (I1, L1)) : Ct X d 37 0 0 [.ref 104] (z, kd, I, L, Rf) (AV (fun τ => τ = (z, kd, I1, L1, Rf))) :=
  Ct_of mu_37 (Nat.le_of_ble_eq_true rfl) ((w_37 X hS n dp d hd I L 0 _ _).1 h)

