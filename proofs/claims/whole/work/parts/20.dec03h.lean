/-! 116 CutFloor$Offers.bonusOf(I)I -/
def g_116 : Nat → Nat → EN → Nat → (Nat → Nat → Int32) → (Nat → Nat → Int64) → Int32 →  Option (Int32 × (Nat → Nat → Int32) × (Nat → Nat → Int64))
  | 0, _, _, _, _, _, _ => none
  | n + 1, dp, e, lab, I, L, i1 =>
    if lab = 0 then (if 0 ≤ (i1 &&& (1023 : Int32)) ∧ (Int32.toNatClampNeg (i1 &&& (1023 : Int32))) < 1024 then (if 0 ≤ ((Int32.toUInt32 i1 >>> (Int32.toUInt32 (10 : Int32) &&& Int32.toUInt32 31)).toInt32 &&& (1023 : Int32)) ∧ (Int32.toNatClampNeg ((Int32.toUInt32 i1 >>> (Int32.toUInt32 (10 : Int32) &&& Int32.toUInt32 31)).toInt32 &&& (1023 : Int32))) < 1024 then (if 0 ≤ ((Int32.toUInt32 i1 >>> (Int32.toUInt32 (20 : Int32) &&& Int32.toUInt32 31)).toInt32 &&& (31 : Int32)) ∧ (Int32.toNatClampNeg ((Int32.toUInt32 i1 >>> (Int32.toUInt32 (20 : Int32) &&& Int32.toUInt32 31)).toInt32 &&& (31 : Int32))) < 32 then (some ((((I 41 (Int32.toNatClampNeg (i1 &&& (1023 : Int32)))) + (I 42 (Int32.toNatClampNeg ((Int32.toUInt32 i1 >>> (Int32.toUInt32 (10 : Int32) &&& Int32.toUInt32 31)).toInt32 &&& (1023 : Int32))))) + (I 43 (Int32.toNatClampNeg ((Int32.toUInt32 i1 >>> (Int32.toUInt32 (20 : Int32) &&& Int32.toUInt32 31)).toInt32 &&& (31 : Int32))))), I, L)) else none) else none) else none)
    else none
set_option maxRecDepth 100000 in
theorem e_116_0 (n dp : Nat) (e : EN) (I : (Nat → Nat → Int32)) (L : (Nat → Nat → Int64)) (i1 : Int32) : g_116 (n + 1) dp e 0 I L i1 = (if 0 ≤ (i1 &&& (1023 : Int32)) ∧ (Int32.toNatClampNeg (i1 &&& (1023 : Int32))) < 1024 then (if 0 ≤ ((Int32.toUInt32 i1 >>> (Int32.toUInt32 (10 : Int32) &&& Int32.toUInt32 31)).toInt32 &&& (1023 : Int32)) ∧ (Int32.toNatClampNeg ((Int32.toUInt32 i1 >>> (Int32.toUInt32 (10 : Int32) &&& Int32.toUInt32 31)).toInt32 &&& (1023 : Int32))) < 1024 then (if 0 ≤ ((Int32.toUInt32 i1 >>> (Int32.toUInt32 (20 : Int32) &&& Int32.toUInt32 31)).toInt32 &&& (31 : Int32)) ∧ (Int32.toNatClampNeg ((Int32.toUInt32 i1 >>> (Int32.toUInt32 (20 : Int32) &&& Int32.toUInt32 31)).toInt32 &&& (31 : Int32))) < 32 then (some ((((I 41 (Int32.toNatClampNeg (i1 &&& (1023 : Int32)))) + (I 42 (Int32.toNatClampNeg ((Int32.toUInt32 i1 >>> (Int32.toUInt32 (10 : Int32) &&& Int32.toUInt32 31)).toInt32 &&& (1023 : Int32))))) + (I 43 (Int32.toNatClampNeg ((Int32.toUInt32 i1 >>> (Int32.toUInt32 (20 : Int32) &&& Int32.toUInt32 31)).toInt32 &&& (31 : Int32))))), I, L)) else none) else none) else none) := by rw [g_116.eq_2, if_pos (show (0 : Nat) = 0 from rfl)]
set_option maxHeartbeats 8000000 in
set_option maxRecDepth 100000 in
theorem w_116 (X : GX) {z : Nat} {kd : Nat → Nat × Nat} {Rf : Nat → Nat → Option Nat} (hS : Sh z kd Rf) : ∀ (n dp d : Nat), dp ≤ d → ∀ (I : (Nat → Nat → Int32)) (L : (Nat → Nat → Int64)) (i1 : Int32) (r : Int32) (I1 : (Nat → Nat → Int32)) (L1 : (Nat → Nat → Int64)), (g_116 n dp (z, kd, Rf) 0 I L i1 = some (r, I1, L1) → K X d 116 0 0 (AI (fun x τ => x = r ∧ τ = (z, kd, I1, L1, Rf))) 0 [some (.ref 26), some (.int i1)] [] (z, kd, I, L, Rf) 0 0) := by
  intro n
  induction n with
  | zero => intro dp d hdp I L i1 r I1 L1; exact fun h => by cases h
  | succ n ih =>
    intro dp d hdp I L i1 r I1 L1
    · intro h
      rw [e_116_0] at h
      refine K_of b_116_0 h_116_0 ?_
      refine q_aload rfl ?_
      refine q_getRs (c0 := 6) (j := 14) rfl rfl (zl hS 26 (by decide)) (sk hS 26 (by decide) rfl) rfl (by decide) (r_26_14 hS) ?_
      refine q_iload rfl ?_
      refine q_iconst (1023) (by decide) ?_
      refine q_iand ?_
      obtain ⟨⟨u_9, v_9⟩, h⟩ := ite_some h
      refine q_ialN (Int32.toNatClampNeg (i1 &&& (1023 : Int32))) (nx u_9) (zl hS 41 (by decide)) (sk hS 41 (by decide) rfl) v_9 (by decide) ?_
      refine q_aload rfl ?_
      refine q_getRs (c0 := 6) (j := 15) rfl rfl (zl hS 26 (by decide)) (sk hS 26 (by decide) rfl) rfl (by decide) (r_26_15 hS) ?_
      refine q_iload rfl ?_
      refine q_iconst (10) (by decide) ?_
      refine q_iushr ?_
      refine q_iconst (1023) (by decide) ?_
      refine q_iand ?_
      obtain ⟨⟨u_22, v_22⟩, h⟩ := ite_some h
      refine q_ialN (Int32.toNatClampNeg ((Int32.toUInt32 i1 >>> (Int32.toUInt32 (10 : Int32) &&& Int32.toUInt32 31)).toInt32 &&& (1023 : Int32))) (nx u_22) (zl hS 42 (by decide)) (sk hS 42 (by decide) rfl) v_22 (by decide) ?_
      refine q_iadd ?_
      refine q_aload rfl ?_
      refine q_getRs (c0 := 6) (j := 16) rfl rfl (zl hS 26 (by decide)) (sk hS 26 (by decide) rfl) rfl (by decide) (r_26_16 hS) ?_
      refine q_iload rfl ?_
      refine q_iconst (20) (by decide) ?_
      refine q_iushr ?_
      refine q_iconst (31) (by decide) ?_
      refine q_iand ?_
      obtain ⟨⟨u_35, v_35⟩, h⟩ := ite_some h
      refine q_ialN (Int32.toNatClampNeg ((Int32.toUInt32 i1 >>> (Int32.toUInt32 (20 : Int32) &&& Int32.toUInt32 31)).toInt32 &&& (31 : Int32))) (nx u_35) (zl hS 43 (by decide)) (sk hS 43 (by decide) rfl) v_35 (by decide) ?_
      refine q_iadd ?_
      cases h
      exact q_iret rfl (Nat.le_refl _) (Nat.le_refl _) ⟨rfl, rfl⟩
theorem a_116 (X : GX) {z : Nat} {kd : Nat → Nat × Nat} {Rf : Nat → Nat → Option Nat} (hS : Sh z kd Rf) {n dp d : Nat} (hd : dp ≤ d) {I : (Nat → Nat → Int32)} {L : (Nat → Nat → Int64)} {i1 : Int32} {I1 : (Nat → Nat → Int32)} {L1 : (Nat → Nat → Int64)} {r : Int32} (h : g_116 n dp (z, kd, Rf) 0 I L i1 = some (r, I1, L1)) : Ct X d 116 0 0 [.ref 26, .int i1] (z, kd, I, L, Rf) (AI (fun x τ => x = r ∧ τ = (z, kd, I1, L1, Rf))) :=
  Ct_of mu_116 (Nat.le_of_ble_eq_true rfl) ((w_116 X hS n dp d hd I L i1 _ _ _) h)

