/-! 279 CutFloorModel.given(I)I -/
set_option maxHeartbeats 4000000 in
set_option maxRecDepth 100000 in
def g_279 : Nat → Nat → EN → Nat → (Nat → Nat → Int32) → (Nat → Nat → Int64) → Int32 → Int32 → Int32 → Int32 → Int32 → Int32 → Int32 →  Option (Int32 × (Nat → Nat → Int32) × (Nat → Nat → Int64))
  | 0, _, _, _, _, _, _, _, _, _, _, _, _ => none
  | n + 1, dp, e, lab, I, L, i1, i2, i3, i4, i5, i6, i7 =>
    if lab = 0 then (stI (u2 I 105 0 (0 : Int32)) (fun I_2 => (if 1 ≤ dp then (g_193 n (dp - 1) e 0 I_2 L (Int32.toInt64 i1) (0 : Int64) (3 : Int64)).bind (fun ⟨x0_11, I0_11, L0_11⟩ => (if x0_11 = 0 then (some ((-1 : Int32), I0_11, L0_11)) else (if 1 ≤ dp then (g_261 n (dp - 1) e 0 I0_11 L0_11 0 0 0 0).bind (fun ⟨x1_18, I1_18, L1_18⟩ => (if x1_18 = 0 then (some ((-1 : Int32), I1_18, L1_18)) else (g_279 n dp e 1 I1_18 L1_18 i1 (0 : Int32) (0 : Int32) (0 : Int32) (0 : Int32) 0 0))) else none))) else none)))
    else if lab = 1 then (if (10 : Int32) ≤ i5 then (g_279 n dp e 3 I L i1 i2 i3 i4 (0 : Int32) 0 0) else (g_279 n dp e 2 I L i1 i2 i3 i4 i5 (0 : Int32) (0 : Int32)))
    else if lab = 2 then (if 1 ≤ dp then (g_198 n (dp - 1) e 0 I L).bind (fun ⟨x0_52, I0_52, L0_52⟩ => (if x0_52 ≤ i7 then (if 0 ≤ ((60 : Int32) + i5) ∧ (Int32.toNatClampNeg ((60 : Int32) + i5)) < 1570 then (stI (I0_52 107 (Int32.toNatClampNeg ((60 : Int32) + i5))) (fun v_107 => (if v_107 ≤ i6 then (if 0 ≤ ((40 : Int32) + i5) ∧ (Int32.toNatClampNeg ((40 : Int32) + i5)) < 1570 then (if i6 ≤ v_107 then (if 0 ≤ ((50 : Int32) + i5) ∧ (Int32.toNatClampNeg ((50 : Int32) + i5)) < 1570 then (stI (i2 + ((v_107 * (I0_52 107 (Int32.toNatClampNeg ((40 : Int32) + i5)))) + ((0 : Int32) * (I0_52 107 (Int32.toNatClampNeg ((50 : Int32) + i5)))))) (fun v_164 => (if 1 ≤ dp then (g_272 n (dp - 1) e 0 I0_52 L0_52 v_107 i6).bind (fun ⟨x1_171, I1_171, L1_171⟩ => (g_279 n dp e 1 I1_171 L1_171 i1 v_164 i3 (i4 + x1_171) (i5 + Int32.ofInt (1)) 0 0)) else none))) else none) else (if 0 ≤ ((50 : Int32) + i5) ∧ (Int32.toNatClampNeg ((50 : Int32) + i5)) < 1570 then (stI (i2 + ((v_107 * (I0_52 107 (Int32.toNatClampNeg ((40 : Int32) + i5)))) + ((i6 - v_107) * (I0_52 107 (Int32.toNatClampNeg ((50 : Int32) + i5)))))) (fun v_164 => (if 1 ≤ dp then (g_272 n (dp - 1) e 0 I0_52 L0_52 v_107 i6).bind (fun ⟨x1_171, I1_171, L1_171⟩ => (g_279 n dp e 1 I1_171 L1_171 i1 v_164 i3 (i4 + x1_171) (i5 + Int32.ofInt (1)) 0 0)) else none))) else none)) else none) else (if 0 ≤ ((40 : Int32) + i5) ∧ (Int32.toNatClampNeg ((40 : Int32) + i5)) < 1570 then (if i6 ≤ v_107 then (if 0 ≤ ((50 : Int32) + i5) ∧ (Int32.toNatClampNeg ((50 : Int32) + i5)) < 1570 then (stI (i2 + ((i6 * (I0_52 107 (Int32.toNatClampNeg ((40 : Int32) + i5)))) + ((0 : Int32) * (I0_52 107 (Int32.toNatClampNeg ((50 : Int32) + i5)))))) (fun v_164 => (if 1 ≤ dp then (g_272 n (dp - 1) e 0 I0_52 L0_52 v_107 i6).bind (fun ⟨x1_171, I1_171, L1_171⟩ => (g_279 n dp e 1 I1_171 L1_171 i1 v_164 i3 (i4 + x1_171) (i5 + Int32.ofInt (1)) 0 0)) else none))) else none) else (if 0 ≤ ((50 : Int32) + i5) ∧ (Int32.toNatClampNeg ((50 : Int32) + i5)) < 1570 then (stI (i2 + ((i6 * (I0_52 107 (Int32.toNatClampNeg ((40 : Int32) + i5)))) + ((i6 - v_107) * (I0_52 107 (Int32.toNatClampNeg ((50 : Int32) + i5)))))) (fun v_164 => (if 1 ≤ dp then (g_272 n (dp - 1) e 0 I0_52 L0_52 v_107 i6).bind (fun ⟨x1_171, I1_171, L1_171⟩ => (g_279 n dp e 1 I1_171 L1_171 i1 v_164 i3 (i4 + x1_171) (i5 + Int32.ofInt (1)) 0 0)) else none))) else none)) else none)))) else none) else (if 1 ≤ dp then (g_280 n (dp - 1) e 0 I0_52 L0_52 i7).bind (fun ⟨x1_70, I1_70, L1_70⟩ => (if 1 ≤ dp then (g_281 n (dp - 1) e 0 I1_70 L1_70 i7).bind (fun ⟨x2_79, I2_79, L2_79⟩ => (if 0 ≤ ((((640 : Int32) * x1_70) + ((10 : Int32) * x2_79)) + i5) ∧ (Int32.toNatClampNeg ((((640 : Int32) * x1_70) + ((10 : Int32) * x2_79)) + i5)) < 1920 then (stI (i6 + (I2_79 122 (Int32.toNatClampNeg ((((640 : Int32) * x1_70) + ((10 : Int32) * x2_79)) + i5)))) (fun v_89 => (g_279 n dp e 2 I2_79 L2_79 i1 i2 i3 i4 i5 v_89 (i7 + Int32.ofInt (1))))) else none)) else none)) else none))) else none)
    else if lab = 3 then (if 1 ≤ dp then (g_198 n (dp - 1) e 0 I L).bind (fun ⟨x0_189, I0_189, L0_189⟩ => (if x0_189 ≤ i5 then (if i1 = 0 then (some (i2, I0_189, L0_189)) else (if i1 = (1 : Int32) then (some (((I0_189 105 53) - i2), I0_189, L0_189)) else (if i1 = (2 : Int32) then (some (i3, I0_189, L0_189)) else (some (i4, I0_189, L0_189))))) else (if 1 ≤ dp then (g_281 n (dp - 1) e 0 I0_189 L0_189 i5).bind (fun ⟨x1_199, I1_199, L1_199⟩ => (if 0 ≤ i5 ∧ (Int32.toNatClampNeg i5) < 8 then (if x1_199 = (I1_199 134 (Int32.toNatClampNeg i5)) then (g_279 n dp e 3 I1_199 L1_199 i1 i2 (i3 + (0 : Int32)) i4 (i5 + Int32.ofInt (1)) 0 0) else (g_279 n dp e 3 I1_199 L1_199 i1 i2 (i3 + (1 : Int32)) i4 (i5 + Int32.ofInt (1)) 0 0)) else none)) else none))) else none)
    else none
set_option maxRecDepth 100000 in
theorem e_279_0 (n dp : Nat) (e : EN) (I : (Nat → Nat → Int32)) (L : (Nat → Nat → Int64)) (i1 : Int32) (i2 : Int32) (i3 : Int32) (i4 : Int32) (i5 : Int32) (i6 : Int32) (i7 : Int32) : g_279 (n + 1) dp e 0 I L i1 i2 i3 i4 i5 i6 i7 = (stI (u2 I 105 0 (0 : Int32)) (fun I_2 => (if 1 ≤ dp then (g_193 n (dp - 1) e 0 I_2 L (Int32.toInt64 i1) (0 : Int64) (3 : Int64)).bind (fun ⟨x0_11, I0_11, L0_11⟩ => (if x0_11 = 0 then (some ((-1 : Int32), I0_11, L0_11)) else (if 1 ≤ dp then (g_261 n (dp - 1) e 0 I0_11 L0_11 0 0 0 0).bind (fun ⟨x1_18, I1_18, L1_18⟩ => (if x1_18 = 0 then (some ((-1 : Int32), I1_18, L1_18)) else (g_279 n dp e 1 I1_18 L1_18 i1 (0 : Int32) (0 : Int32) (0 : Int32) (0 : Int32) 0 0))) else none))) else none))) := by rw [g_279.eq_2, if_pos (show (0 : Nat) = 0 from rfl)]
set_option maxRecDepth 100000 in
theorem e_279_1 (n dp : Nat) (e : EN) (I : (Nat → Nat → Int32)) (L : (Nat → Nat → Int64)) (i1 : Int32) (i2 : Int32) (i3 : Int32) (i4 : Int32) (i5 : Int32) (i6 : Int32) (i7 : Int32) : g_279 (n + 1) dp e 1 I L i1 i2 i3 i4 i5 i6 i7 = (if (10 : Int32) ≤ i5 then (g_279 n dp e 3 I L i1 i2 i3 i4 (0 : Int32) 0 0) else (g_279 n dp e 2 I L i1 i2 i3 i4 i5 (0 : Int32) (0 : Int32))) := by rw [g_279.eq_2, if_neg (show ¬ ((1 : Nat) = 0) by decide), if_pos (show (1 : Nat) = 1 from rfl)]
set_option maxRecDepth 100000 in
theorem e_279_2 (n dp : Nat) (e : EN) (I : (Nat → Nat → Int32)) (L : (Nat → Nat → Int64)) (i1 : Int32) (i2 : Int32) (i3 : Int32) (i4 : Int32) (i5 : Int32) (i6 : Int32) (i7 : Int32) : g_279 (n + 1) dp e 2 I L i1 i2 i3 i4 i5 i6 i7 = (if 1 ≤ dp then (g_198 n (dp - 1) e 0 I L).bind (fun ⟨x0_52, I0_52, L0_52⟩ => (if x0_52 ≤ i7 then (if 0 ≤ ((60 : Int32) + i5) ∧ (Int32.toNatClampNeg ((60 : Int32) + i5)) < 1570 then (stI (I0_52 107 (Int32.toNatClampNeg ((60 : Int32) + i5))) (fun v_107 => (if v_107 ≤ i6 then (if 0 ≤ ((40 : Int32) + i5) ∧ (Int32.toNatClampNeg ((40 : Int32) + i5)) < 1570 then (if i6 ≤ v_107 then (if 0 ≤ ((50 : Int32) + i5) ∧ (Int32.toNatClampNeg ((50 : Int32) + i5)) < 1570 then (stI (i2 + ((v_107 * (I0_52 107 (Int32.toNatClampNeg ((40 : Int32) + i5)))) + ((0 : Int32) * (I0_52 107 (Int32.toNatClampNeg ((50 : Int32) + i5)))))) (fun v_164 => (if 1 ≤ dp then (g_272 n (dp - 1) e 0 I0_52 L0_52 v_107 i6).bind (fun ⟨x1_171, I1_171, L1_171⟩ => (g_279 n dp e 1 I1_171 L1_171 i1 v_164 i3 (i4 + x1_171) (i5 + Int32.ofInt (1)) 0 0)) else none))) else none) else (if 0 ≤ ((50 : Int32) + i5) ∧ (Int32.toNatClampNeg ((50 : Int32) + i5)) < 1570 then (stI (i2 + ((v_107 * (I0_52 107 (Int32.toNatClampNeg ((40 : Int32) + i5)))) + ((i6 - v_107) * (I0_52 107 (Int32.toNatClampNeg ((50 : Int32) + i5)))))) (fun v_164 => (if 1 ≤ dp then (g_272 n (dp - 1) e 0 I0_52 L0_52 v_107 i6).bind (fun ⟨x1_171, I1_171, L1_171⟩ => (g_279 n dp e 1 I1_171 L1_171 i1 v_164 i3 (i4 + x1_171) (i5 + Int32.ofInt (1)) 0 0)) else none))) else none)) else none) else (if 0 ≤ ((40 : Int32) + i5) ∧ (Int32.toNatClampNeg ((40 : Int32) + i5)) < 1570 then (if i6 ≤ v_107 then (if 0 ≤ ((50 : Int32) + i5) ∧ (Int32.toNatClampNeg ((50 : Int32) + i5)) < 1570 then (stI (i2 + ((i6 * (I0_52 107 (Int32.toNatClampNeg ((40 : Int32) + i5)))) + ((0 : Int32) * (I0_52 107 (Int32.toNatClampNeg ((50 : Int32) + i5)))))) (fun v_164 => (if 1 ≤ dp then (g_272 n (dp - 1) e 0 I0_52 L0_52 v_107 i6).bind (fun ⟨x1_171, I1_171, L1_171⟩ => (g_279 n dp e 1 I1_171 L1_171 i1 v_164 i3 (i4 + x1_171) (i5 + Int32.ofInt (1)) 0 0)) else none))) else none) else (if 0 ≤ ((50 : Int32) + i5) ∧ (Int32.toNatClampNeg ((50 : Int32) + i5)) < 1570 then (stI (i2 + ((i6 * (I0_52 107 (Int32.toNatClampNeg ((40 : Int32) + i5)))) + ((i6 - v_107) * (I0_52 107 (Int32.toNatClampNeg ((50 : Int32) + i5)))))) (fun v_164 => (if 1 ≤ dp then (g_272 n (dp - 1) e 0 I0_52 L0_52 v_107 i6).bind (fun ⟨x1_171, I1_171, L1_171⟩ => (g_279 n dp e 1 I1_171 L1_171 i1 v_164 i3 (i4 + x1_171) (i5 + Int32.ofInt (1)) 0 0)) else none))) else none)) else none)))) else none) else (if 1 ≤ dp then (g_280 n (dp - 1) e 0 I0_52 L0_52 i7).bind (fun ⟨x1_70, I1_70, L1_70⟩ => (if 1 ≤ dp then (g_281 n (dp - 1) e 0 I1_70 L1_70 i7).bind (fun ⟨x2_79, I2_79, L2_79⟩ => (if 0 ≤ ((((640 : Int32) * x1_70) + ((10 : Int32) * x2_79)) + i5) ∧ (Int32.toNatClampNeg ((((640 : Int32) * x1_70) + ((10 : Int32) * x2_79)) + i5)) < 1920 then (stI (i6 + (I2_79 122 (Int32.toNatClampNeg ((((640 : Int32) * x1_70) + ((10 : Int32) * x2_79)) + i5)))) (fun v_89 => (g_279 n dp e 2 I2_79 L2_79 i1 i2 i3 i4 i5 v_89 (i7 + Int32.ofInt (1))))) else none)) else none)) else none))) else none) := by rw [g_279.eq_2, if_neg (show ¬ ((2 : Nat) = 0) by decide), if_neg (show ¬ ((2 : Nat) = 1) by decide), if_pos (show (2 : Nat) = 2 from rfl)]
set_option maxRecDepth 100000 in
theorem e_279_3 (n dp : Nat) (e : EN) (I : (Nat → Nat → Int32)) (L : (Nat → Nat → Int64)) (i1 : Int32) (i2 : Int32) (i3 : Int32) (i4 : Int32) (i5 : Int32) (i6 : Int32) (i7 : Int32) : g_279 (n + 1) dp e 3 I L i1 i2 i3 i4 i5 i6 i7 = (if 1 ≤ dp then (g_198 n (dp - 1) e 0 I L).bind (fun ⟨x0_189, I0_189, L0_189⟩ => (if x0_189 ≤ i5 then (if i1 = 0 then (some (i2, I0_189, L0_189)) else (if i1 = (1 : Int32) then (some (((I0_189 105 53) - i2), I0_189, L0_189)) else (if i1 = (2 : Int32) then (some (i3, I0_189, L0_189)) else (some (i4, I0_189, L0_189))))) else (if 1 ≤ dp then (g_281 n (dp - 1) e 0 I0_189 L0_189 i5).bind (fun ⟨x1_199, I1_199, L1_199⟩ => (if 0 ≤ i5 ∧ (Int32.toNatClampNeg i5) < 8 then (if x1_199 = (I1_199 134 (Int32.toNatClampNeg i5)) then (g_279 n dp e 3 I1_199 L1_199 i1 i2 (i3 + (0 : Int32)) i4 (i5 + Int32.ofInt (1)) 0 0) else (g_279 n dp e 3 I1_199 L1_199 i1 i2 (i3 + (1 : Int32)) i4 (i5 + Int32.ofInt (1)) 0 0)) else none)) else none))) else none) := by rw [g_279.eq_2, if_neg (show ¬ ((3 : Nat) = 0) by decide), if_neg (show ¬ ((3 : Nat) = 1) by decide), if_neg (show ¬ ((3 : Nat) = 2) by decide), if_pos (show (3 : Nat) = 3 from rfl)]
set_option maxHeartbeats 8000000 in
set_option maxRecDepth 100000 in
theorem w_279 (X : GX) {z : Nat} {kd : Nat → Nat × Nat} {Rf : Nat → Nat → Option Nat} (hS : Sh z kd Rf) : ∀ (n dp d : Nat), dp ≤ d → ∀ (I : (Nat → Nat → Int32)) (L : (Nat → Nat → Int64)) (i1 : Int32) (i2 : Int32) (i3 : Int32) (i4 : Int32) (i5 : Int32) (i6 : Int32) (i7 : Int32) (r : Int32) (I1 : (Nat → Nat → Int32)) (L1 : (Nat → Nat → Int64)), (g_279 n dp (z, kd, Rf) 0 I L i1 i2 i3 i4 i5 i6 i7 = some (r, I1, L1) → K X d 279 0 0 (AI (fun x τ => x = r ∧ τ = (z, kd, I1, L1, Rf))) 0 [some (.ref 105), some (.int i1), none, none, none, none, none, none] [] (z, kd, I, L, Rf) 0 0) ∧
    (g_279 n dp (z, kd, Rf) 1 I L i1 i2 i3 i4 i5 i6 i7 = some (r, I1, L1) → K X d 279 0 0 (AI (fun x τ => x = r ∧ τ = (z, kd, I1, L1, Rf))) 36 [some (.ref 105), some (.int i1), some (.int i2), some (.int i3), some (.int i4), some (.int i5), none, none] [] (z, kd, I, L, Rf) 0 0) ∧
    (g_279 n dp (z, kd, Rf) 2 I L i1 i2 i3 i4 i5 i6 i7 = some (r, I1, L1) → K X d 279 0 0 (AI (fun x τ => x = r ∧ τ = (z, kd, I1, L1, Rf))) 49 [some (.ref 105), some (.int i1), some (.int i2), some (.int i3), some (.int i4), some (.int i5), some (.int i6), some (.int i7)] [] (z, kd, I, L, Rf) 0 0) ∧
    (g_279 n dp (z, kd, Rf) 3 I L i1 i2 i3 i4 i5 i6 i7 = some (r, I1, L1) → K X d 279 0 0 (AI (fun x τ => x = r ∧ τ = (z, kd, I1, L1, Rf))) 186 [some (.ref 105), some (.int i1), some (.int i2), some (.int i3), some (.int i4), some (.int i5), none, none] [] (z, kd, I, L, Rf) 0 0) := by
  intro n
  induction n with
  | zero => intro dp d hdp I L i1 i2 i3 i4 i5 i6 i7 r I1 L1; exact ⟨(fun h => by cases h), (fun h => by cases h), (fun h => by cases h), (fun h => by cases h)⟩
  | succ n ih =>
    intro dp d hdp I L i1 i2 i3 i4 i5 i6 i7 r I1 L1
    refine ⟨?_, ?_, ?_, ?_⟩
    · intro h
      rw [e_279_0] at h
      refine K_of b_279_0 h_279_0 ?_
      refine q_aload rfl ?_
      refine q_iconst (0) (by decide) ?_
      refine q_putI (c0 := 12) (j := 0) rfl rfl (zl hS 105 (by decide)) (sk hS 105 (by decide) rfl) rfl ?_
      obtain ⟨I_2, nI_2, h⟩ := stI_some h
      refine q_nI nI_2 ?_
      refine q_iload rfl ?_
      refine q_i2l ?_
      refine q_lconst (0) (by decide) ?_
      refine q_lconst (3) (by decide) ?_
      obtain ⟨d_11, h⟩ := ite_some h
      obtain ⟨⟨x0_11, I0_11, L0_11⟩, e_11, h⟩ := Option.bind_eq_some_iff.mp h
      dsimp only at h
      refine q_fs3I (a_193 X hS (d := d - 1) (by omega) e_11) (by omega) (Nat.le_refl _) (Nat.le_refl _) rfl (Nat.le_of_ble_eq_true rfl) ?_
      refine q_if_eq (fun c_14 => ?_) (fun c_14 => ?_)
      · rw [if_pos c_14] at h
        refine K_of b_279_24 h_279_24 ?_
        refine q_iconst (-1) (by decide) ?_
        cases h
        exact q_iret rfl (Nat.le_refl _) (Nat.le_refl _) ⟨rfl, rfl⟩
      · rw [if_neg c_14] at h
        refine q_aload rfl ?_
        obtain ⟨d_18, h⟩ := ite_some h
        obtain ⟨⟨x1_18, I1_18, L1_18⟩, e_18, h⟩ := Option.bind_eq_some_iff.mp h
        dsimp only at h
        refine q_fv1I (a_261 X hS (d := d - 1) (by omega) e_18) (by omega) (Nat.le_refl _) (Nat.le_refl _) rfl (Nat.le_of_ble_eq_true rfl) ⟨(zl hS 105 (by decide)), congrArg Prod.fst (sk hS 105 (by decide) rfl), by decide⟩ ?_
        refine q_if_ne (fun c_21 => ?_) (fun c_21 => ?_)
        · rw [if_neg c_21] at h
          refine K_of b_279_26 h_279_26 ?_
          refine q_iconst (0) (by decide) ?_
          refine q_istore (ls1 := [some (.ref 105), some (.int i1), some (.int (0 : Int32)), none, none, none, none, none]) (Nat.le_of_ble_eq_true rfl) rfl ?_
          refine q_iconst (0) (by decide) ?_
          refine q_istore (ls1 := [some (.ref 105), some (.int i1), some (.int (0 : Int32)), some (.int (0 : Int32)), none, none, none, none]) (Nat.le_of_ble_eq_true rfl) rfl ?_
          refine q_iconst (0) (by decide) ?_
          refine q_istore (ls1 := [some (.ref 105), some (.int i1), some (.int (0 : Int32)), some (.int (0 : Int32)), some (.int (0 : Int32)), none, none, none]) (Nat.le_of_ble_eq_true rfl) rfl ?_
          refine q_iconst (0) (by decide) ?_
          refine q_istore (ls1 := [some (.ref 105), some (.int i1), some (.int (0 : Int32)), some (.int (0 : Int32)), some (.int (0 : Int32)), some (.int (0 : Int32)), none, none]) (Nat.le_of_ble_eq_true rfl) rfl ?_
          refine q_end ?_
          exact (ih dp d hdp _ _ i1 (0 : Int32) (0 : Int32) (0 : Int32) (0 : Int32) 0 0 _ _ _).2.1 h
        · rw [if_pos c_21] at h
          refine q_end ?_
          refine K_of b_279_24 h_279_24 ?_
          refine q_iconst (-1) (by decide) ?_
          cases h
          exact q_iret rfl (Nat.le_refl _) (Nat.le_refl _) ⟨rfl, rfl⟩
    · intro h
      rw [e_279_1] at h
      refine K_of b_279_36 h_279_36 ?_
      refine q_iload rfl ?_
      refine q_iconst (10) (by decide) ?_
      refine q_icmp_ge (fun c_40 => ?_) (fun c_40 => ?_)
      · rw [if_pos c_40] at h
        refine K_of b_279_183 h_279_183 ?_
        refine q_iconst (0) (by decide) ?_
        refine q_istore (ls1 := [some (.ref 105), some (.int i1), some (.int i2), some (.int i3), some (.int i4), some (.int (0 : Int32)), none, none]) (Nat.le_of_ble_eq_true rfl) rfl ?_
        refine q_end ?_
        exact (ih dp d hdp _ _ i1 i2 i3 i4 (0 : Int32) 0 0 _ _ _).2.2.2 h
      · rw [if_neg c_40] at h
        refine q_iconst (0) (by decide) ?_
        refine q_istore (ls1 := [some (.ref 105), some (.int i1), some (.int i2), some (.int i3), some (.int i4), some (.int i5), some (.int (0 : Int32)), none]) (Nat.le_of_ble_eq_true rfl) rfl ?_
        refine q_iconst (0) (by decide) ?_
        refine q_istore (ls1 := [some (.ref 105), some (.int i1), some (.int i2), some (.int i3), some (.int i4), some (.int i5), some (.int (0 : Int32)), some (.int (0 : Int32))]) (Nat.le_of_ble_eq_true rfl) rfl ?_
        refine q_end ?_
        exact (ih dp d hdp _ _ i1 i2 i3 i4 i5 (0 : Int32) (0 : Int32) _ _ _).2.2.1 h
    · intro h
      rw [e_279_2] at h
      refine K_of b_279_49 h_279_49 ?_
      refine q_iload rfl ?_
      refine q_aload rfl ?_
      obtain ⟨d_52, h⟩ := ite_some h
      obtain ⟨⟨x0_52, I0_52, L0_52⟩, e_52, h⟩ := Option.bind_eq_some_iff.mp h
      dsimp only at h
      refine q_fv1I (a_198 X hS (d := d - 1) (by omega) e_52) (by omega) (Nat.le_refl _) (Nat.le_refl _) rfl (Nat.le_of_ble_eq_true rfl) ⟨(zl hS 105 (by decide)), congrArg Prod.fst (sk hS 105 (by decide) rfl), by decide⟩ ?_
      refine q_icmp_ge (fun c_55 => ?_) (fun c_55 => ?_)
      · rw [if_pos c_55] at h
        refine K_of b_279_97 h_279_97 ?_
        refine q_aload rfl ?_
        refine q_getRs (c0 := 12) (j := 3) rfl rfl (zl hS 105 (by decide)) (sk hS 105 (by decide) rfl) rfl (by decide) (r_105_3 hS) ?_
        refine q_iconst (60) (by decide) ?_
        refine q_iload rfl ?_
        refine q_iadd ?_
        obtain ⟨⟨u_106, v_106⟩, h⟩ := ite_some h
        refine q_ialN (Int32.toNatClampNeg ((60 : Int32) + i5)) (nx u_106) (zl hS 107 (by decide)) (sk hS 107 (by decide) rfl) v_106 (by decide) ?_
        obtain ⟨v_107, nv_107, h⟩ := stI_some h
        refine q_eqi nv_107.symm ?_
        refine q_istore (ls1 := [some (.ref 105), some (.int i1), some (.int i2), some (.int i3), some (.int i4), some (.int i5), some (.int i6), some (.int v_107)]) (Nat.le_of_ble_eq_true rfl) rfl ?_
        refine q_iload rfl ?_
        refine q_iload rfl ?_
        refine q_iload rfl ?_
        refine q_icmp_ge (fun c_114 => ?_) (fun c_114 => ?_)
        · rw [if_pos c_114] at h
          refine K_of b_279_122 h_279_122 ?_
          refine q_iload rfl ?_
          refine q_end ?_
          refine K_of b_279_124 h_279_124 ?_
          refine q_aload rfl ?_
          refine q_getRs (c0 := 12) (j := 3) rfl rfl (zl hS 105 (by decide)) (sk hS 105 (by decide) rfl) rfl (by decide) (r_105_3 hS) ?_
          refine q_iconst (40) (by decide) ?_
          refine q_iload rfl ?_
          refine q_iadd ?_
          obtain ⟨⟨u_133, v_133⟩, h⟩ := ite_some h
          refine q_ialN (Int32.toNatClampNeg ((40 : Int32) + i5)) (nx u_133) (zl hS 107 (by decide)) (sk hS 107 (by decide) rfl) v_133 (by decide) ?_
          refine q_imul ?_
          refine q_iload rfl ?_
          refine q_iload rfl ?_
          refine q_icmp_le (fun c_139 => ?_) (fun c_139 => ?_)
          · rw [if_pos c_139] at h
            refine K_of b_279_150 h_279_150 ?_
            refine q_iconst (0) (by decide) ?_
            refine q_end ?_
            refine K_of b_279_151 h_279_151 ?_
            refine q_aload rfl ?_
            refine q_getRs (c0 := 12) (j := 3) rfl rfl (zl hS 105 (by decide)) (sk hS 105 (by decide) rfl) rfl (by decide) (r_105_3 hS) ?_
            refine q_iconst (50) (by decide) ?_
            refine q_iload rfl ?_
            refine q_iadd ?_
            obtain ⟨⟨u_160, v_160⟩, h⟩ := ite_some h
            refine q_ialN (Int32.toNatClampNeg ((50 : Int32) + i5)) (nx u_160) (zl hS 107 (by decide)) (sk hS 107 (by decide) rfl) v_160 (by decide) ?_
            refine q_imul ?_
            refine q_iadd ?_
            refine q_iadd ?_
            obtain ⟨v_164, nv_164, h⟩ := stI_some h
            refine q_eqi nv_164.symm ?_
            refine q_istore (ls1 := [some (.ref 105), some (.int i1), some (.int v_164), some (.int i3), some (.int i4), some (.int i5), some (.int i6), some (.int v_107)]) (Nat.le_of_ble_eq_true rfl) rfl ?_
            refine q_iload rfl ?_
            refine q_iload rfl ?_
            refine q_iload rfl ?_
            obtain ⟨d_171, h⟩ := ite_some h
            obtain ⟨⟨x1_171, I1_171, L1_171⟩, e_171, h⟩ := Option.bind_eq_some_iff.mp h
            dsimp only at h
            refine q_fs2I (a_272 X hS (d := d - 1) (by omega) e_171) (by omega) (Nat.le_refl _) (Nat.le_refl _) rfl (Nat.le_of_ble_eq_true rfl) ?_
            refine q_iadd ?_
            refine q_istore (ls1 := [some (.ref 105), some (.int i1), some (.int v_164), some (.int i3), some (.int (i4 + x1_171)), some (.int i5), some (.int i6), some (.int v_107)]) (Nat.le_of_ble_eq_true rfl) rfl ?_
            refine q_iinc (ls1 := [some (.ref 105), some (.int i1), some (.int v_164), some (.int i3), some (.int (i4 + x1_171)), some (.int (i5 + Int32.ofInt (1))), some (.int i6), some (.int v_107)]) rfl rfl ?_
            refine q_goto ?_
            refine K_mask [true, true, true, true, true, true, false, false] (Nat.le_of_ble_eq_true rfl) ?_
            exact (ih dp d hdp _ _ i1 v_164 i3 (i4 + x1_171) (i5 + Int32.ofInt (1)) 0 0 _ _ _).2.1 h
          · rw [if_neg c_139] at h
            refine q_iload rfl ?_
            refine q_iload rfl ?_
            refine q_isub ?_
            refine q_goto ?_
            refine K_of b_279_151 h_279_151 ?_
            refine q_aload rfl ?_
            refine q_getRs (c0 := 12) (j := 3) rfl rfl (zl hS 105 (by decide)) (sk hS 105 (by decide) rfl) rfl (by decide) (r_105_3 hS) ?_
            refine q_iconst (50) (by decide) ?_
            refine q_iload rfl ?_
            refine q_iadd ?_
            obtain ⟨⟨u_160, v_160⟩, h⟩ := ite_some h
            refine q_ialN (Int32.toNatClampNeg ((50 : Int32) + i5)) (nx u_160) (zl hS 107 (by decide)) (sk hS 107 (by decide) rfl) v_160 (by decide) ?_
            refine q_imul ?_
            refine q_iadd ?_
            refine q_iadd ?_
            obtain ⟨v_164, nv_164, h⟩ := stI_some h
            refine q_eqi nv_164.symm ?_
            refine q_istore (ls1 := [some (.ref 105), some (.int i1), some (.int v_164), some (.int i3), some (.int i4), some (.int i5), some (.int i6), some (.int v_107)]) (Nat.le_of_ble_eq_true rfl) rfl ?_
            refine q_iload rfl ?_
            refine q_iload rfl ?_
            refine q_iload rfl ?_
            obtain ⟨d_171, h⟩ := ite_some h
            obtain ⟨⟨x1_171, I1_171, L1_171⟩, e_171, h⟩ := Option.bind_eq_some_iff.mp h
            dsimp only at h
            refine q_fs2I (a_272 X hS (d := d - 1) (by omega) e_171) (by omega) (Nat.le_refl _) (Nat.le_refl _) rfl (Nat.le_of_ble_eq_true rfl) ?_
            refine q_iadd ?_
            refine q_istore (ls1 := [some (.ref 105), some (.int i1), some (.int v_164), some (.int i3), some (.int (i4 + x1_171)), some (.int i5), some (.int i6), some (.int v_107)]) (Nat.le_of_ble_eq_true rfl) rfl ?_
            refine q_iinc (ls1 := [some (.ref 105), some (.int i1), some (.int v_164), some (.int i3), some (.int (i4 + x1_171)), some (.int (i5 + Int32.ofInt (1))), some (.int i6), some (.int v_107)]) rfl rfl ?_
            refine q_goto ?_
            refine K_mask [true, true, true, true, true, true, false, false] (Nat.le_of_ble_eq_true rfl) ?_
            exact (ih dp d hdp _ _ i1 v_164 i3 (i4 + x1_171) (i5 + Int32.ofInt (1)) 0 0 _ _ _).2.1 h
        · rw [if_neg c_114] at h
          refine q_iload rfl ?_
          refine q_goto ?_
          refine K_of b_279_124 h_279_124 ?_
          refine q_aload rfl ?_
          refine q_getRs (c0 := 12) (j := 3) rfl rfl (zl hS 105 (by decide)) (sk hS 105 (by decide) rfl) rfl (by decide) (r_105_3 hS) ?_
          refine q_iconst (40) (by decide) ?_
          refine q_iload rfl ?_
          refine q_iadd ?_
          obtain ⟨⟨u_133, v_133⟩, h⟩ := ite_some h
          refine q_ialN (Int32.toNatClampNeg ((40 : Int32) + i5)) (nx u_133) (zl hS 107 (by decide)) (sk hS 107 (by decide) rfl) v_133 (by decide) ?_
          refine q_imul ?_
          refine q_iload rfl ?_
          refine q_iload rfl ?_
          refine q_icmp_le (fun c_139 => ?_) (fun c_139 => ?_)
          · rw [if_pos c_139] at h
            refine K_of b_279_150 h_279_150 ?_
            refine q_iconst (0) (by decide) ?_
            refine q_end ?_
            refine K_of b_279_151 h_279_151 ?_
            refine q_aload rfl ?_
            refine q_getRs (c0 := 12) (j := 3) rfl rfl (zl hS 105 (by decide)) (sk hS 105 (by decide) rfl) rfl (by decide) (r_105_3 hS) ?_
            refine q_iconst (50) (by decide) ?_
            refine q_iload rfl ?_
            refine q_iadd ?_
            obtain ⟨⟨u_160, v_160⟩, h⟩ := ite_some h
            refine q_ialN (Int32.toNatClampNeg ((50 : Int32) + i5)) (nx u_160) (zl hS 107 (by decide)) (sk hS 107 (by decide) rfl) v_160 (by decide) ?_
            refine q_imul ?_
            refine q_iadd ?_
            refine q_iadd ?_
            obtain ⟨v_164, nv_164, h⟩ := stI_some h
            refine q_eqi nv_164.symm ?_
            refine q_istore (ls1 := [some (.ref 105), some (.int i1), some (.int v_164), some (.int i3), some (.int i4), some (.int i5), some (.int i6), some (.int v_107)]) (Nat.le_of_ble_eq_true rfl) rfl ?_
            refine q_iload rfl ?_
            refine q_iload rfl ?_
            refine q_iload rfl ?_
            obtain ⟨d_171, h⟩ := ite_some h
            obtain ⟨⟨x1_171, I1_171, L1_171⟩, e_171, h⟩ := Option.bind_eq_some_iff.mp h
            dsimp only at h
            refine q_fs2I (a_272 X hS (d := d - 1) (by omega) e_171) (by omega) (Nat.le_refl _) (Nat.le_refl _) rfl (Nat.le_of_ble_eq_true rfl) ?_
            refine q_iadd ?_
            refine q_istore (ls1 := [some (.ref 105), some (.int i1), some (.int v_164), some (.int i3), some (.int (i4 + x1_171)), some (.int i5), some (.int i6), some (.int v_107)]) (Nat.le_of_ble_eq_true rfl) rfl ?_
            refine q_iinc (ls1 := [some (.ref 105), some (.int i1), some (.int v_164), some (.int i3), some (.int (i4 + x1_171)), some (.int (i5 + Int32.ofInt (1))), some (.int i6), some (.int v_107)]) rfl rfl ?_
            refine q_goto ?_
            refine K_mask [true, true, true, true, true, true, false, false] (Nat.le_of_ble_eq_true rfl) ?_
            exact (ih dp d hdp _ _ i1 v_164 i3 (i4 + x1_171) (i5 + Int32.ofInt (1)) 0 0 _ _ _).2.1 h
          · rw [if_neg c_139] at h
            refine q_iload rfl ?_
            refine q_iload rfl ?_
            refine q_isub ?_
            refine q_goto ?_
            refine K_of b_279_151 h_279_151 ?_
            refine q_aload rfl ?_
            refine q_getRs (c0 := 12) (j := 3) rfl rfl (zl hS 105 (by decide)) (sk hS 105 (by decide) rfl) rfl (by decide) (r_105_3 hS) ?_
            refine q_iconst (50) (by decide) ?_
            refine q_iload rfl ?_
            refine q_iadd ?_
            obtain ⟨⟨u_160, v_160⟩, h⟩ := ite_some h
            refine q_ialN (Int32.toNatClampNeg ((50 : Int32) + i5)) (nx u_160) (zl hS 107 (by decide)) (sk hS 107 (by decide) rfl) v_160 (by decide) ?_
            refine q_imul ?_
            refine q_iadd ?_
            refine q_iadd ?_
            obtain ⟨v_164, nv_164, h⟩ := stI_some h
            refine q_eqi nv_164.symm ?_
            refine q_istore (ls1 := [some (.ref 105), some (.int i1), some (.int v_164), some (.int i3), some (.int i4), some (.int i5), some (.int i6), some (.int v_107)]) (Nat.le_of_ble_eq_true rfl) rfl ?_
            refine q_iload rfl ?_
            refine q_iload rfl ?_
            refine q_iload rfl ?_
            obtain ⟨d_171, h⟩ := ite_some h
            obtain ⟨⟨x1_171, I1_171, L1_171⟩, e_171, h⟩ := Option.bind_eq_some_iff.mp h
            dsimp only at h
            refine q_fs2I (a_272 X hS (d := d - 1) (by omega) e_171) (by omega) (Nat.le_refl _) (Nat.le_refl _) rfl (Nat.le_of_ble_eq_true rfl) ?_
            refine q_iadd ?_
            refine q_istore (ls1 := [some (.ref 105), some (.int i1), some (.int v_164), some (.int i3), some (.int (i4 + x1_171)), some (.int i5), some (.int i6), some (.int v_107)]) (Nat.le_of_ble_eq_true rfl) rfl ?_
            refine q_iinc (ls1 := [some (.ref 105), some (.int i1), some (.int v_164), some (.int i3), some (.int (i4 + x1_171)), some (.int (i5 + Int32.ofInt (1))), some (.int i6), some (.int v_107)]) rfl rfl ?_
            refine q_goto ?_
            refine K_mask [true, true, true, true, true, true, false, false] (Nat.le_of_ble_eq_true rfl) ?_
            exact (ih dp d hdp _ _ i1 v_164 i3 (i4 + x1_171) (i5 + Int32.ofInt (1)) 0 0 _ _ _).2.1 h
      · rw [if_neg c_55] at h
        refine q_iload rfl ?_
        refine q_aload rfl ?_
        refine q_getRs (c0 := 12) (j := 35) rfl rfl (zl hS 105 (by decide)) (sk hS 105 (by decide) rfl) rfl (by decide) (r_105_35 hS) ?_
        refine q_iconst (640) (by decide) ?_
        refine q_aload rfl ?_
        refine q_iload rfl ?_
        obtain ⟨d_70, h⟩ := ite_some h
        obtain ⟨⟨x1_70, I1_70, L1_70⟩, e_70, h⟩ := Option.bind_eq_some_iff.mp h
        dsimp only at h
        refine q_fv2I (a_280 X hS (d := d - 1) (by omega) e_70) (by omega) (Nat.le_refl _) (Nat.le_refl _) rfl (Nat.le_of_ble_eq_true rfl) ⟨(zl hS 105 (by decide)), congrArg Prod.fst (sk hS 105 (by decide) rfl), by decide⟩ ?_
        refine q_imul ?_
        refine q_iconst (10) (by decide) ?_
        refine q_aload rfl ?_
        refine q_iload rfl ?_
        obtain ⟨d_79, h⟩ := ite_some h
        obtain ⟨⟨x2_79, I2_79, L2_79⟩, e_79, h⟩ := Option.bind_eq_some_iff.mp h
        dsimp only at h
        refine q_fv2I (a_281 X hS (d := d - 1) (by omega) e_79) (by omega) (Nat.le_refl _) (Nat.le_refl _) rfl (Nat.le_of_ble_eq_true rfl) ⟨(zl hS 105 (by decide)), congrArg Prod.fst (sk hS 105 (by decide) rfl), by decide⟩ ?_
        refine q_imul ?_
        refine q_iadd ?_
        refine q_iload rfl ?_
        refine q_iadd ?_
        obtain ⟨⟨u_87, v_87⟩, h⟩ := ite_some h
        refine q_ialN (Int32.toNatClampNeg ((((640 : Int32) * x1_70) + ((10 : Int32) * x2_79)) + i5)) (nx u_87) (zl hS 122 (by decide)) (sk hS 122 (by decide) rfl) v_87 (by decide) ?_
        refine q_iadd ?_
        obtain ⟨v_89, nv_89, h⟩ := stI_some h
        refine q_eqi nv_89.symm ?_
        refine q_istore (ls1 := [some (.ref 105), some (.int i1), some (.int i2), some (.int i3), some (.int i4), some (.int i5), some (.int v_89), some (.int i7)]) (Nat.le_of_ble_eq_true rfl) rfl ?_
        refine q_iinc (ls1 := [some (.ref 105), some (.int i1), some (.int i2), some (.int i3), some (.int i4), some (.int i5), some (.int v_89), some (.int (i7 + Int32.ofInt (1)))]) rfl rfl ?_
        refine q_goto ?_
        exact (ih dp d hdp _ _ i1 i2 i3 i4 i5 v_89 (i7 + Int32.ofInt (1)) _ _ _).2.2.1 h
    · intro h
      rw [e_279_3] at h
      refine K_of b_279_186 h_279_186 ?_
      refine q_iload rfl ?_
      refine q_aload rfl ?_
      obtain ⟨d_189, h⟩ := ite_some h
      obtain ⟨⟨x0_189, I0_189, L0_189⟩, e_189, h⟩ := Option.bind_eq_some_iff.mp h
      dsimp only at h
      refine q_fv1I (a_198 X hS (d := d - 1) (by omega) e_189) (by omega) (Nat.le_refl _) (Nat.le_refl _) rfl (Nat.le_of_ble_eq_true rfl) ⟨(zl hS 105 (by decide)), congrArg Prod.fst (sk hS 105 (by decide) rfl), by decide⟩ ?_
      refine q_icmp_ge (fun c_192 => ?_) (fun c_192 => ?_)
      · rw [if_pos c_192] at h
        refine K_of b_279_225 h_279_225 ?_
        refine q_iload rfl ?_
        refine q_if_ne (fun c_226 => ?_) (fun c_226 => ?_)
        · rw [if_neg c_226] at h
          refine K_of b_279_233 h_279_233 ?_
          refine q_iload rfl ?_
          refine q_iconst (1) (by decide) ?_
          refine q_icmp_ne (fun c_235 => ?_) (fun c_235 => ?_)
          · rw [if_neg c_235] at h
            refine K_of b_279_247 h_279_247 ?_
            refine q_iload rfl ?_
            refine q_iconst (2) (by decide) ?_
            refine q_icmp_ne (fun c_249 => ?_) (fun c_249 => ?_)
            · rw [if_neg c_249] at h
              refine K_of b_279_256 h_279_256 ?_
              refine q_iload rfl ?_
              refine q_end ?_
              refine K_of b_279_258 h_279_258 ?_
              cases h
              exact q_iret rfl (Nat.le_refl _) (Nat.le_refl _) ⟨rfl, rfl⟩
            · rw [if_pos c_249] at h
              refine q_iload rfl ?_
              refine q_goto ?_
              refine K_of b_279_258 h_279_258 ?_
              cases h
              exact q_iret rfl (Nat.le_refl _) (Nat.le_refl _) ⟨rfl, rfl⟩
          · rw [if_pos c_235] at h
            refine q_aload rfl ?_
            refine q_getI (c0 := 12) (j := 53) rfl rfl (zl hS 105 (by decide)) (sk hS 105 (by decide) rfl) (Or.inl rfl) (by decide) ?_
            refine q_iload rfl ?_
            refine q_isub ?_
            refine q_goto ?_
            refine K_of b_279_258 h_279_258 ?_
            cases h
            exact q_iret rfl (Nat.le_refl _) (Nat.le_refl _) ⟨rfl, rfl⟩
        · rw [if_pos c_226] at h
          refine q_iload rfl ?_
          refine q_goto ?_
          refine K_of b_279_258 h_279_258 ?_
          cases h
          exact q_iret rfl (Nat.le_refl _) (Nat.le_refl _) ⟨rfl, rfl⟩
      · rw [if_neg c_192] at h
        refine q_iload rfl ?_
        refine q_aload rfl ?_
        refine q_iload rfl ?_
        obtain ⟨d_199, h⟩ := ite_some h
        obtain ⟨⟨x1_199, I1_199, L1_199⟩, e_199, h⟩ := Option.bind_eq_some_iff.mp h
        dsimp only at h
        refine q_fv2I (a_281 X hS (d := d - 1) (by omega) e_199) (by omega) (Nat.le_refl _) (Nat.le_refl _) rfl (Nat.le_of_ble_eq_true rfl) ⟨(zl hS 105 (by decide)), congrArg Prod.fst (sk hS 105 (by decide) rfl), by decide⟩ ?_
        refine q_aload rfl ?_
        refine q_getRs (c0 := 12) (j := 55) rfl rfl (zl hS 105 (by decide)) (sk hS 105 (by decide) rfl) rfl (by decide) (r_105_55 hS) ?_
        refine q_iload rfl ?_
        obtain ⟨⟨u_208, v_208⟩, h⟩ := ite_some h
        refine q_ialN (Int32.toNatClampNeg i5) (nx u_208) (zl hS 134 (by decide)) (sk hS 134 (by decide) rfl) v_208 (by decide) ?_
        refine q_icmp_eq (fun c_209 => ?_) (fun c_209 => ?_)
        · rw [if_pos c_209] at h
          refine K_of b_279_216 h_279_216 ?_
          refine q_iconst (0) (by decide) ?_
          refine q_end ?_
          refine K_of b_279_217 h_279_217 ?_
          refine q_iadd ?_
          refine q_istore (ls1 := [some (.ref 105), some (.int i1), some (.int i2), some (.int (i3 + (0 : Int32))), some (.int i4), some (.int i5), none, none]) (Nat.le_of_ble_eq_true rfl) rfl ?_
          refine q_iinc (ls1 := [some (.ref 105), some (.int i1), some (.int i2), some (.int (i3 + (0 : Int32))), some (.int i4), some (.int (i5 + Int32.ofInt (1))), none, none]) rfl rfl ?_
          refine q_goto ?_
          exact (ih dp d hdp _ _ i1 i2 (i3 + (0 : Int32)) i4 (i5 + Int32.ofInt (1)) 0 0 _ _ _).2.2.2 h
        · rw [if_neg c_209] at h
          refine q_iconst (1) (by decide) ?_
          refine q_goto ?_
          refine K_of b_279_217 h_279_217 ?_
          refine q_iadd ?_
          refine q_istore (ls1 := [some (.ref 105), some (.int i1), some (.int i2), some (.int (i3 + (1 : Int32))), some (.int i4), some (.int i5), none, none]) (Nat.le_of_ble_eq_true rfl) rfl ?_
          refine q_iinc (ls1 := [some (.ref 105), some (.int i1), some (.int i2), some (.int (i3 + (1 : Int32))), some (.int i4), some (.int (i5 + Int32.ofInt (1))), none, none]) rfl rfl ?_
          refine q_goto ?_
          exact (ih dp d hdp _ _ i1 i2 (i3 + (1 : Int32)) i4 (i5 + Int32.ofInt (1)) 0 0 _ _ _).2.2.2 h
theorem a_279 (X : GX) {z : Nat} {kd : Nat → Nat × Nat} {Rf : Nat → Nat → Option Nat} (hS : Sh z kd Rf) {n dp d : Nat} (hd : dp ≤ d) {I : (Nat → Nat → Int32)} {L : (Nat → Nat → Int64)} {i1 : Int32} {I1 : (Nat → Nat → Int32)} {L1 : (Nat → Nat → Int64)} {r : Int32} (h : g_279 n dp (z, kd, Rf) 0 I L i1 0 0 0 0 0 0 = some (r, I1, L1)) : Ct X d 279 0 0 [.ref 105, .int i1] (z, kd, I, L, Rf) (AI (fun x τ => x = r ∧ τ = (z, kd, I1, L1, Rf))) :=
  Ct_of mu_279 (Nat.le_of_ble_eq_true rfl) ((w_279 X hS n dp d hd I L i1 0 0 0 0 0 0 _ _ _).1 h)

/-! 284 CutFloorModel.comes(III)I -/
set_option maxHeartbeats 4000000 in
set_option maxRecDepth 100000 in
def g_284 : Nat → Nat → EN → Nat → (Nat → Nat → Int32) → (Nat → Nat → Int64) → Int32 → Int32 → Int32 → Int32 → Int32 → Int32 →  Option (Int32 × (Nat → Nat → Int32) × (Nat → Nat → Int64))
  | 0, _, _, _, _, _, _, _, _, _, _, _ => none
  | n + 1, dp, e, lab, I, L, i1, i2, i3, i4, i5, i6 =>
    if lab = 0 then (g_284 n dp e 1 I L i1 i2 i3 (0 : Int32) 0 0)
    else if lab = 1 then (if (10 : Int32) ≤ i4 then (g_284 n dp e 2 I L i1 i2 i3 (0 : Int32) 0 0) else (if i4 = 0 then (if 0 ≤ i4 ∧ (Int32.toNatClampNeg i4) < 110 then (stI (u2 I 124 (Int32.toNatClampNeg i4) (1 : Int32)) (fun I_26 => (g_284 n dp e 1 I_26 L i1 i2 i3 (i4 + Int32.ofInt (1)) 0 0))) else none) else (if 0 ≤ i4 ∧ (Int32.toNatClampNeg i4) < 110 then (stI (u2 I 124 (Int32.toNatClampNeg i4) (0 : Int32)) (fun I_26 => (g_284 n dp e 1 I_26 L i1 i2 i3 (i4 + Int32.ofInt (1)) 0 0))) else none)))
    else if lab = 2 then (if i3 ≤ i4 then (if 0 ≤ i3 ∧ (Int32.toNatClampNeg i3) < 110 then (some ((I 124 (Int32.toNatClampNeg i3)), I, L)) else none) else (if 0 ≤ ((((640 : Int32) * i1) + ((10 : Int32) * i2)) + i4) ∧ (Int32.toNatClampNeg ((((640 : Int32) * i1) + ((10 : Int32) * i2)) + i4)) < 1920 then (stI (I 121 (Int32.toNatClampNeg ((((640 : Int32) * i1) + ((10 : Int32) * i2)) + i4))) (fun v_60 => (g_284 n dp e 3 I L i1 i2 i3 i4 v_60 (i4 + (1 : Int32))))) else none))
    else if lab = 3 then (if (10 : Int32) ≤ i6 then (g_284 n dp e 4 I L i1 i2 i3 i4 i5 i6) else (if i5 = (-1 : Int32) then (g_284 n dp e 4 I L i1 i2 i3 i4 i5 i6) else (if 0 ≤ i6 ∧ (Int32.toNatClampNeg i6) < 110 then (if 0 ≤ i4 ∧ (Int32.toNatClampNeg i4) < 110 then (if 1 ≤ dp then (g_241 n (dp - 1) e 0 I L i5 i6).bind (fun ⟨x0_101, I0_101, L0_101⟩ => (if 0 ≤ i6 ∧ (Int32.toNatClampNeg i6) < 110 then (stI (u2 I0_101 124 (Int32.toNatClampNeg i6) ((I 124 (Int32.toNatClampNeg i6)) + ((I 124 (Int32.toNatClampNeg i4)) * x0_101))) (fun I_106 => (g_284 n dp e 3 I_106 L0_101 i1 i2 i3 i4 i5 (i6 + Int32.ofInt (1))))) else none)) else none) else none) else none)))
    else if lab = 4 then (g_284 n dp e 2 I L i1 i2 i3 (i4 + Int32.ofInt (1)) 0 0)
    else none
set_option maxRecDepth 100000 in
theorem e_284_0 (n dp : Nat) (e : EN) (I : (Nat → Nat → Int32)) (L : (Nat → Nat → Int64)) (i1 : Int32) (i2 : Int32) (i3 : Int32) (i4 : Int32) (i5 : Int32) (i6 : Int32) : g_284 (n + 1) dp e 0 I L i1 i2 i3 i4 i5 i6 = (g_284 n dp e 1 I L i1 i2 i3 (0 : Int32) 0 0) := by rw [g_284.eq_2, if_pos (show (0 : Nat) = 0 from rfl)]
set_option maxRecDepth 100000 in
theorem e_284_1 (n dp : Nat) (e : EN) (I : (Nat → Nat → Int32)) (L : (Nat → Nat → Int64)) (i1 : Int32) (i2 : Int32) (i3 : Int32) (i4 : Int32) (i5 : Int32) (i6 : Int32) : g_284 (n + 1) dp e 1 I L i1 i2 i3 i4 i5 i6 = (if (10 : Int32) ≤ i4 then (g_284 n dp e 2 I L i1 i2 i3 (0 : Int32) 0 0) else (if i4 = 0 then (if 0 ≤ i4 ∧ (Int32.toNatClampNeg i4) < 110 then (stI (u2 I 124 (Int32.toNatClampNeg i4) (1 : Int32)) (fun I_26 => (g_284 n dp e 1 I_26 L i1 i2 i3 (i4 + Int32.ofInt (1)) 0 0))) else none) else (if 0 ≤ i4 ∧ (Int32.toNatClampNeg i4) < 110 then (stI (u2 I 124 (Int32.toNatClampNeg i4) (0 : Int32)) (fun I_26 => (g_284 n dp e 1 I_26 L i1 i2 i3 (i4 + Int32.ofInt (1)) 0 0))) else none))) := by rw [g_284.eq_2, if_neg (show ¬ ((1 : Nat) = 0) by decide), if_pos (show (1 : Nat) = 1 from rfl)]
set_option maxRecDepth 100000 in
theorem e_284_2 (n dp : Nat) (e : EN) (I : (Nat → Nat → Int32)) (L : (Nat → Nat → Int64)) (i1 : Int32) (i2 : Int32) (i3 : Int32) (i4 : Int32) (i5 : Int32) (i6 : Int32) : g_284 (n + 1) dp e 2 I L i1 i2 i3 i4 i5 i6 = (if i3 ≤ i4 then (if 0 ≤ i3 ∧ (Int32.toNatClampNeg i3) < 110 then (some ((I 124 (Int32.toNatClampNeg i3)), I, L)) else none) else (if 0 ≤ ((((640 : Int32) * i1) + ((10 : Int32) * i2)) + i4) ∧ (Int32.toNatClampNeg ((((640 : Int32) * i1) + ((10 : Int32) * i2)) + i4)) < 1920 then (stI (I 121 (Int32.toNatClampNeg ((((640 : Int32) * i1) + ((10 : Int32) * i2)) + i4))) (fun v_60 => (g_284 n dp e 3 I L i1 i2 i3 i4 v_60 (i4 + (1 : Int32))))) else none)) := by rw [g_284.eq_2, if_neg (show ¬ ((2 : Nat) = 0) by decide), if_neg (show ¬ ((2 : Nat) = 1) by decide), if_pos (show (2 : Nat) = 2 from rfl)]
set_option maxRecDepth 100000 in
theorem e_284_3 (n dp : Nat) (e : EN) (I : (Nat → Nat → Int32)) (L : (Nat → Nat → Int64)) (i1 : Int32) (i2 : Int32) (i3 : Int32) (i4 : Int32) (i5 : Int32) (i6 : Int32) : g_284 (n + 1) dp e 3 I L i1 i2 i3 i4 i5 i6 = (if (10 : Int32) ≤ i6 then (g_284 n dp e 4 I L i1 i2 i3 i4 i5 i6) else (if i5 = (-1 : Int32) then (g_284 n dp e 4 I L i1 i2 i3 i4 i5 i6) else (if 0 ≤ i6 ∧ (Int32.toNatClampNeg i6) < 110 then (if 0 ≤ i4 ∧ (Int32.toNatClampNeg i4) < 110 then (if 1 ≤ dp then (g_241 n (dp - 1) e 0 I L i5 i6).bind (fun ⟨x0_101, I0_101, L0_101⟩ => (if 0 ≤ i6 ∧ (Int32.toNatClampNeg i6) < 110 then (stI (u2 I0_101 124 (Int32.toNatClampNeg i6) ((I 124 (Int32.toNatClampNeg i6)) + ((I 124 (Int32.toNatClampNeg i4)) * x0_101))) (fun I_106 => (g_284 n dp e 3 I_106 L0_101 i1 i2 i3 i4 i5 (i6 + Int32.ofInt (1))))) else none)) else none) else none) else none))) := by rw [g_284.eq_2, if_neg (show ¬ ((3 : Nat) = 0) by decide), if_neg (show ¬ ((3 : Nat) = 1) by decide), if_neg (show ¬ ((3 : Nat) = 2) by decide), if_pos (show (3 : Nat) = 3 from rfl)]
set_option maxRecDepth 100000 in
theorem e_284_4 (n dp : Nat) (e : EN) (I : (Nat → Nat → Int32)) (L : (Nat → Nat → Int64)) (i1 : Int32) (i2 : Int32) (i3 : Int32) (i4 : Int32) (i5 : Int32) (i6 : Int32) : g_284 (n + 1) dp e 4 I L i1 i2 i3 i4 i5 i6 = (g_284 n dp e 2 I L i1 i2 i3 (i4 + Int32.ofInt (1)) 0 0) := by rw [g_284.eq_2, if_neg (show ¬ ((4 : Nat) = 0) by decide), if_neg (show ¬ ((4 : Nat) = 1) by decide), if_neg (show ¬ ((4 : Nat) = 2) by decide), if_neg (show ¬ ((4 : Nat) = 3) by decide), if_pos (show (4 : Nat) = 4 from rfl)]
set_option maxHeartbeats 8000000 in
set_option maxRecDepth 100000 in
theorem w_284 (X : GX) {z : Nat} {kd : Nat → Nat × Nat} {Rf : Nat → Nat → Option Nat} (hS : Sh z kd Rf) : ∀ (n dp d : Nat), dp ≤ d → ∀ (I : (Nat → Nat → Int32)) (L : (Nat → Nat → Int64)) (i1 : Int32) (i2 : Int32) (i3 : Int32) (i4 : Int32) (i5 : Int32) (i6 : Int32) (r : Int32) (I1 : (Nat → Nat → Int32)) (L1 : (Nat → Nat → Int64)), (g_284 n dp (z, kd, Rf) 0 I L i1 i2 i3 i4 i5 i6 = some (r, I1, L1) → K X d 284 0 0 (AI (fun x τ => x = r ∧ τ = (z, kd, I1, L1, Rf))) 0 [some (.ref 105), some (.int i1), some (.int i2), some (.int i3), none, none, none] [] (z, kd, I, L, Rf) 0 0) ∧
    (g_284 n dp (z, kd, Rf) 1 I L i1 i2 i3 i4 i5 i6 = some (r, I1, L1) → K X d 284 0 0 (AI (fun x τ => x = r ∧ τ = (z, kd, I1, L1, Rf))) 3 [some (.ref 105), some (.int i1), some (.int i2), some (.int i3), some (.int i4), none, none] [] (z, kd, I, L, Rf) 0 0) ∧
    (g_284 n dp (z, kd, Rf) 2 I L i1 i2 i3 i4 i5 i6 = some (r, I1, L1) → K X d 284 0 0 (AI (fun x τ => x = r ∧ τ = (z, kd, I1, L1, Rf))) 36 [some (.ref 105), some (.int i1), some (.int i2), some (.int i3), some (.int i4), none, none] [] (z, kd, I, L, Rf) 0 0) ∧
    (g_284 n dp (z, kd, Rf) 3 I L i1 i2 i3 i4 i5 i6 = some (r, I1, L1) → K X d 284 0 0 (AI (fun x τ => x = r ∧ τ = (z, kd, I1, L1, Rf))) 68 [some (.ref 105), some (.int i1), some (.int i2), some (.int i3), some (.int i4), some (.int i5), some (.int i6)] [] (z, kd, I, L, Rf) 0 0) ∧
    (g_284 n dp (z, kd, Rf) 4 I L i1 i2 i3 i4 i5 i6 = some (r, I1, L1) → K X d 284 0 0 (AI (fun x τ => x = r ∧ τ = (z, kd, I1, L1, Rf))) 113 [some (.ref 105), some (.int i1), some (.int i2), some (.int i3), some (.int i4), some (.int i5), some (.int i6)] [] (z, kd, I, L, Rf) 0 0) := by
  intro n
  induction n with
  | zero => intro dp d hdp I L i1 i2 i3 i4 i5 i6 r I1 L1; exact ⟨(fun h => by cases h), (fun h => by cases h), (fun h => by cases h), (fun h => by cases h), (fun h => by cases h)⟩
  | succ n ih =>
    intro dp d hdp I L i1 i2 i3 i4 i5 i6 r I1 L1
    refine ⟨?_, ?_, ?_, ?_, ?_⟩
    · intro h
      rw [e_284_0] at h
      refine K_of b_284_0 h_284_0 ?_
      refine q_iconst (0) (by decide) ?_
      refine q_istore (ls1 := [some (.ref 105), some (.int i1), some (.int i2), some (.int i3), some (.int (0 : Int32)), none, none]) (Nat.le_of_ble_eq_true rfl) rfl ?_
      refine q_end ?_
      exact (ih dp d hdp _ _ i1 i2 i3 (0 : Int32) 0 0 _ _ _).2.1 h
    · intro h
      rw [e_284_1] at h
      refine K_of b_284_3 h_284_3 ?_
      refine q_iload rfl ?_
      refine q_iconst (10) (by decide) ?_
      refine q_icmp_ge (fun c_7 => ?_) (fun c_7 => ?_)
      · rw [if_pos c_7] at h
        refine K_of b_284_33 h_284_33 ?_
        refine q_iconst (0) (by decide) ?_
        refine q_istore (ls1 := [some (.ref 105), some (.int i1), some (.int i2), some (.int i3), some (.int (0 : Int32)), none, none]) (Nat.le_of_ble_eq_true rfl) rfl ?_
        refine q_end ?_
        exact (ih dp d hdp _ _ i1 i2 i3 (0 : Int32) 0 0 _ _ _).2.2.1 h
      · rw [if_neg c_7] at h
        refine q_aload rfl ?_
        refine q_getRs (c0 := 12) (j := 37) rfl rfl (zl hS 105 (by decide)) (sk hS 105 (by decide) rfl) rfl (by decide) (r_105_37 hS) ?_
        refine q_iload rfl ?_
        refine q_iload rfl ?_
        refine q_if_ne (fun c_18 => ?_) (fun c_18 => ?_)
        · rw [if_neg c_18] at h
          refine K_of b_284_25 h_284_25 ?_
          refine q_iconst (0) (by decide) ?_
          refine q_end ?_
          refine K_of b_284_26 h_284_26 ?_
          obtain ⟨⟨u_26, v_26⟩, h⟩ := ite_some h
          refine q_iasN (Int32.toNatClampNeg i4) (nx u_26) (zl hS 124 (by decide)) (sk hS 124 (by decide) rfl) v_26 (by decide) ?_
          obtain ⟨I_26, nI_26, h⟩ := stI_some h
          refine q_nI nI_26 ?_
          refine q_iinc (ls1 := [some (.ref 105), some (.int i1), some (.int i2), some (.int i3), some (.int (i4 + Int32.ofInt (1))), none, none]) rfl rfl ?_
          refine q_goto ?_
          exact (ih dp d hdp _ _ i1 i2 i3 (i4 + Int32.ofInt (1)) 0 0 _ _ _).2.1 h
        · rw [if_pos c_18] at h
          refine q_iconst (1) (by decide) ?_
          refine q_goto ?_
          refine K_of b_284_26 h_284_26 ?_
          obtain ⟨⟨u_26, v_26⟩, h⟩ := ite_some h
          refine q_iasN (Int32.toNatClampNeg i4) (nx u_26) (zl hS 124 (by decide)) (sk hS 124 (by decide) rfl) v_26 (by decide) ?_
          obtain ⟨I_26, nI_26, h⟩ := stI_some h
          refine q_nI nI_26 ?_
          refine q_iinc (ls1 := [some (.ref 105), some (.int i1), some (.int i2), some (.int i3), some (.int (i4 + Int32.ofInt (1))), none, none]) rfl rfl ?_
          refine q_goto ?_
          exact (ih dp d hdp _ _ i1 i2 i3 (i4 + Int32.ofInt (1)) 0 0 _ _ _).2.1 h
    · intro h
      rw [e_284_2] at h
      refine K_of b_284_36 h_284_36 ?_
      refine q_iload rfl ?_
      refine q_iload rfl ?_
      refine q_icmp_ge (fun c_39 => ?_) (fun c_39 => ?_)
      · rw [if_pos c_39] at h
        refine K_of b_284_119 h_284_119 ?_
        refine q_aload rfl ?_
        refine q_getRs (c0 := 12) (j := 37) rfl rfl (zl hS 105 (by decide)) (sk hS 105 (by decide) rfl) rfl (by decide) (r_105_37 hS) ?_
        refine q_iload rfl ?_
        obtain ⟨⟨u_124, v_124⟩, h⟩ := ite_some h
        refine q_ialN (Int32.toNatClampNeg i3) (nx u_124) (zl hS 124 (by decide)) (sk hS 124 (by decide) rfl) v_124 (by decide) ?_
        cases h
        exact q_iret rfl (Nat.le_refl _) (Nat.le_refl _) ⟨rfl, rfl⟩
      · rw [if_neg c_39] at h
        refine q_aload rfl ?_
        refine q_getRs (c0 := 12) (j := 34) rfl rfl (zl hS 105 (by decide)) (sk hS 105 (by decide) rfl) rfl (by decide) (r_105_34 hS) ?_
        refine q_iconst (640) (by decide) ?_
        refine q_iload rfl ?_
        refine q_imul ?_
        refine q_iconst (10) (by decide) ?_
        refine q_iload rfl ?_
        refine q_imul ?_
        refine q_iadd ?_
        refine q_iload rfl ?_
        refine q_iadd ?_
        obtain ⟨⟨u_59, v_59⟩, h⟩ := ite_some h
        refine q_ialN (Int32.toNatClampNeg ((((640 : Int32) * i1) + ((10 : Int32) * i2)) + i4)) (nx u_59) (zl hS 121 (by decide)) (sk hS 121 (by decide) rfl) v_59 (by decide) ?_
        obtain ⟨v_60, nv_60, h⟩ := stI_some h
        refine q_eqi nv_60.symm ?_
        refine q_istore (ls1 := [some (.ref 105), some (.int i1), some (.int i2), some (.int i3), some (.int i4), some (.int v_60), none]) (Nat.le_of_ble_eq_true rfl) rfl ?_
        refine q_iload rfl ?_
        refine q_iconst (1) (by decide) ?_
        refine q_iadd ?_
        refine q_istore (ls1 := [some (.ref 105), some (.int i1), some (.int i2), some (.int i3), some (.int i4), some (.int v_60), some (.int (i4 + (1 : Int32)))]) (Nat.le_of_ble_eq_true rfl) rfl ?_
        refine q_end ?_
        exact (ih dp d hdp _ _ i1 i2 i3 i4 v_60 (i4 + (1 : Int32)) _ _ _).2.2.2.1 h
    · intro h
      rw [e_284_3] at h
      refine K_of b_284_68 h_284_68 ?_
      refine q_iload rfl ?_
      refine q_iconst (10) (by decide) ?_
      refine q_icmp_ge (fun c_72 => ?_) (fun c_72 => ?_)
      · rw [if_pos c_72] at h
        exact (ih dp d hdp _ _ i1 i2 i3 i4 i5 i6 _ _ _).2.2.2.2 h
      · rw [if_neg c_72] at h
        refine q_iload rfl ?_
        refine q_iconst (-1) (by decide) ?_
        refine q_icmp_eq (fun c_78 => ?_) (fun c_78 => ?_)
        · rw [if_pos c_78] at h
          exact (ih dp d hdp _ _ i1 i2 i3 i4 i5 i6 _ _ _).2.2.2.2 h
        · rw [if_neg c_78] at h
          refine q_aload rfl ?_
          refine q_getRs (c0 := 12) (j := 37) rfl rfl (zl hS 105 (by decide)) (sk hS 105 (by decide) rfl) rfl (by decide) (r_105_37 hS) ?_
          refine q_iload rfl ?_
          refine q_dup2 rfl rfl ?_
          obtain ⟨⟨u_88, v_88⟩, h⟩ := ite_some h
          refine q_ialN (Int32.toNatClampNeg i6) (nx u_88) (zl hS 124 (by decide)) (sk hS 124 (by decide) rfl) v_88 (by decide) ?_
          refine q_aload rfl ?_
          refine q_getRs (c0 := 12) (j := 37) rfl rfl (zl hS 105 (by decide)) (sk hS 105 (by decide) rfl) rfl (by decide) (r_105_37 hS) ?_
          refine q_iload rfl ?_
          obtain ⟨⟨u_95, v_95⟩, h⟩ := ite_some h
          refine q_ialN (Int32.toNatClampNeg i4) (nx u_95) (zl hS 124 (by decide)) (sk hS 124 (by decide) rfl) v_95 (by decide) ?_
          refine q_aload rfl ?_
          refine q_iload rfl ?_
          refine q_iload rfl ?_
          obtain ⟨d_101, h⟩ := ite_some h
          obtain ⟨⟨x0_101, I0_101, L0_101⟩, e_101, h⟩ := Option.bind_eq_some_iff.mp h
          dsimp only at h
          refine q_fv3I (a_241 X hS (d := d - 1) (by omega) e_101) (by omega) (Nat.le_refl _) (Nat.le_refl _) rfl (Nat.le_of_ble_eq_true rfl) ⟨(zl hS 105 (by decide)), congrArg Prod.fst (sk hS 105 (by decide) rfl), by decide⟩ ?_
          refine q_imul ?_
          refine q_iadd ?_
          obtain ⟨⟨u_106, v_106⟩, h⟩ := ite_some h
          refine q_iasN (Int32.toNatClampNeg i6) (nx u_106) (zl hS 124 (by decide)) (sk hS 124 (by decide) rfl) v_106 (by decide) ?_
          obtain ⟨I_106, nI_106, h⟩ := stI_some h
          refine q_nI nI_106 ?_
          refine q_iinc (ls1 := [some (.ref 105), some (.int i1), some (.int i2), some (.int i3), some (.int i4), some (.int i5), some (.int (i6 + Int32.ofInt (1)))]) rfl rfl ?_
          refine q_goto ?_
          exact (ih dp d hdp _ _ i1 i2 i3 i4 i5 (i6 + Int32.ofInt (1)) _ _ _).2.2.2.1 h
    · intro h
      rw [e_284_4] at h
      refine K_of b_284_113 h_284_113 ?_
      refine q_iinc (ls1 := [some (.ref 105), some (.int i1), some (.int i2), some (.int i3), some (.int (i4 + Int32.ofInt (1))), some (.int i5), some (.int i6)]) rfl rfl ?_
      refine q_goto ?_
      refine K_mask [true, true, true, true, true, false, false] (Nat.le_of_ble_eq_true rfl) ?_
      exact (ih dp d hdp _ _ i1 i2 i3 (i4 + Int32.ofInt (1)) 0 0 _ _ _).2.2.1 h
theorem a_284 (X : GX) {z : Nat} {kd : Nat → Nat × Nat} {Rf : Nat → Nat → Option Nat} (hS : Sh z kd Rf) {n dp d : Nat} (hd : dp ≤ d) {I : (Nat → Nat → Int32)} {L : (Nat → Nat → Int64)} {i1 : Int32} {i2 : Int32} {i3 : Int32} {I1 : (Nat → Nat → Int32)} {L1 : (Nat → Nat → Int64)} {r : Int32} (h : g_284 n dp (z, kd, Rf) 0 I L i1 i2 i3 0 0 0 = some (r, I1, L1)) : Ct X d 284 0 0 [.ref 105, .int i1, .int i2, .int i3] (z, kd, I, L, Rf) (AI (fun x τ => x = r ∧ τ = (z, kd, I1, L1, Rf))) :=
  Ct_of mu_284 (Nat.le_of_ble_eq_true rfl) ((w_284 X hS n dp d hd I L i1 i2 i3 0 0 0 _ _ _).1 h)

/-! 283 CutFloorModel.findTasks()V -/
set_option maxHeartbeats 4000000 in
set_option maxRecDepth 100000 in
def g_283 : Nat → Nat → EN → Nat → (Nat → Nat → Int32) → (Nat → Nat → Int64) → Int32 → Int32 → Int32 →  Option ((Nat → Nat → Int32) × (Nat → Nat → Int64))
  | 0, _, _, _, _, _, _, _, _ => none
  | n + 1, dp, e, lab, I, L, i1, i2, i3 =>
    if lab = 0 then (stI (u2 I 105 60 (0 : Int32)) (fun I_2 => (g_283 n dp e 1 I_2 L (0 : Int32) 0 0)))
    else if lab = 1 then (if (16 : Int32) ≤ i1 then (some (I, L)) else (if 0 ≤ i1 ∧ (Int32.toNatClampNeg i1) < 16 then (stI (u2 I 136 (Int32.toNatClampNeg i1) (0 : Int32)) (fun I_19 => (if 0 ≤ i1 ∧ (Int32.toNatClampNeg i1) < 16 then (stI (u2 I_19 138 (Int32.toNatClampNeg i1) (0 : Int32)) (fun I_26 => (g_283 n dp e 2 I_26 L i1 (0 : Int32) 0))) else none))) else none))
    else if lab = 2 then (if 1 ≤ dp then (g_198 n (dp - 1) e 0 I L).bind (fun ⟨x0_31, I0_31, L0_31⟩ => (if x0_31 ≤ i2 then (g_283 n dp e 4 I0_31 L0_31 i1 i2 0) else (if (I0_31 107 9) ≤ i1 then (g_283 n dp e 4 I0_31 L0_31 i1 i2 0) else (if 1 ≤ dp then (g_280 n (dp - 1) e 0 I0_31 L0_31 i2).bind (fun ⟨x1_50, I1_50, L1_50⟩ => (if 0 ≤ i2 ∧ (Int32.toNatClampNeg i2) < 8 then (if 1 ≤ dp then (g_240 n (dp - 1) e 0 I1_50 L1_50 i1).bind (fun ⟨x2_75, I2_75, L2_75⟩ => (if 0 ≤ ((((640 : Int32) * x1_50) + ((10 : Int32) * (I1_50 134 (Int32.toNatClampNeg i2)))) + x2_75) ∧ (Int32.toNatClampNeg ((((640 : Int32) * x1_50) + ((10 : Int32) * (I1_50 134 (Int32.toNatClampNeg i2)))) + x2_75)) < 1920 then (if (I2_75 121 (Int32.toNatClampNeg ((((640 : Int32) * x1_50) + ((10 : Int32) * (I1_50 134 (Int32.toNatClampNeg i2)))) + x2_75))) = i1 then (if 0 ≤ i1 ∧ (Int32.toNatClampNeg i1) < 16 then (if (I2_75 138 (Int32.toNatClampNeg i1)) = 0 then (if 1 ≤ dp then (g_251 n (dp - 1) e 0 I2_75 L2_75 i1 x1_50).bind (fun ⟨x3_110, I3_110, L3_110⟩ => (if 0 ≤ i1 ∧ (Int32.toNatClampNeg i1) < 16 then (stI (u2 I3_110 137 (Int32.toNatClampNeg i1) x3_110) (fun I_113 => (if 0 ≤ i1 ∧ (Int32.toNatClampNeg i1) < 16 then (if (I_113 138 (Int32.toNatClampNeg i1)) = 0 then (stI (u2 I_113 105 60 ((I_113 105 60) + (1 : Int32))) (fun I_134 => (if 0 ≤ i1 ∧ (Int32.toNatClampNeg i1) < 16 then (stI (u2 I_134 138 (Int32.toNatClampNeg i1) (1 : Int32)) (fun I_143 => (if 0 ≤ i1 ∧ (Int32.toNatClampNeg i1) < 16 then (if 0 ≤ i2 ∧ (Int32.toNatClampNeg i2) < 8 then (if 1 ≤ dp then (g_240 n (dp - 1) e 0 I_143 L3_110 i1).bind (fun ⟨x4_161, I4_161, L4_161⟩ => (if 1 ≤ dp then (g_284 n (dp - 1) e 0 I4_161 L4_161 x1_50 (I_143 134 (Int32.toNatClampNeg i2)) x4_161 0 0 0).bind (fun ⟨x5_164, I5_164, L5_164⟩ => (if 1 ≤ dp then (g_250 n (dp - 1) e 0 I5_164 L5_164 i1 x1_50).bind (fun ⟨x6_170, I6_170, L6_170⟩ => (if 0 ≤ i1 ∧ (Int32.toNatClampNeg i1) < 16 then (stI (u2 I6_170 136 (Int32.toNatClampNeg i1) ((I_143 136 (Int32.toNatClampNeg i1)) + (x5_164 * x6_170))) (fun I_175 => (g_283 n dp e 3 I_175 L6_170 i1 i2 x1_50))) else none)) else none)) else none)) else none) else none) else none))) else none))) else (stI (u2 I_113 105 60 ((I_113 105 60) + (0 : Int32))) (fun I_134 => (if 0 ≤ i1 ∧ (Int32.toNatClampNeg i1) < 16 then (stI (u2 I_134 138 (Int32.toNatClampNeg i1) (1 : Int32)) (fun I_143 => (if 0 ≤ i1 ∧ (Int32.toNatClampNeg i1) < 16 then (if 0 ≤ i2 ∧ (Int32.toNatClampNeg i2) < 8 then (if 1 ≤ dp then (g_240 n (dp - 1) e 0 I_143 L3_110 i1).bind (fun ⟨x4_161, I4_161, L4_161⟩ => (if 1 ≤ dp then (g_284 n (dp - 1) e 0 I4_161 L4_161 x1_50 (I_143 134 (Int32.toNatClampNeg i2)) x4_161 0 0 0).bind (fun ⟨x5_164, I5_164, L5_164⟩ => (if 1 ≤ dp then (g_250 n (dp - 1) e 0 I5_164 L5_164 i1 x1_50).bind (fun ⟨x6_170, I6_170, L6_170⟩ => (if 0 ≤ i1 ∧ (Int32.toNatClampNeg i1) < 16 then (stI (u2 I6_170 136 (Int32.toNatClampNeg i1) ((I_143 136 (Int32.toNatClampNeg i1)) + (x5_164 * x6_170))) (fun I_175 => (g_283 n dp e 3 I_175 L6_170 i1 i2 x1_50))) else none)) else none)) else none)) else none) else none) else none))) else none)))) else none))) else none)) else none) else (if 0 ≤ i1 ∧ (Int32.toNatClampNeg i1) < 16 then (if 0 ≤ i1 ∧ (Int32.toNatClampNeg i1) < 16 then (stI (u2 I2_75 137 (Int32.toNatClampNeg i1) (I2_75 137 (Int32.toNatClampNeg i1))) (fun I_113 => (if 0 ≤ i1 ∧ (Int32.toNatClampNeg i1) < 16 then (if (I_113 138 (Int32.toNatClampNeg i1)) = 0 then (stI (u2 I_113 105 60 ((I_113 105 60) + (1 : Int32))) (fun I_134 => (if 0 ≤ i1 ∧ (Int32.toNatClampNeg i1) < 16 then (stI (u2 I_134 138 (Int32.toNatClampNeg i1) (1 : Int32)) (fun I_143 => (if 0 ≤ i1 ∧ (Int32.toNatClampNeg i1) < 16 then (if 0 ≤ i2 ∧ (Int32.toNatClampNeg i2) < 8 then (if 1 ≤ dp then (g_240 n (dp - 1) e 0 I_143 L2_75 i1).bind (fun ⟨x3_161, I3_161, L3_161⟩ => (if 1 ≤ dp then (g_284 n (dp - 1) e 0 I3_161 L3_161 x1_50 (I_143 134 (Int32.toNatClampNeg i2)) x3_161 0 0 0).bind (fun ⟨x4_164, I4_164, L4_164⟩ => (if 1 ≤ dp then (g_250 n (dp - 1) e 0 I4_164 L4_164 i1 x1_50).bind (fun ⟨x5_170, I5_170, L5_170⟩ => (if 0 ≤ i1 ∧ (Int32.toNatClampNeg i1) < 16 then (stI (u2 I5_170 136 (Int32.toNatClampNeg i1) ((I_143 136 (Int32.toNatClampNeg i1)) + (x4_164 * x5_170))) (fun I_175 => (g_283 n dp e 3 I_175 L5_170 i1 i2 x1_50))) else none)) else none)) else none)) else none) else none) else none))) else none))) else (stI (u2 I_113 105 60 ((I_113 105 60) + (0 : Int32))) (fun I_134 => (if 0 ≤ i1 ∧ (Int32.toNatClampNeg i1) < 16 then (stI (u2 I_134 138 (Int32.toNatClampNeg i1) (1 : Int32)) (fun I_143 => (if 0 ≤ i1 ∧ (Int32.toNatClampNeg i1) < 16 then (if 0 ≤ i2 ∧ (Int32.toNatClampNeg i2) < 8 then (if 1 ≤ dp then (g_240 n (dp - 1) e 0 I_143 L2_75 i1).bind (fun ⟨x3_161, I3_161, L3_161⟩ => (if 1 ≤ dp then (g_284 n (dp - 1) e 0 I3_161 L3_161 x1_50 (I_143 134 (Int32.toNatClampNeg i2)) x3_161 0 0 0).bind (fun ⟨x4_164, I4_164, L4_164⟩ => (if 1 ≤ dp then (g_250 n (dp - 1) e 0 I4_164 L4_164 i1 x1_50).bind (fun ⟨x5_170, I5_170, L5_170⟩ => (if 0 ≤ i1 ∧ (Int32.toNatClampNeg i1) < 16 then (stI (u2 I5_170 136 (Int32.toNatClampNeg i1) ((I_143 136 (Int32.toNatClampNeg i1)) + (x4_164 * x5_170))) (fun I_175 => (g_283 n dp e 3 I_175 L5_170 i1 i2 x1_50))) else none)) else none)) else none)) else none) else none) else none))) else none)))) else none))) else none) else none)) else none) else (g_283 n dp e 3 I2_75 L2_75 i1 i2 x1_50)) else none)) else none) else none)) else none)))) else none)
    else if lab = 3 then (g_283 n dp e 2 I L i1 (i2 + Int32.ofInt (1)) 0)
    else if lab = 4 then (g_283 n dp e 1 I L (i1 + Int32.ofInt (1)) 0 0)
    else none
set_option maxRecDepth 100000 in
theorem e_283_0 (n dp : Nat) (e : EN) (I : (Nat → Nat → Int32)) (L : (Nat → Nat → Int64)) (i1 : Int32) (i2 : Int32) (i3 : Int32) : g_283 (n + 1) dp e 0 I L i1 i2 i3 = (stI (u2 I 105 60 (0 : Int32)) (fun I_2 => (g_283 n dp e 1 I_2 L (0 : Int32) 0 0))) := by rw [g_283.eq_2, if_pos (show (0 : Nat) = 0 from rfl)]
set_option maxRecDepth 100000 in
theorem e_283_1 (n dp : Nat) (e : EN) (I : (Nat → Nat → Int32)) (L : (Nat → Nat → Int64)) (i1 : Int32) (i2 : Int32) (i3 : Int32) : g_283 (n + 1) dp e 1 I L i1 i2 i3 = (if (16 : Int32) ≤ i1 then (some (I, L)) else (if 0 ≤ i1 ∧ (Int32.toNatClampNeg i1) < 16 then (stI (u2 I 136 (Int32.toNatClampNeg i1) (0 : Int32)) (fun I_19 => (if 0 ≤ i1 ∧ (Int32.toNatClampNeg i1) < 16 then (stI (u2 I_19 138 (Int32.toNatClampNeg i1) (0 : Int32)) (fun I_26 => (g_283 n dp e 2 I_26 L i1 (0 : Int32) 0))) else none))) else none)) := by rw [g_283.eq_2, if_neg (show ¬ ((1 : Nat) = 0) by decide), if_pos (show (1 : Nat) = 1 from rfl)]
set_option maxRecDepth 100000 in
theorem e_283_2 (n dp : Nat) (e : EN) (I : (Nat → Nat → Int32)) (L : (Nat → Nat → Int64)) (i1 : Int32) (i2 : Int32) (i3 : Int32) : g_283 (n + 1) dp e 2 I L i1 i2 i3 = (if 1 ≤ dp then (g_198 n (dp - 1) e 0 I L).bind (fun ⟨x0_31, I0_31, L0_31⟩ => (if x0_31 ≤ i2 then (g_283 n dp e 4 I0_31 L0_31 i1 i2 0) else (if (I0_31 107 9) ≤ i1 then (g_283 n dp e 4 I0_31 L0_31 i1 i2 0) else (if 1 ≤ dp then (g_280 n (dp - 1) e 0 I0_31 L0_31 i2).bind (fun ⟨x1_50, I1_50, L1_50⟩ => (if 0 ≤ i2 ∧ (Int32.toNatClampNeg i2) < 8 then (if 1 ≤ dp then (g_240 n (dp - 1) e 0 I1_50 L1_50 i1).bind (fun ⟨x2_75, I2_75, L2_75⟩ => (if 0 ≤ ((((640 : Int32) * x1_50) + ((10 : Int32) * (I1_50 134 (Int32.toNatClampNeg i2)))) + x2_75) ∧ (Int32.toNatClampNeg ((((640 : Int32) * x1_50) + ((10 : Int32) * (I1_50 134 (Int32.toNatClampNeg i2)))) + x2_75)) < 1920 then (if (I2_75 121 (Int32.toNatClampNeg ((((640 : Int32) * x1_50) + ((10 : Int32) * (I1_50 134 (Int32.toNatClampNeg i2)))) + x2_75))) = i1 then (if 0 ≤ i1 ∧ (Int32.toNatClampNeg i1) < 16 then (if (I2_75 138 (Int32.toNatClampNeg i1)) = 0 then (if 1 ≤ dp then (g_251 n (dp - 1) e 0 I2_75 L2_75 i1 x1_50).bind (fun ⟨x3_110, I3_110, L3_110⟩ => (if 0 ≤ i1 ∧ (Int32.toNatClampNeg i1) < 16 then (stI (u2 I3_110 137 (Int32.toNatClampNeg i1) x3_110) (fun I_113 => (if 0 ≤ i1 ∧ (Int32.toNatClampNeg i1) < 16 then (if (I_113 138 (Int32.toNatClampNeg i1)) = 0 then (stI (u2 I_113 105 60 ((I_113 105 60) + (1 : Int32))) (fun I_134 => (if 0 ≤ i1 ∧ (Int32.toNatClampNeg i1) < 16 then (stI (u2 I_134 138 (Int32.toNatClampNeg i1) (1 : Int32)) (fun I_143 => (if 0 ≤ i1 ∧ (Int32.toNatClampNeg i1) < 16 then (if 0 ≤ i2 ∧ (Int32.toNatClampNeg i2) < 8 then (if 1 ≤ dp then (g_240 n (dp - 1) e 0 I_143 L3_110 i1).bind (fun ⟨x4_161, I4_161, L4_161⟩ => (if 1 ≤ dp then (g_284 n (dp - 1) e 0 I4_161 L4_161 x1_50 (I_143 134 (Int32.toNatClampNeg i2)) x4_161 0 0 0).bind (fun ⟨x5_164, I5_164, L5_164⟩ => (if 1 ≤ dp then (g_250 n (dp - 1) e 0 I5_164 L5_164 i1 x1_50).bind (fun ⟨x6_170, I6_170, L6_170⟩ => (if 0 ≤ i1 ∧ (Int32.toNatClampNeg i1) < 16 then (stI (u2 I6_170 136 (Int32.toNatClampNeg i1) ((I_143 136 (Int32.toNatClampNeg i1)) + (x5_164 * x6_170))) (fun I_175 => (g_283 n dp e 3 I_175 L6_170 i1 i2 x1_50))) else none)) else none)) else none)) else none) else none) else none))) else none))) else (stI (u2 I_113 105 60 ((I_113 105 60) + (0 : Int32))) (fun I_134 => (if 0 ≤ i1 ∧ (Int32.toNatClampNeg i1) < 16 then (stI (u2 I_134 138 (Int32.toNatClampNeg i1) (1 : Int32)) (fun I_143 => (if 0 ≤ i1 ∧ (Int32.toNatClampNeg i1) < 16 then (if 0 ≤ i2 ∧ (Int32.toNatClampNeg i2) < 8 then (if 1 ≤ dp then (g_240 n (dp - 1) e 0 I_143 L3_110 i1).bind (fun ⟨x4_161, I4_161, L4_161⟩ => (if 1 ≤ dp then (g_284 n (dp - 1) e 0 I4_161 L4_161 x1_50 (I_143 134 (Int32.toNatClampNeg i2)) x4_161 0 0 0).bind (fun ⟨x5_164, I5_164, L5_164⟩ => (if 1 ≤ dp then (g_250 n (dp - 1) e 0 I5_164 L5_164 i1 x1_50).bind (fun ⟨x6_170, I6_170, L6_170⟩ => (if 0 ≤ i1 ∧ (Int32.toNatClampNeg i1) < 16 then (stI (u2 I6_170 136 (Int32.toNatClampNeg i1) ((I_143 136 (Int32.toNatClampNeg i1)) + (x5_164 * x6_170))) (fun I_175 => (g_283 n dp e 3 I_175 L6_170 i1 i2 x1_50))) else none)) else none)) else none)) else none) else none) else none))) else none)))) else none))) else none)) else none) else (if 0 ≤ i1 ∧ (Int32.toNatClampNeg i1) < 16 then (if 0 ≤ i1 ∧ (Int32.toNatClampNeg i1) < 16 then (stI (u2 I2_75 137 (Int32.toNatClampNeg i1) (I2_75 137 (Int32.toNatClampNeg i1))) (fun I_113 => (if 0 ≤ i1 ∧ (Int32.toNatClampNeg i1) < 16 then (if (I_113 138 (Int32.toNatClampNeg i1)) = 0 then (stI (u2 I_113 105 60 ((I_113 105 60) + (1 : Int32))) (fun I_134 => (if 0 ≤ i1 ∧ (Int32.toNatClampNeg i1) < 16 then (stI (u2 I_134 138 (Int32.toNatClampNeg i1) (1 : Int32)) (fun I_143 => (if 0 ≤ i1 ∧ (Int32.toNatClampNeg i1) < 16 then (if 0 ≤ i2 ∧ (Int32.toNatClampNeg i2) < 8 then (if 1 ≤ dp then (g_240 n (dp - 1) e 0 I_143 L2_75 i1).bind (fun ⟨x3_161, I3_161, L3_161⟩ => (if 1 ≤ dp then (g_284 n (dp - 1) e 0 I3_161 L3_161 x1_50 (I_143 134 (Int32.toNatClampNeg i2)) x3_161 0 0 0).bind (fun ⟨x4_164, I4_164, L4_164⟩ => (if 1 ≤ dp then (g_250 n (dp - 1) e 0 I4_164 L4_164 i1 x1_50).bind (fun ⟨x5_170, I5_170, L5_170⟩ => (if 0 ≤ i1 ∧ (Int32.toNatClampNeg i1) < 16 then (stI (u2 I5_170 136 (Int32.toNatClampNeg i1) ((I_143 136 (Int32.toNatClampNeg i1)) + (x4_164 * x5_170))) (fun I_175 => (g_283 n dp e 3 I_175 L5_170 i1 i2 x1_50))) else none)) else none)) else none)) else none) else none) else none))) else none))) else (stI (u2 I_113 105 60 ((I_113 105 60) + (0 : Int32))) (fun I_134 => (if 0 ≤ i1 ∧ (Int32.toNatClampNeg i1) < 16 then (stI (u2 I_134 138 (Int32.toNatClampNeg i1) (1 : Int32)) (fun I_143 => (if 0 ≤ i1 ∧ (Int32.toNatClampNeg i1) < 16 then (if 0 ≤ i2 ∧ (Int32.toNatClampNeg i2) < 8 then (if 1 ≤ dp then (g_240 n (dp - 1) e 0 I_143 L2_75 i1).bind (fun ⟨x3_161, I3_161, L3_161⟩ => (if 1 ≤ dp then (g_284 n (dp - 1) e 0 I3_161 L3_161 x1_50 (I_143 134 (Int32.toNatClampNeg i2)) x3_161 0 0 0).bind (fun ⟨x4_164, I4_164, L4_164⟩ => (if 1 ≤ dp then (g_250 n (dp - 1) e 0 I4_164 L4_164 i1 x1_50).bind (fun ⟨x5_170, I5_170, L5_170⟩ => (if 0 ≤ i1 ∧ (Int32.toNatClampNeg i1) < 16 then (stI (u2 I5_170 136 (Int32.toNatClampNeg i1) ((I_143 136 (Int32.toNatClampNeg i1)) + (x4_164 * x5_170))) (fun I_175 => (g_283 n dp e 3 I_175 L5_170 i1 i2 x1_50))) else none)) else none)) else none)) else none) else none) else none))) else none)))) else none))) else none) else none)) else none) else (g_283 n dp e 3 I2_75 L2_75 i1 i2 x1_50)) else none)) else none) else none)) else none)))) else none) := by rw [g_283.eq_2, if_neg (show ¬ ((2 : Nat) = 0) by decide), if_neg (show ¬ ((2 : Nat) = 1) by decide), if_pos (show (2 : Nat) = 2 from rfl)]
set_option maxRecDepth 100000 in
theorem e_283_3 (n dp : Nat) (e : EN) (I : (Nat → Nat → Int32)) (L : (Nat → Nat → Int64)) (i1 : Int32) (i2 : Int32) (i3 : Int32) : g_283 (n + 1) dp e 3 I L i1 i2 i3 = (g_283 n dp e 2 I L i1 (i2 + Int32.ofInt (1)) 0) := by rw [g_283.eq_2, if_neg (show ¬ ((3 : Nat) = 0) by decide), if_neg (show ¬ ((3 : Nat) = 1) by decide), if_neg (show ¬ ((3 : Nat) = 2) by decide), if_pos (show (3 : Nat) = 3 from rfl)]
set_option maxRecDepth 100000 in
theorem e_283_4 (n dp : Nat) (e : EN) (I : (Nat → Nat → Int32)) (L : (Nat → Nat → Int64)) (i1 : Int32) (i2 : Int32) (i3 : Int32) : g_283 (n + 1) dp e 4 I L i1 i2 i3 = (g_283 n dp e 1 I L (i1 + Int32.ofInt (1)) 0 0) := by rw [g_283.eq_2, if_neg (show ¬ ((4 : Nat) = 0) by decide), if_neg (show ¬ ((4 : Nat) = 1) by decide), if_neg (show ¬ ((4 : Nat) = 2) by decide), if_neg (show ¬ ((4 : Nat) = 3) by decide), if_pos (show (4 : Nat) = 4 from rfl)]
set_option maxHeartbeats 8000000 in
set_option maxRecDepth 100000 in
theorem w_283 (X : GX) {z : Nat} {kd : Nat → Nat × Nat} {Rf : Nat → Nat → Option Nat} (hS : Sh z kd Rf) : ∀ (n dp d : Nat), dp ≤ d → ∀ (I : (Nat → Nat → Int32)) (L : (Nat → Nat → Int64)) (i1 : Int32) (i2 : Int32) (i3 : Int32) (I1 : (Nat → Nat → Int32)) (L1 : (Nat → Nat → Int64)), (g_283 n dp (z, kd, Rf) 0 I L i1 i2 i3 = some (I1, L1) → K X d 283 0 0 (AV (fun τ => τ = (z, kd, I1, L1, Rf))) 0 [some (.ref 105), none, none, none] [] (z, kd, I, L, Rf) 0 0) ∧
    (g_283 n dp (z, kd, Rf) 1 I L i1 i2 i3 = some (I1, L1) → K X d 283 0 0 (AV (fun τ => τ = (z, kd, I1, L1, Rf))) 7 [some (.ref 105), some (.int i1), none, none] [] (z, kd, I, L, Rf) 0 0) ∧
    (g_283 n dp (z, kd, Rf) 2 I L i1 i2 i3 = some (I1, L1) → K X d 283 0 0 (AV (fun τ => τ = (z, kd, I1, L1, Rf))) 29 [some (.ref 105), some (.int i1), some (.int i2), none] [] (z, kd, I, L, Rf) 0 0) ∧
    (g_283 n dp (z, kd, Rf) 3 I L i1 i2 i3 = some (I1, L1) → K X d 283 0 0 (AV (fun τ => τ = (z, kd, I1, L1, Rf))) 176 [some (.ref 105), some (.int i1), some (.int i2), some (.int i3)] [] (z, kd, I, L, Rf) 0 0) ∧
    (g_283 n dp (z, kd, Rf) 4 I L i1 i2 i3 = some (I1, L1) → K X d 283 0 0 (AV (fun τ => τ = (z, kd, I1, L1, Rf))) 182 [some (.ref 105), some (.int i1), some (.int i2), none] [] (z, kd, I, L, Rf) 0 0) := by
  intro n
  induction n with
  | zero => intro dp d hdp I L i1 i2 i3 I1 L1; exact ⟨(fun h => by cases h), (fun h => by cases h), (fun h => by cases h), (fun h => by cases h), (fun h => by cases h)⟩
  | succ n ih =>
    intro dp d hdp I L i1 i2 i3 I1 L1
    refine ⟨?_, ?_, ?_, ?_, ?_⟩
    · intro h
      rw [e_283_0] at h
      refine K_of b_283_0 h_283_0 ?_
      refine q_aload rfl ?_
      refine q_iconst (0) (by decide) ?_
      refine q_putI (c0 := 12) (j := 60) rfl rfl (zl hS 105 (by decide)) (sk hS 105 (by decide) rfl) rfl ?_
      obtain ⟨I_2, nI_2, h⟩ := stI_some h
      refine q_nI nI_2 ?_
      refine q_iconst (0) (by decide) ?_
      refine q_istore (ls1 := [some (.ref 105), some (.int (0 : Int32)), none, none]) (Nat.le_of_ble_eq_true rfl) rfl ?_
      refine q_end ?_
      exact (ih dp d hdp _ _ (0 : Int32) 0 0 _ _).2.1 h
    · intro h
      rw [e_283_1] at h
      refine K_of b_283_7 h_283_7 ?_
      refine q_iload rfl ?_
      refine q_iconst (16) (by decide) ?_
      refine q_icmp_ge (fun c_10 => ?_) (fun c_10 => ?_)
      · rw [if_pos c_10] at h
        refine K_of b_283_188 h_283_188 ?_
        cases h
        exact q_vret rfl (Nat.le_refl _) (Nat.le_refl _) rfl
      · rw [if_neg c_10] at h
        refine q_aload rfl ?_
        refine q_getRs (c0 := 12) (j := 57) rfl rfl (zl hS 105 (by decide)) (sk hS 105 (by decide) rfl) rfl (by decide) (r_105_57 hS) ?_
        refine q_iload rfl ?_
        refine q_iconst (0) (by decide) ?_
        obtain ⟨⟨u_19, v_19⟩, h⟩ := ite_some h
        refine q_iasN (Int32.toNatClampNeg i1) (nx u_19) (zl hS 136 (by decide)) (sk hS 136 (by decide) rfl) v_19 (by decide) ?_
        obtain ⟨I_19, nI_19, h⟩ := stI_some h
        refine q_nI nI_19 ?_
        refine q_aload rfl ?_
        refine q_getRs (c0 := 12) (j := 59) rfl rfl (zl hS 105 (by decide)) (sk hS 105 (by decide) rfl) rfl (by decide) (r_105_59 hS) ?_
        refine q_iload rfl ?_
        refine q_iconst (0) (by decide) ?_
        obtain ⟨⟨u_26, v_26⟩, h⟩ := ite_some h
        refine q_zasN (Int32.toNatClampNeg i1) (nx u_26) (zl hS 138 (by decide)) (sk hS 138 (by decide) rfl) v_26 (by decide) (Or.inl rfl) ?_
        obtain ⟨I_26, nI_26, h⟩ := stI_some h
        refine q_nI nI_26 ?_
        refine q_iconst (0) (by decide) ?_
        refine q_istore (ls1 := [some (.ref 105), some (.int i1), some (.int (0 : Int32)), none]) (Nat.le_of_ble_eq_true rfl) rfl ?_
        refine q_end ?_
        exact (ih dp d hdp _ _ i1 (0 : Int32) 0 _ _).2.2.1 h
    · intro h
      rw [e_283_2] at h
      refine K_of b_283_29 h_283_29 ?_
      refine q_iload rfl ?_
      refine q_aload rfl ?_
      obtain ⟨d_31, h⟩ := ite_some h
      obtain ⟨⟨x0_31, I0_31, L0_31⟩, e_31, h⟩ := Option.bind_eq_some_iff.mp h
      dsimp only at h
      refine q_fv1I (a_198 X hS (d := d - 1) (by omega) e_31) (by omega) (Nat.le_refl _) (Nat.le_refl _) rfl (Nat.le_of_ble_eq_true rfl) ⟨(zl hS 105 (by decide)), congrArg Prod.fst (sk hS 105 (by decide) rfl), by decide⟩ ?_
      refine q_icmp_ge (fun c_34 => ?_) (fun c_34 => ?_)
      · rw [if_pos c_34] at h
        exact (ih dp d hdp _ _ i1 i2 0 _ _).2.2.2.2 h
      · rw [if_neg c_34] at h
        refine q_iload rfl ?_
        refine q_aload rfl ?_
        refine q_getRs (c0 := 12) (j := 3) rfl rfl (zl hS 105 (by decide)) (sk hS 105 (by decide) rfl) rfl (by decide) (r_105_3 hS) ?_
        refine q_iconst (9) (by decide) ?_
        refine q_ialN (9) rfl (zl hS 107 (by decide)) (sk hS 107 (by decide) rfl) (by decide) (by decide) ?_
        refine q_icmp_ge (fun c_45 => ?_) (fun c_45 => ?_)
        · rw [if_pos c_45] at h
          exact (ih dp d hdp _ _ i1 i2 0 _ _).2.2.2.2 h
        · rw [if_neg c_45] at h
          refine q_aload rfl ?_
          refine q_iload rfl ?_
          obtain ⟨d_50, h⟩ := ite_some h
          obtain ⟨⟨x1_50, I1_50, L1_50⟩, e_50, h⟩ := Option.bind_eq_some_iff.mp h
          dsimp only at h
          refine q_fv2I (a_280 X hS (d := d - 1) (by omega) e_50) (by omega) (Nat.le_refl _) (Nat.le_refl _) rfl (Nat.le_of_ble_eq_true rfl) ⟨(zl hS 105 (by decide)), congrArg Prod.fst (sk hS 105 (by decide) rfl), by decide⟩ ?_
          refine q_istore (ls1 := [some (.ref 105), some (.int i1), some (.int i2), some (.int x1_50)]) (Nat.le_of_ble_eq_true rfl) rfl ?_
          refine q_aload rfl ?_
          refine q_getRs (c0 := 12) (j := 34) rfl rfl (zl hS 105 (by decide)) (sk hS 105 (by decide) rfl) rfl (by decide) (r_105_34 hS) ?_
          refine q_iconst (640) (by decide) ?_
          refine q_iload rfl ?_
          refine q_imul ?_
          refine q_iconst (10) (by decide) ?_
          refine q_aload rfl ?_
          refine q_getRs (c0 := 12) (j := 55) rfl rfl (zl hS 105 (by decide)) (sk hS 105 (by decide) rfl) rfl (by decide) (r_105_55 hS) ?_
          refine q_iload rfl ?_
          obtain ⟨⟨u_70, v_70⟩, h⟩ := ite_some h
          refine q_ialN (Int32.toNatClampNeg i2) (nx u_70) (zl hS 134 (by decide)) (sk hS 134 (by decide) rfl) v_70 (by decide) ?_
          refine q_imul ?_
          refine q_iadd ?_
          refine q_aload rfl ?_
          refine q_iload rfl ?_
          obtain ⟨d_75, h⟩ := ite_some h
          obtain ⟨⟨x2_75, I2_75, L2_75⟩, e_75, h⟩ := Option.bind_eq_some_iff.mp h
          dsimp only at h
          refine q_fv2I (a_240 X hS (d := d - 1) (by omega) e_75) (by omega) (Nat.le_refl _) (Nat.le_refl _) rfl (Nat.le_of_ble_eq_true rfl) ⟨(zl hS 105 (by decide)), congrArg Prod.fst (sk hS 105 (by decide) rfl), by decide⟩ ?_
          refine q_iadd ?_
          obtain ⟨⟨u_79, v_79⟩, h⟩ := ite_some h
          refine q_ialN (Int32.toNatClampNeg ((((640 : Int32) * x1_50) + ((10 : Int32) * (I1_50 134 (Int32.toNatClampNeg i2)))) + x2_75)) (nx u_79) (zl hS 121 (by decide)) (sk hS 121 (by decide) rfl) v_79 (by decide) ?_
          refine q_iload rfl ?_
          refine q_icmp_ne (fun c_81 => ?_) (fun c_81 => ?_)
          · rw [if_neg c_81] at h
            exact (ih dp d hdp _ _ i1 i2 x1_50 _ _).2.2.2.1 h
          · rw [if_pos c_81] at h
            refine q_aload rfl ?_
            refine q_getRs (c0 := 12) (j := 58) rfl rfl (zl hS 105 (by decide)) (sk hS 105 (by decide) rfl) rfl (by decide) (r_105_58 hS) ?_
            refine q_iload rfl ?_
            refine q_aload rfl ?_
            refine q_getRs (c0 := 12) (j := 59) rfl rfl (zl hS 105 (by decide)) (sk hS 105 (by decide) rfl) rfl (by decide) (r_105_59 hS) ?_
            refine q_iload rfl ?_
            obtain ⟨⟨u_94, v_94⟩, h⟩ := ite_some h
            refine q_zalN (Int32.toNatClampNeg i1) (nx u_94) (zl hS 138 (by decide)) (sk hS 138 (by decide) rfl) v_94 (by decide) ?_
            refine q_if_eq (fun c_95 => ?_) (fun c_95 => ?_)
            · rw [if_pos c_95] at h
              refine K_of b_283_107 h_283_107 ?_
              refine q_aload rfl ?_
              refine q_iload rfl ?_
              refine q_iload rfl ?_
              obtain ⟨d_110, h⟩ := ite_some h
              obtain ⟨⟨x3_110, I3_110, L3_110⟩, e_110, h⟩ := Option.bind_eq_some_iff.mp h
              dsimp only at h
              refine q_fv3I (a_251 X hS (d := d - 1) (by omega) e_110) (by omega) (Nat.le_refl _) (Nat.le_refl _) rfl (Nat.le_of_ble_eq_true rfl) ⟨(zl hS 105 (by decide)), congrArg Prod.fst (sk hS 105 (by decide) rfl), by decide⟩ ?_
              refine q_end ?_
              refine K_of b_283_113 h_283_113 ?_
              obtain ⟨⟨u_113, v_113⟩, h⟩ := ite_some h
              refine q_iasN (Int32.toNatClampNeg i1) (nx u_113) (zl hS 137 (by decide)) (sk hS 137 (by decide) rfl) v_113 (by decide) ?_
              obtain ⟨I_113, nI_113, h⟩ := stI_some h
              refine q_nI nI_113 ?_
              refine q_aload rfl ?_
              refine q_dup rfl ?_
              refine q_getI (c0 := 12) (j := 60) rfl rfl (zl hS 105 (by decide)) (sk hS 105 (by decide) rfl) (Or.inl rfl) (by decide) ?_
              refine q_aload rfl ?_
              refine q_getRs (c0 := 12) (j := 59) rfl rfl (zl hS 105 (by decide)) (sk hS 105 (by decide) rfl) rfl (by decide) (r_105_59 hS) ?_
              refine q_iload rfl ?_
              obtain ⟨⟨u_124, v_124⟩, h⟩ := ite_some h
              refine q_zalN (Int32.toNatClampNeg i1) (nx u_124) (zl hS 138 (by decide)) (sk hS 138 (by decide) rfl) v_124 (by decide) ?_
              refine q_if_eq (fun c_125 => ?_) (fun c_125 => ?_)
              · rw [if_pos c_125] at h
                refine K_of b_283_132 h_283_132 ?_
                refine q_iconst (1) (by decide) ?_
                refine q_end ?_
                refine K_of b_283_133 h_283_133 ?_
                refine q_iadd ?_
                refine q_putI (c0 := 12) (j := 60) rfl rfl (zl hS 105 (by decide)) (sk hS 105 (by decide) rfl) rfl ?_
                obtain ⟨I_134, nI_134, h⟩ := stI_some h
                refine q_nI nI_134 ?_
                refine q_aload rfl ?_
                refine q_getRs (c0 := 12) (j := 59) rfl rfl (zl hS 105 (by decide)) (sk hS 105 (by decide) rfl) rfl (by decide) (r_105_59 hS) ?_
                refine q_iload rfl ?_
                refine q_iconst (1) (by decide) ?_
                obtain ⟨⟨u_143, v_143⟩, h⟩ := ite_some h
                refine q_zasN (Int32.toNatClampNeg i1) (nx u_143) (zl hS 138 (by decide)) (sk hS 138 (by decide) rfl) v_143 (by decide) (Or.inr rfl) ?_
                obtain ⟨I_143, nI_143, h⟩ := stI_some h
                refine q_nI nI_143 ?_
                refine q_aload rfl ?_
                refine q_getRs (c0 := 12) (j := 57) rfl rfl (zl hS 105 (by decide)) (sk hS 105 (by decide) rfl) rfl (by decide) (r_105_57 hS) ?_
                refine q_iload rfl ?_
                refine q_dup2 rfl rfl ?_
                obtain ⟨⟨u_150, v_150⟩, h⟩ := ite_some h
                refine q_ialN (Int32.toNatClampNeg i1) (nx u_150) (zl hS 136 (by decide)) (sk hS 136 (by decide) rfl) v_150 (by decide) ?_
                refine q_aload rfl ?_
                refine q_iload rfl ?_
                refine q_aload rfl ?_
                refine q_getRs (c0 := 12) (j := 55) rfl rfl (zl hS 105 (by decide)) (sk hS 105 (by decide) rfl) rfl (by decide) (r_105_55 hS) ?_
                refine q_iload rfl ?_
                obtain ⟨⟨u_158, v_158⟩, h⟩ := ite_some h
                refine q_ialN (Int32.toNatClampNeg i2) (nx u_158) (zl hS 134 (by decide)) (sk hS 134 (by decide) rfl) v_158 (by decide) ?_
                refine q_aload rfl ?_
                refine q_iload rfl ?_
                obtain ⟨d_161, h⟩ := ite_some h
                obtain ⟨⟨x4_161, I4_161, L4_161⟩, e_161, h⟩ := Option.bind_eq_some_iff.mp h
                dsimp only at h
                refine q_fv2I (a_240 X hS (d := d - 1) (by omega) e_161) (by omega) (Nat.le_refl _) (Nat.le_refl _) rfl (Nat.le_of_ble_eq_true rfl) ⟨(zl hS 105 (by decide)), congrArg Prod.fst (sk hS 105 (by decide) rfl), by decide⟩ ?_
                obtain ⟨d_164, h⟩ := ite_some h
                obtain ⟨⟨x5_164, I5_164, L5_164⟩, e_164, h⟩ := Option.bind_eq_some_iff.mp h
                dsimp only at h
                refine q_fv4I (a_284 X hS (d := d - 1) (by omega) e_164) (by omega) (Nat.le_refl _) (Nat.le_refl _) rfl (Nat.le_of_ble_eq_true rfl) ⟨(zl hS 105 (by decide)), congrArg Prod.fst (sk hS 105 (by decide) rfl), by decide⟩ ?_
                refine q_aload rfl ?_
                refine q_iload rfl ?_
                refine q_iload rfl ?_
                obtain ⟨d_170, h⟩ := ite_some h
                obtain ⟨⟨x6_170, I6_170, L6_170⟩, e_170, h⟩ := Option.bind_eq_some_iff.mp h
                dsimp only at h
                refine q_fv3I (a_250 X hS (d := d - 1) (by omega) e_170) (by omega) (Nat.le_refl _) (Nat.le_refl _) rfl (Nat.le_of_ble_eq_true rfl) ⟨(zl hS 105 (by decide)), congrArg Prod.fst (sk hS 105 (by decide) rfl), by decide⟩ ?_
                refine q_imul ?_
                refine q_iadd ?_
                obtain ⟨⟨u_175, v_175⟩, h⟩ := ite_some h
                refine q_iasN (Int32.toNatClampNeg i1) (nx u_175) (zl hS 136 (by decide)) (sk hS 136 (by decide) rfl) v_175 (by decide) ?_
                obtain ⟨I_175, nI_175, h⟩ := stI_some h
                refine q_nI nI_175 ?_
                refine q_end ?_
                exact (ih dp d hdp _ _ i1 i2 x1_50 _ _).2.2.2.1 h
              · rw [if_neg c_125] at h
                refine q_iconst (0) (by decide) ?_
                refine q_goto ?_
                refine K_of b_283_133 h_283_133 ?_
                refine q_iadd ?_
                refine q_putI (c0 := 12) (j := 60) rfl rfl (zl hS 105 (by decide)) (sk hS 105 (by decide) rfl) rfl ?_
                obtain ⟨I_134, nI_134, h⟩ := stI_some h
                refine q_nI nI_134 ?_
                refine q_aload rfl ?_
                refine q_getRs (c0 := 12) (j := 59) rfl rfl (zl hS 105 (by decide)) (sk hS 105 (by decide) rfl) rfl (by decide) (r_105_59 hS) ?_
                refine q_iload rfl ?_
                refine q_iconst (1) (by decide) ?_
                obtain ⟨⟨u_143, v_143⟩, h⟩ := ite_some h
                refine q_zasN (Int32.toNatClampNeg i1) (nx u_143) (zl hS 138 (by decide)) (sk hS 138 (by decide) rfl) v_143 (by decide) (Or.inr rfl) ?_
                obtain ⟨I_143, nI_143, h⟩ := stI_some h
                refine q_nI nI_143 ?_
                refine q_aload rfl ?_
                refine q_getRs (c0 := 12) (j := 57) rfl rfl (zl hS 105 (by decide)) (sk hS 105 (by decide) rfl) rfl (by decide) (r_105_57 hS) ?_
                refine q_iload rfl ?_
                refine q_dup2 rfl rfl ?_
                obtain ⟨⟨u_150, v_150⟩, h⟩ := ite_some h
                refine q_ialN (Int32.toNatClampNeg i1) (nx u_150) (zl hS 136 (by decide)) (sk hS 136 (by decide) rfl) v_150 (by decide) ?_
                refine q_aload rfl ?_
                refine q_iload rfl ?_
                refine q_aload rfl ?_
                refine q_getRs (c0 := 12) (j := 55) rfl rfl (zl hS 105 (by decide)) (sk hS 105 (by decide) rfl) rfl (by decide) (r_105_55 hS) ?_
                refine q_iload rfl ?_
                obtain ⟨⟨u_158, v_158⟩, h⟩ := ite_some h
                refine q_ialN (Int32.toNatClampNeg i2) (nx u_158) (zl hS 134 (by decide)) (sk hS 134 (by decide) rfl) v_158 (by decide) ?_
                refine q_aload rfl ?_
                refine q_iload rfl ?_
                obtain ⟨d_161, h⟩ := ite_some h
                obtain ⟨⟨x4_161, I4_161, L4_161⟩, e_161, h⟩ := Option.bind_eq_some_iff.mp h
                dsimp only at h
                refine q_fv2I (a_240 X hS (d := d - 1) (by omega) e_161) (by omega) (Nat.le_refl _) (Nat.le_refl _) rfl (Nat.le_of_ble_eq_true rfl) ⟨(zl hS 105 (by decide)), congrArg Prod.fst (sk hS 105 (by decide) rfl), by decide⟩ ?_
                obtain ⟨d_164, h⟩ := ite_some h
                obtain ⟨⟨x5_164, I5_164, L5_164⟩, e_164, h⟩ := Option.bind_eq_some_iff.mp h
                dsimp only at h
                refine q_fv4I (a_284 X hS (d := d - 1) (by omega) e_164) (by omega) (Nat.le_refl _) (Nat.le_refl _) rfl (Nat.le_of_ble_eq_true rfl) ⟨(zl hS 105 (by decide)), congrArg Prod.fst (sk hS 105 (by decide) rfl), by decide⟩ ?_
                refine q_aload rfl ?_
                refine q_iload rfl ?_
                refine q_iload rfl ?_
                obtain ⟨d_170, h⟩ := ite_some h
                obtain ⟨⟨x6_170, I6_170, L6_170⟩, e_170, h⟩ := Option.bind_eq_some_iff.mp h
                dsimp only at h
                refine q_fv3I (a_250 X hS (d := d - 1) (by omega) e_170) (by omega) (Nat.le_refl _) (Nat.le_refl _) rfl (Nat.le_of_ble_eq_true rfl) ⟨(zl hS 105 (by decide)), congrArg Prod.fst (sk hS 105 (by decide) rfl), by decide⟩ ?_
                refine q_imul ?_
                refine q_iadd ?_
                obtain ⟨⟨u_175, v_175⟩, h⟩ := ite_some h
                refine q_iasN (Int32.toNatClampNeg i1) (nx u_175) (zl hS 136 (by decide)) (sk hS 136 (by decide) rfl) v_175 (by decide) ?_
                obtain ⟨I_175, nI_175, h⟩ := stI_some h
                refine q_nI nI_175 ?_
                refine q_end ?_
                exact (ih dp d hdp _ _ i1 i2 x1_50 _ _).2.2.2.1 h
            · rw [if_neg c_95] at h
              refine q_aload rfl ?_
              refine q_getRs (c0 := 12) (j := 58) rfl rfl (zl hS 105 (by decide)) (sk hS 105 (by decide) rfl) rfl (by decide) (r_105_58 hS) ?_
              refine q_iload rfl ?_
              obtain ⟨⟨u_103, v_103⟩, h⟩ := ite_some h
              refine q_ialN (Int32.toNatClampNeg i1) (nx u_103) (zl hS 137 (by decide)) (sk hS 137 (by decide) rfl) v_103 (by decide) ?_
              refine q_goto ?_
              refine K_of b_283_113 h_283_113 ?_
              obtain ⟨⟨u_113, v_113⟩, h⟩ := ite_some h
              refine q_iasN (Int32.toNatClampNeg i1) (nx u_113) (zl hS 137 (by decide)) (sk hS 137 (by decide) rfl) v_113 (by decide) ?_
              obtain ⟨I_113, nI_113, h⟩ := stI_some h
              refine q_nI nI_113 ?_
              refine q_aload rfl ?_
              refine q_dup rfl ?_
              refine q_getI (c0 := 12) (j := 60) rfl rfl (zl hS 105 (by decide)) (sk hS 105 (by decide) rfl) (Or.inl rfl) (by decide) ?_
              refine q_aload rfl ?_
              refine q_getRs (c0 := 12) (j := 59) rfl rfl (zl hS 105 (by decide)) (sk hS 105 (by decide) rfl) rfl (by decide) (r_105_59 hS) ?_
              refine q_iload rfl ?_
              obtain ⟨⟨u_124, v_124⟩, h⟩ := ite_some h
              refine q_zalN (Int32.toNatClampNeg i1) (nx u_124) (zl hS 138 (by decide)) (sk hS 138 (by decide) rfl) v_124 (by decide) ?_
              refine q_if_eq (fun c_125 => ?_) (fun c_125 => ?_)
              · rw [if_pos c_125] at h
                refine K_of b_283_132 h_283_132 ?_
                refine q_iconst (1) (by decide) ?_
                refine q_end ?_
                refine K_of b_283_133 h_283_133 ?_
                refine q_iadd ?_
                refine q_putI (c0 := 12) (j := 60) rfl rfl (zl hS 105 (by decide)) (sk hS 105 (by decide) rfl) rfl ?_
                obtain ⟨I_134, nI_134, h⟩ := stI_some h
                refine q_nI nI_134 ?_
                refine q_aload rfl ?_
                refine q_getRs (c0 := 12) (j := 59) rfl rfl (zl hS 105 (by decide)) (sk hS 105 (by decide) rfl) rfl (by decide) (r_105_59 hS) ?_
                refine q_iload rfl ?_
                refine q_iconst (1) (by decide) ?_
                obtain ⟨⟨u_143, v_143⟩, h⟩ := ite_some h
                refine q_zasN (Int32.toNatClampNeg i1) (nx u_143) (zl hS 138 (by decide)) (sk hS 138 (by decide) rfl) v_143 (by decide) (Or.inr rfl) ?_
                obtain ⟨I_143, nI_143, h⟩ := stI_some h
                refine q_nI nI_143 ?_
                refine q_aload rfl ?_
                refine q_getRs (c0 := 12) (j := 57) rfl rfl (zl hS 105 (by decide)) (sk hS 105 (by decide) rfl) rfl (by decide) (r_105_57 hS) ?_
                refine q_iload rfl ?_
                refine q_dup2 rfl rfl ?_
                obtain ⟨⟨u_150, v_150⟩, h⟩ := ite_some h
                refine q_ialN (Int32.toNatClampNeg i1) (nx u_150) (zl hS 136 (by decide)) (sk hS 136 (by decide) rfl) v_150 (by decide) ?_
                refine q_aload rfl ?_
                refine q_iload rfl ?_
                refine q_aload rfl ?_
                refine q_getRs (c0 := 12) (j := 55) rfl rfl (zl hS 105 (by decide)) (sk hS 105 (by decide) rfl) rfl (by decide) (r_105_55 hS) ?_
                refine q_iload rfl ?_
                obtain ⟨⟨u_158, v_158⟩, h⟩ := ite_some h
                refine q_ialN (Int32.toNatClampNeg i2) (nx u_158) (zl hS 134 (by decide)) (sk hS 134 (by decide) rfl) v_158 (by decide) ?_
                refine q_aload rfl ?_
                refine q_iload rfl ?_
                obtain ⟨d_161, h⟩ := ite_some h
                obtain ⟨⟨x3_161, I3_161, L3_161⟩, e_161, h⟩ := Option.bind_eq_some_iff.mp h
                dsimp only at h
                refine q_fv2I (a_240 X hS (d := d - 1) (by omega) e_161) (by omega) (Nat.le_refl _) (Nat.le_refl _) rfl (Nat.le_of_ble_eq_true rfl) ⟨(zl hS 105 (by decide)), congrArg Prod.fst (sk hS 105 (by decide) rfl), by decide⟩ ?_
                obtain ⟨d_164, h⟩ := ite_some h
                obtain ⟨⟨x4_164, I4_164, L4_164⟩, e_164, h⟩ := Option.bind_eq_some_iff.mp h
                dsimp only at h
                refine q_fv4I (a_284 X hS (d := d - 1) (by omega) e_164) (by omega) (Nat.le_refl _) (Nat.le_refl _) rfl (Nat.le_of_ble_eq_true rfl) ⟨(zl hS 105 (by decide)), congrArg Prod.fst (sk hS 105 (by decide) rfl), by decide⟩ ?_
                refine q_aload rfl ?_
                refine q_iload rfl ?_
                refine q_iload rfl ?_
                obtain ⟨d_170, h⟩ := ite_some h
                obtain ⟨⟨x5_170, I5_170, L5_170⟩, e_170, h⟩ := Option.bind_eq_some_iff.mp h
                dsimp only at h
                refine q_fv3I (a_250 X hS (d := d - 1) (by omega) e_170) (by omega) (Nat.le_refl _) (Nat.le_refl _) rfl (Nat.le_of_ble_eq_true rfl) ⟨(zl hS 105 (by decide)), congrArg Prod.fst (sk hS 105 (by decide) rfl), by decide⟩ ?_
                refine q_imul ?_
                refine q_iadd ?_
                obtain ⟨⟨u_175, v_175⟩, h⟩ := ite_some h
                refine q_iasN (Int32.toNatClampNeg i1) (nx u_175) (zl hS 136 (by decide)) (sk hS 136 (by decide) rfl) v_175 (by decide) ?_
                obtain ⟨I_175, nI_175, h⟩ := stI_some h
                refine q_nI nI_175 ?_
                refine q_end ?_
                exact (ih dp d hdp _ _ i1 i2 x1_50 _ _).2.2.2.1 h
              · rw [if_neg c_125] at h
                refine q_iconst (0) (by decide) ?_
                refine q_goto ?_
                refine K_of b_283_133 h_283_133 ?_
                refine q_iadd ?_
                refine q_putI (c0 := 12) (j := 60) rfl rfl (zl hS 105 (by decide)) (sk hS 105 (by decide) rfl) rfl ?_
                obtain ⟨I_134, nI_134, h⟩ := stI_some h
                refine q_nI nI_134 ?_
                refine q_aload rfl ?_
                refine q_getRs (c0 := 12) (j := 59) rfl rfl (zl hS 105 (by decide)) (sk hS 105 (by decide) rfl) rfl (by decide) (r_105_59 hS) ?_
                refine q_iload rfl ?_
                refine q_iconst (1) (by decide) ?_
                obtain ⟨⟨u_143, v_143⟩, h⟩ := ite_some h
                refine q_zasN (Int32.toNatClampNeg i1) (nx u_143) (zl hS 138 (by decide)) (sk hS 138 (by decide) rfl) v_143 (by decide) (Or.inr rfl) ?_
                obtain ⟨I_143, nI_143, h⟩ := stI_some h
                refine q_nI nI_143 ?_
                refine q_aload rfl ?_
                refine q_getRs (c0 := 12) (j := 57) rfl rfl (zl hS 105 (by decide)) (sk hS 105 (by decide) rfl) rfl (by decide) (r_105_57 hS) ?_
                refine q_iload rfl ?_
                refine q_dup2 rfl rfl ?_
                obtain ⟨⟨u_150, v_150⟩, h⟩ := ite_some h
                refine q_ialN (Int32.toNatClampNeg i1) (nx u_150) (zl hS 136 (by decide)) (sk hS 136 (by decide) rfl) v_150 (by decide) ?_
                refine q_aload rfl ?_
                refine q_iload rfl ?_
                refine q_aload rfl ?_
                refine q_getRs (c0 := 12) (j := 55) rfl rfl (zl hS 105 (by decide)) (sk hS 105 (by decide) rfl) rfl (by decide) (r_105_55 hS) ?_
                refine q_iload rfl ?_
                obtain ⟨⟨u_158, v_158⟩, h⟩ := ite_some h
                refine q_ialN (Int32.toNatClampNeg i2) (nx u_158) (zl hS 134 (by decide)) (sk hS 134 (by decide) rfl) v_158 (by decide) ?_
                refine q_aload rfl ?_
                refine q_iload rfl ?_
                obtain ⟨d_161, h⟩ := ite_some h
                obtain ⟨⟨x3_161, I3_161, L3_161⟩, e_161, h⟩ := Option.bind_eq_some_iff.mp h
                dsimp only at h
                refine q_fv2I (a_240 X hS (d := d - 1) (by omega) e_161) (by omega) (Nat.le_refl _) (Nat.le_refl _) rfl (Nat.le_of_ble_eq_true rfl) ⟨(zl hS 105 (by decide)), congrArg Prod.fst (sk hS 105 (by decide) rfl), by decide⟩ ?_
                obtain ⟨d_164, h⟩ := ite_some h
                obtain ⟨⟨x4_164, I4_164, L4_164⟩, e_164, h⟩ := Option.bind_eq_some_iff.mp h
                dsimp only at h
                refine q_fv4I (a_284 X hS (d := d - 1) (by omega) e_164) (by omega) (Nat.le_refl _) (Nat.le_refl _) rfl (Nat.le_of_ble_eq_true rfl) ⟨(zl hS 105 (by decide)), congrArg Prod.fst (sk hS 105 (by decide) rfl), by decide⟩ ?_
                refine q_aload rfl ?_
                refine q_iload rfl ?_
                refine q_iload rfl ?_
                obtain ⟨d_170, h⟩ := ite_some h
                obtain ⟨⟨x5_170, I5_170, L5_170⟩, e_170, h⟩ := Option.bind_eq_some_iff.mp h
                dsimp only at h
                refine q_fv3I (a_250 X hS (d := d - 1) (by omega) e_170) (by omega) (Nat.le_refl _) (Nat.le_refl _) rfl (Nat.le_of_ble_eq_true rfl) ⟨(zl hS 105 (by decide)), congrArg Prod.fst (sk hS 105 (by decide) rfl), by decide⟩ ?_
                refine q_imul ?_
                refine q_iadd ?_
                obtain ⟨⟨u_175, v_175⟩, h⟩ := ite_some h
                refine q_iasN (Int32.toNatClampNeg i1) (nx u_175) (zl hS 136 (by decide)) (sk hS 136 (by decide) rfl) v_175 (by decide) ?_
                obtain ⟨I_175, nI_175, h⟩ := stI_some h
                refine q_nI nI_175 ?_
                refine q_end ?_
                exact (ih dp d hdp _ _ i1 i2 x1_50 _ _).2.2.2.1 h
    · intro h
      rw [e_283_3] at h
      refine K_of b_283_176 h_283_176 ?_
      refine q_iinc (ls1 := [some (.ref 105), some (.int i1), some (.int (i2 + Int32.ofInt (1))), some (.int i3)]) rfl rfl ?_
      refine q_goto ?_
      refine K_mask [true, true, true, false] (Nat.le_of_ble_eq_true rfl) ?_
      exact (ih dp d hdp _ _ i1 (i2 + Int32.ofInt (1)) 0 _ _).2.2.1 h
    · intro h
      rw [e_283_4] at h
      refine K_of b_283_182 h_283_182 ?_
      refine q_iinc (ls1 := [some (.ref 105), some (.int (i1 + Int32.ofInt (1))), some (.int i2), none]) rfl rfl ?_
      refine q_goto ?_
      refine K_mask [true, true, false, false] (Nat.le_of_ble_eq_true rfl) ?_
      exact (ih dp d hdp _ _ (i1 + Int32.ofInt (1)) 0 0 _ _).2.1 h
theorem a_283 (X : GX) {z : Nat} {kd : Nat → Nat × Nat} {Rf : Nat → Nat → Option Nat} (hS : Sh z kd Rf) {n dp d : Nat} (hd : dp ≤ d) {I : (Nat → Nat → Int32)} {L : (Nat → Nat → Int64)} {I1 : (Nat → Nat → Int32)} {L1 : (Nat → Nat → Int64)} (h : g_283 n dp (z, kd, Rf) 0 I L 0 0 0 = some (I1, L1)) : Ct X d 283 0 0 [.ref 105] (z, kd, I, L, Rf) (AV (fun τ => τ = (z, kd, I1, L1, Rf))) :=
  Ct_of mu_283 (Nat.le_of_ble_eq_true rfl) ((w_283 X hS n dp d hd I L 0 0 0 _ _).1 h)

/-! 282 CutFloorModel.task(I)I -/
set_option maxHeartbeats 4000000 in
set_option maxRecDepth 100000 in
def g_282 : Nat → Nat → EN → Nat → (Nat → Nat → Int32) → (Nat → Nat → Int64) → Int32 → Int32 → Int32 →  Option (Int32 × (Nat → Nat → Int32) × (Nat → Nat → Int64))
  | 0, _, _, _, _, _, _, _, _ => none
  | n + 1, dp, e, lab, I, L, i1, i2, i3 =>
    if lab = 0 then (stI (u2 I 105 0 (0 : Int32)) (fun I_2 => (if i1 = (-1 : Int32) then (g_282 n dp e 1 I_2 L i1 0 0) else (if 1 ≤ dp then (g_239 n (dp - 1) e 0 I_2 L i1).bind (fun ⟨x0_12, I0_12, L0_12⟩ => (if x0_12 = 0 then (some ((-1 : Int32), I0_12, L0_12)) else (g_282 n dp e 1 I0_12 L0_12 i1 0 0))) else none))))
    else if lab = 1 then (if 1 ≤ dp then (g_261 n (dp - 1) e 0 I L 0 0 0 0).bind (fun ⟨x0_19, I0_19, L0_19⟩ => (if x0_19 = 0 then (some ((-1 : Int32), I0_19, L0_19)) else (if 1 ≤ dp then (g_283 n (dp - 1) e 0 I0_19 L0_19 0 0 0).bind (fun ⟨I1_28, L1_28⟩ => (g_282 n dp e 2 I1_28 L1_28 i1 (0 : Int32) (0 : Int32))) else none))) else none)
    else if lab = 2 then (if (16 : Int32) ≤ i3 then (if i1 = (-1 : Int32) then (some (i2, I, L)) else (if 0 ≤ i1 ∧ (Int32.toNatClampNeg i1) < 16 then (some ((I 136 (Int32.toNatClampNeg i1)), I, L)) else none)) else (if 0 ≤ i3 ∧ (Int32.toNatClampNeg i3) < 16 then (stI (i2 + (I 136 (Int32.toNatClampNeg i3))) (fun v_49 => (g_282 n dp e 2 I L i1 v_49 (i3 + Int32.ofInt (1))))) else none))
    else none
set_option maxRecDepth 100000 in
theorem e_282_0 (n dp : Nat) (e : EN) (I : (Nat → Nat → Int32)) (L : (Nat → Nat → Int64)) (i1 : Int32) (i2 : Int32) (i3 : Int32) : g_282 (n + 1) dp e 0 I L i1 i2 i3 = (stI (u2 I 105 0 (0 : Int32)) (fun I_2 => (if i1 = (-1 : Int32) then (g_282 n dp e 1 I_2 L i1 0 0) else (if 1 ≤ dp then (g_239 n (dp - 1) e 0 I_2 L i1).bind (fun ⟨x0_12, I0_12, L0_12⟩ => (if x0_12 = 0 then (some ((-1 : Int32), I0_12, L0_12)) else (g_282 n dp e 1 I0_12 L0_12 i1 0 0))) else none)))) := by rw [g_282.eq_2, if_pos (show (0 : Nat) = 0 from rfl)]
set_option maxRecDepth 100000 in
theorem e_282_1 (n dp : Nat) (e : EN) (I : (Nat → Nat → Int32)) (L : (Nat → Nat → Int64)) (i1 : Int32) (i2 : Int32) (i3 : Int32) : g_282 (n + 1) dp e 1 I L i1 i2 i3 = (if 1 ≤ dp then (g_261 n (dp - 1) e 0 I L 0 0 0 0).bind (fun ⟨x0_19, I0_19, L0_19⟩ => (if x0_19 = 0 then (some ((-1 : Int32), I0_19, L0_19)) else (if 1 ≤ dp then (g_283 n (dp - 1) e 0 I0_19 L0_19 0 0 0).bind (fun ⟨I1_28, L1_28⟩ => (g_282 n dp e 2 I1_28 L1_28 i1 (0 : Int32) (0 : Int32))) else none))) else none) := by rw [g_282.eq_2, if_neg (show ¬ ((1 : Nat) = 0) by decide), if_pos (show (1 : Nat) = 1 from rfl)]
set_option maxRecDepth 100000 in
theorem e_282_2 (n dp : Nat) (e : EN) (I : (Nat → Nat → Int32)) (L : (Nat → Nat → Int64)) (i1 : Int32) (i2 : Int32) (i3 : Int32) : g_282 (n + 1) dp e 2 I L i1 i2 i3 = (if (16 : Int32) ≤ i3 then (if i1 = (-1 : Int32) then (some (i2, I, L)) else (if 0 ≤ i1 ∧ (Int32.toNatClampNeg i1) < 16 then (some ((I 136 (Int32.toNatClampNeg i1)), I, L)) else none)) else (if 0 ≤ i3 ∧ (Int32.toNatClampNeg i3) < 16 then (stI (i2 + (I 136 (Int32.toNatClampNeg i3))) (fun v_49 => (g_282 n dp e 2 I L i1 v_49 (i3 + Int32.ofInt (1))))) else none)) := by rw [g_282.eq_2, if_neg (show ¬ ((2 : Nat) = 0) by decide), if_neg (show ¬ ((2 : Nat) = 1) by decide), if_pos (show (2 : Nat) = 2 from rfl)]
set_option maxHeartbeats 8000000 in
set_option maxRecDepth 100000 in
theorem w_282 (X : GX) {z : Nat} {kd : Nat → Nat × Nat} {Rf : Nat → Nat → Option Nat} (hS : Sh z kd Rf) : ∀ (n dp d : Nat), dp ≤ d → ∀ (I : (Nat → Nat → Int32)) (L : (Nat → Nat → Int64)) (i1 : Int32) (i2 : Int32) (i3 : Int32) (r : Int32) (I1 : (Nat → Nat → Int32)) (L1 : (Nat → Nat → Int64)), (g_282 n dp (z, kd, Rf) 0 I L i1 i2 i3 = some (r, I1, L1) → K X d 282 0 0 (AI (fun x τ => x = r ∧ τ = (z, kd, I1, L1, Rf))) 0 [some (.ref 105), some (.int i1), none, none] [] (z, kd, I, L, Rf) 0 0) ∧
    (g_282 n dp (z, kd, Rf) 1 I L i1 i2 i3 = some (r, I1, L1) → K X d 282 0 0 (AI (fun x τ => x = r ∧ τ = (z, kd, I1, L1, Rf))) 18 [some (.ref 105), some (.int i1), none, none] [] (z, kd, I, L, Rf) 0 0) ∧
    (g_282 n dp (z, kd, Rf) 2 I L i1 i2 i3 = some (r, I1, L1) → K X d 282 0 0 (AI (fun x τ => x = r ∧ τ = (z, kd, I1, L1, Rf))) 35 [some (.ref 105), some (.int i1), some (.int i2), some (.int i3)] [] (z, kd, I, L, Rf) 0 0) := by
  intro n
  induction n with
  | zero => intro dp d hdp I L i1 i2 i3 r I1 L1; exact ⟨(fun h => by cases h), (fun h => by cases h), (fun h => by cases h)⟩
  | succ n ih =>
    intro dp d hdp I L i1 i2 i3 r I1 L1
    refine ⟨?_, ?_, ?_⟩
    · intro h
      rw [e_282_0] at h
      refine K_of b_282_0 h_282_0 ?_
      refine q_aload rfl ?_
      refine q_iconst (0) (by decide) ?_
      refine q_putI (c0 := 12) (j := 0) rfl rfl (zl hS 105 (by decide)) (sk hS 105 (by decide) rfl) rfl ?_
      obtain ⟨I_2, nI_2, h⟩ := stI_some h
      refine q_nI nI_2 ?_
      refine q_iload rfl ?_
      refine q_iconst (-1) (by decide) ?_
      refine q_icmp_eq (fun c_7 => ?_) (fun c_7 => ?_)
      · rw [if_pos c_7] at h
        exact (ih dp d hdp _ _ i1 0 0 _ _ _).2.1 h
      · rw [if_neg c_7] at h
        refine q_aload rfl ?_
        refine q_iload rfl ?_
        obtain ⟨d_12, h⟩ := ite_some h
        obtain ⟨⟨x0_12, I0_12, L0_12⟩, e_12, h⟩ := Option.bind_eq_some_iff.mp h
        dsimp only at h
        refine q_fv2I (a_239 X hS (d := d - 1) (by omega) e_12) (by omega) (Nat.le_refl _) (Nat.le_refl _) rfl (Nat.le_of_ble_eq_true rfl) ⟨(zl hS 105 (by decide)), congrArg Prod.fst (sk hS 105 (by decide) rfl), by decide⟩ ?_
        refine q_if_eq (fun c_15 => ?_) (fun c_15 => ?_)
        · rw [if_pos c_15] at h
          refine K_of b_282_25 h_282_25 ?_
          refine q_iconst (-1) (by decide) ?_
          cases h
          exact q_iret rfl (Nat.le_refl _) (Nat.le_refl _) ⟨rfl, rfl⟩
        · rw [if_neg c_15] at h
          refine q_end ?_
          exact (ih dp d hdp _ _ i1 0 0 _ _ _).2.1 h
    · intro h
      rw [e_282_1] at h
      refine K_of b_282_18 h_282_18 ?_
      refine q_aload rfl ?_
      obtain ⟨d_19, h⟩ := ite_some h
      obtain ⟨⟨x0_19, I0_19, L0_19⟩, e_19, h⟩ := Option.bind_eq_some_iff.mp h
      dsimp only at h
      refine q_fv1I (a_261 X hS (d := d - 1) (by omega) e_19) (by omega) (Nat.le_refl _) (Nat.le_refl _) rfl (Nat.le_of_ble_eq_true rfl) ⟨(zl hS 105 (by decide)), congrArg Prod.fst (sk hS 105 (by decide) rfl), by decide⟩ ?_
      refine q_if_ne (fun c_22 => ?_) (fun c_22 => ?_)
      · rw [if_neg c_22] at h
        refine K_of b_282_27 h_282_27 ?_
        refine q_aload rfl ?_
        obtain ⟨d_28, h⟩ := ite_some h
        obtain ⟨⟨I1_28, L1_28⟩, e_28, h⟩ := Option.bind_eq_some_iff.mp h
        dsimp only at h
        refine q_fv1V (a_283 X hS (d := d - 1) (by omega) e_28) (by omega) (Nat.le_refl _) (Nat.le_refl _) rfl (Nat.le_of_ble_eq_true rfl) ⟨(zl hS 105 (by decide)), congrArg Prod.fst (sk hS 105 (by decide) rfl), by decide⟩ ?_
        refine q_iconst (0) (by decide) ?_
        refine q_istore (ls1 := [some (.ref 105), some (.int i1), some (.int (0 : Int32)), none]) (Nat.le_of_ble_eq_true rfl) rfl ?_
        refine q_iconst (0) (by decide) ?_
        refine q_istore (ls1 := [some (.ref 105), some (.int i1), some (.int (0 : Int32)), some (.int (0 : Int32))]) (Nat.le_of_ble_eq_true rfl) rfl ?_
        refine q_end ?_
        exact (ih dp d hdp _ _ i1 (0 : Int32) (0 : Int32) _ _ _).2.2 h
      · rw [if_pos c_22] at h
        refine q_end ?_
        refine K_of b_282_25 h_282_25 ?_
        refine q_iconst (-1) (by decide) ?_
        cases h
        exact q_iret rfl (Nat.le_refl _) (Nat.le_refl _) ⟨rfl, rfl⟩
    · intro h
      rw [e_282_2] at h
      refine K_of b_282_35 h_282_35 ?_
      refine q_iload rfl ?_
      refine q_iconst (16) (by decide) ?_
      refine q_icmp_ge (fun c_38 => ?_) (fun c_38 => ?_)
      · rw [if_pos c_38] at h
        refine K_of b_282_56 h_282_56 ?_
        refine q_iload rfl ?_
        refine q_iconst (-1) (by decide) ?_
        refine q_icmp_ne (fun c_58 => ?_) (fun c_58 => ?_)
        · rw [if_neg c_58] at h
          refine K_of b_282_65 h_282_65 ?_
          refine q_aload rfl ?_
          refine q_getRs (c0 := 12) (j := 57) rfl rfl (zl hS 105 (by decide)) (sk hS 105 (by decide) rfl) rfl (by decide) (r_105_57 hS) ?_
          refine q_iload rfl ?_
          obtain ⟨⟨u_70, v_70⟩, h⟩ := ite_some h
          refine q_ialN (Int32.toNatClampNeg i1) (nx u_70) (zl hS 136 (by decide)) (sk hS 136 (by decide) rfl) v_70 (by decide) ?_
          refine q_end ?_
          refine K_of b_282_71 h_282_71 ?_
          cases h
          exact q_iret rfl (Nat.le_refl _) (Nat.le_refl _) ⟨rfl, rfl⟩
        · rw [if_pos c_58] at h
          refine q_iload rfl ?_
          refine q_goto ?_
          refine K_of b_282_71 h_282_71 ?_
          cases h
          exact q_iret rfl (Nat.le_refl _) (Nat.le_refl _) ⟨rfl, rfl⟩
      · rw [if_neg c_38] at h
        refine q_iload rfl ?_
        refine q_aload rfl ?_
        refine q_getRs (c0 := 12) (j := 57) rfl rfl (zl hS 105 (by decide)) (sk hS 105 (by decide) rfl) rfl (by decide) (r_105_57 hS) ?_
        refine q_iload rfl ?_
        obtain ⟨⟨u_47, v_47⟩, h⟩ := ite_some h
        refine q_ialN (Int32.toNatClampNeg i3) (nx u_47) (zl hS 136 (by decide)) (sk hS 136 (by decide) rfl) v_47 (by decide) ?_
        refine q_iadd ?_
        obtain ⟨v_49, nv_49, h⟩ := stI_some h
        refine q_eqi nv_49.symm ?_
        refine q_istore (ls1 := [some (.ref 105), some (.int i1), some (.int v_49), some (.int i3)]) (Nat.le_of_ble_eq_true rfl) rfl ?_
        refine q_iinc (ls1 := [some (.ref 105), some (.int i1), some (.int v_49), some (.int (i3 + Int32.ofInt (1)))]) rfl rfl ?_
        refine q_goto ?_
        exact (ih dp d hdp _ _ i1 v_49 (i3 + Int32.ofInt (1)) _ _ _).2.2 h
theorem a_282 (X : GX) {z : Nat} {kd : Nat → Nat × Nat} {Rf : Nat → Nat → Option Nat} (hS : Sh z kd Rf) {n dp d : Nat} (hd : dp ≤ d) {I : (Nat → Nat → Int32)} {L : (Nat → Nat → Int64)} {i1 : Int32} {I1 : (Nat → Nat → Int32)} {L1 : (Nat → Nat → Int64)} {r : Int32} (h : g_282 n dp (z, kd, Rf) 0 I L i1 0 0 = some (r, I1, L1)) : Ct X d 282 0 0 [.ref 105, .int i1] (z, kd, I, L, Rf) (AI (fun x τ => x = r ∧ τ = (z, kd, I1, L1, Rf))) :=
  Ct_of mu_282 (Nat.le_of_ble_eq_true rfl) ((w_282 X hS n dp d hd I L i1 0 0 _ _ _).1 h)

/-! 287 CutFloorModel.is(II)Z -/
set_option maxHeartbeats 4000000 in
set_option maxRecDepth 100000 in
def g_287 : Nat → Nat → EN → Nat → (Nat → Nat → Int32) → (Nat → Nat → Int64) → Int32 → Int32 →  Option (Int32 × (Nat → Nat → Int32) × (Nat → Nat → Int64))
  | 0, _, _, _, _, _, _, _ => none
  | n + 1, dp, e, lab, I, L, i0, i1 =>
    if lab = 0 then (if ((i0 >>> (i1 &&& 31)) &&& (1 : Int32)) = (1 : Int32) then (some ((1 : Int32), I, L)) else (some ((0 : Int32), I, L)))
    else none
set_option maxRecDepth 100000 in
theorem e_287_0 (n dp : Nat) (e : EN) (I : (Nat → Nat → Int32)) (L : (Nat → Nat → Int64)) (i0 : Int32) (i1 : Int32) : g_287 (n + 1) dp e 0 I L i0 i1 = (if ((i0 >>> (i1 &&& 31)) &&& (1 : Int32)) = (1 : Int32) then (some ((1 : Int32), I, L)) else (some ((0 : Int32), I, L))) := by rw [g_287.eq_2, if_pos (show (0 : Nat) = 0 from rfl)]
set_option maxHeartbeats 8000000 in
set_option maxRecDepth 100000 in
theorem w_287 (X : GX) {z : Nat} {kd : Nat → Nat × Nat} {Rf : Nat → Nat → Option Nat} (hS : Sh z kd Rf) : ∀ (n dp d : Nat), dp ≤ d → ∀ (I : (Nat → Nat → Int32)) (L : (Nat → Nat → Int64)) (i0 : Int32) (i1 : Int32) (r : Int32) (I1 : (Nat → Nat → Int32)) (L1 : (Nat → Nat → Int64)), (g_287 n dp (z, kd, Rf) 0 I L i0 i1 = some (r, I1, L1) → K X d 287 0 0 (AI (fun x τ => x = r ∧ τ = (z, kd, I1, L1, Rf))) 0 [some (.int i0), some (.int i1)] [] (z, kd, I, L, Rf) 0 0) := by
  intro n
  induction n with
  | zero => intro dp d hdp I L i0 i1 r I1 L1; exact fun h => by cases h
  | succ n ih =>
    intro dp d hdp I L i0 i1 r I1 L1
    · intro h
      rw [e_287_0] at h
      refine K_of b_287_0 h_287_0 ?_
      refine q_iload rfl ?_
      refine q_iload rfl ?_
      refine q_ishr ?_
      refine q_iconst (1) (by decide) ?_
      refine q_iand ?_
      refine q_iconst (1) (by decide) ?_
      refine q_icmp_ne (fun c_6 => ?_) (fun c_6 => ?_)
      · rw [if_neg c_6] at h
        refine K_of b_287_13 h_287_13 ?_
        refine q_iconst (0) (by decide) ?_
        refine q_end ?_
        refine K_of b_287_14 h_287_14 ?_
        cases h
        exact q_iret rfl (Nat.le_refl _) (Nat.le_refl _) ⟨rfl, rfl⟩
      · rw [if_pos c_6] at h
        refine q_iconst (1) (by decide) ?_
        refine q_goto ?_
        refine K_of b_287_14 h_287_14 ?_
        cases h
        exact q_iret rfl (Nat.le_refl _) (Nat.le_refl _) ⟨rfl, rfl⟩
theorem a_287 (X : GX) {z : Nat} {kd : Nat → Nat × Nat} {Rf : Nat → Nat → Option Nat} (hS : Sh z kd Rf) {n dp d : Nat} (hd : dp ≤ d) {I : (Nat → Nat → Int32)} {L : (Nat → Nat → Int64)} {i0 : Int32} {i1 : Int32} {I1 : (Nat → Nat → Int32)} {L1 : (Nat → Nat → Int64)} {r : Int32} (h : g_287 n dp (z, kd, Rf) 0 I L i0 i1 = some (r, I1, L1)) : Ct X d 287 0 0 [.int i0, .int i1] (z, kd, I, L, Rf) (AI (fun x τ => x = r ∧ τ = (z, kd, I1, L1, Rf))) :=
  Ct_of mu_287 (Nat.le_of_ble_eq_true rfl) ((w_287 X hS n dp d hd I L i0 i1 _ _ _) h)

/-! 286 CutFloorModel.sharedBy(I)I -/
set_option maxHeartbeats 4000000 in
set_option maxRecDepth 100000 in
def g_286 : Nat → Nat → EN → Nat → (Nat → Nat → Int32) → (Nat → Nat → Int64) → Int32 → Int32 → Int32 → Int32 → Int32 →  Option (Int32 × (Nat → Nat → Int32) × (Nat → Nat → Int64))
  | 0, _, _, _, _, _, _, _, _, _, _ => none
  | n + 1, dp, e, lab, I, L, i1, i2, i3, i4, i5 =>
    if lab = 0 then (g_286 n dp e 1 I L i1 i1 (I 107 3) (0 : Int32) 0)
    else if lab = 1 then (if (4 : Int32) ≤ i4 then (g_286 n dp e 2 I L i1 i2 i3 (15 : Int32) 0) else (if 0 ≤ i4 ∧ (Int32.toNatClampNeg i4) < 4 then (stI (u2 I 139 (Int32.toNatClampNeg i4) (0 : Int32)) (fun I_25 => (g_286 n dp e 1 I_25 L i1 i2 i3 (i4 + Int32.ofInt (1)) 0))) else none))
    else if lab = 2 then (if i4 < 0 then (g_286 n dp e 4 I L i1 i2 i3 (0 : Int32) (0 : Int32)) else (if 0 ≤ i4 ∧ (Int32.toNatClampNeg i4) < 16 then (if (I 138 (Int32.toNatClampNeg i4)) = 0 then (g_286 n dp e 3 I L i1 i2 i3 i4 0) else (if ¬ i3 = 0 then (if ¬ i3 = 0 then (if 0 ≤ ((70 : Int32) + (i2 - i2 / i3 * i3)) ∧ (Int32.toNatClampNeg ((70 : Int32) + (i2 - i2 / i3 * i3))) < 1570 then (if 0 ≤ i4 ∧ (Int32.toNatClampNeg i4) < 16 then (if 1 ≤ dp then (g_287 n (dp - 1) e 0 I L (I 107 (Int32.toNatClampNeg ((70 : Int32) + (i2 - i2 / i3 * i3)))) (I 137 (Int32.toNatClampNeg i4))).bind (fun ⟨x0_77, I0_77, L0_77⟩ => (if x0_77 = 0 then (some ((1000000000 : Int32), I0_77, L0_77)) else (if 0 ≤ (i2 - i2 / i3 * i3) ∧ (Int32.toNatClampNeg (i2 - i2 / i3 * i3)) < 4 then (if 0 ≤ i4 ∧ (Int32.toNatClampNeg i4) < 16 then (if 0 ≤ (i2 - i2 / i3 * i3) ∧ (Int32.toNatClampNeg (i2 - i2 / i3 * i3)) < 4 then (stI (u2 I0_77 139 (Int32.toNatClampNeg (i2 - i2 / i3 * i3)) ((I0_77 139 (Int32.toNatClampNeg (i2 - i2 / i3 * i3))) + (I0_77 136 (Int32.toNatClampNeg i4)))) (fun I_103 => (g_286 n dp e 3 I_103 L0_77 i1 (i2 / i3) i3 i4 0))) else none) else none) else none))) else none) else none) else none) else none) else none)) else none))
    else if lab = 3 then (g_286 n dp e 2 I L i1 i2 i3 (i4 + Int32.ofInt (-1)) 0)
    else if lab = 4 then (if (4 : Int32) ≤ i5 then (some (i4, I, L)) else (if 0 ≤ i5 ∧ (Int32.toNatClampNeg i5) < 4 then (if (I 139 (Int32.toNatClampNeg i5)) ≤ i4 then (g_286 n dp e 4 I L i1 i2 i3 i4 (i5 + Int32.ofInt (1))) else (if 0 ≤ i5 ∧ (Int32.toNatClampNeg i5) < 4 then (stI (I 139 (Int32.toNatClampNeg i5)) (fun v_146 => (g_286 n dp e 4 I L i1 i2 i3 v_146 (i5 + Int32.ofInt (1))))) else none)) else none))
    else none
set_option maxRecDepth 100000 in
theorem e_286_0 (n dp : Nat) (e : EN) (I : (Nat → Nat → Int32)) (L : (Nat → Nat → Int64)) (i1 : Int32) (i2 : Int32) (i3 : Int32) (i4 : Int32) (i5 : Int32) : g_286 (n + 1) dp e 0 I L i1 i2 i3 i4 i5 = (g_286 n dp e 1 I L i1 i1 (I 107 3) (0 : Int32) 0) := by rw [g_286.eq_2, if_pos (show (0 : Nat) = 0 from rfl)]
set_option maxRecDepth 100000 in
theorem e_286_1 (n dp : Nat) (e : EN) (I : (Nat → Nat → Int32)) (L : (Nat → Nat → Int64)) (i1 : Int32) (i2 : Int32) (i3 : Int32) (i4 : Int32) (i5 : Int32) : g_286 (n + 1) dp e 1 I L i1 i2 i3 i4 i5 = (if (4 : Int32) ≤ i4 then (g_286 n dp e 2 I L i1 i2 i3 (15 : Int32) 0) else (if 0 ≤ i4 ∧ (Int32.toNatClampNeg i4) < 4 then (stI (u2 I 139 (Int32.toNatClampNeg i4) (0 : Int32)) (fun I_25 => (g_286 n dp e 1 I_25 L i1 i2 i3 (i4 + Int32.ofInt (1)) 0))) else none)) := by rw [g_286.eq_2, if_neg (show ¬ ((1 : Nat) = 0) by decide), if_pos (show (1 : Nat) = 1 from rfl)]
set_option maxRecDepth 100000 in
theorem e_286_2 (n dp : Nat) (e : EN) (I : (Nat → Nat → Int32)) (L : (Nat → Nat → Int64)) (i1 : Int32) (i2 : Int32) (i3 : Int32) (i4 : Int32) (i5 : Int32) : g_286 (n + 1) dp e 2 I L i1 i2 i3 i4 i5 = (if i4 < 0 then (g_286 n dp e 4 I L i1 i2 i3 (0 : Int32) (0 : Int32)) else (if 0 ≤ i4 ∧ (Int32.toNatClampNeg i4) < 16 then (if (I 138 (Int32.toNatClampNeg i4)) = 0 then (g_286 n dp e 3 I L i1 i2 i3 i4 0) else (if ¬ i3 = 0 then (if ¬ i3 = 0 then (if 0 ≤ ((70 : Int32) + (i2 - i2 / i3 * i3)) ∧ (Int32.toNatClampNeg ((70 : Int32) + (i2 - i2 / i3 * i3))) < 1570 then (if 0 ≤ i4 ∧ (Int32.toNatClampNeg i4) < 16 then (if 1 ≤ dp then (g_287 n (dp - 1) e 0 I L (I 107 (Int32.toNatClampNeg ((70 : Int32) + (i2 - i2 / i3 * i3)))) (I 137 (Int32.toNatClampNeg i4))).bind (fun ⟨x0_77, I0_77, L0_77⟩ => (if x0_77 = 0 then (some ((1000000000 : Int32), I0_77, L0_77)) else (if 0 ≤ (i2 - i2 / i3 * i3) ∧ (Int32.toNatClampNeg (i2 - i2 / i3 * i3)) < 4 then (if 0 ≤ i4 ∧ (Int32.toNatClampNeg i4) < 16 then (if 0 ≤ (i2 - i2 / i3 * i3) ∧ (Int32.toNatClampNeg (i2 - i2 / i3 * i3)) < 4 then (stI (u2 I0_77 139 (Int32.toNatClampNeg (i2 - i2 / i3 * i3)) ((I0_77 139 (Int32.toNatClampNeg (i2 - i2 / i3 * i3))) + (I0_77 136 (Int32.toNatClampNeg i4)))) (fun I_103 => (g_286 n dp e 3 I_103 L0_77 i1 (i2 / i3) i3 i4 0))) else none) else none) else none))) else none) else none) else none) else none) else none)) else none)) := by rw [g_286.eq_2, if_neg (show ¬ ((2 : Nat) = 0) by decide), if_neg (show ¬ ((2 : Nat) = 1) by decide), if_pos (show (2 : Nat) = 2 from rfl)]
set_option maxRecDepth 100000 in
theorem e_286_3 (n dp : Nat) (e : EN) (I : (Nat → Nat → Int32)) (L : (Nat → Nat → Int64)) (i1 : Int32) (i2 : Int32) (i3 : Int32) (i4 : Int32) (i5 : Int32) : g_286 (n + 1) dp e 3 I L i1 i2 i3 i4 i5 = (g_286 n dp e 2 I L i1 i2 i3 (i4 + Int32.ofInt (-1)) 0) := by rw [g_286.eq_2, if_neg (show ¬ ((3 : Nat) = 0) by decide), if_neg (show ¬ ((3 : Nat) = 1) by decide), if_neg (show ¬ ((3 : Nat) = 2) by decide), if_pos (show (3 : Nat) = 3 from rfl)]
set_option maxRecDepth 100000 in
theorem e_286_4 (n dp : Nat) (e : EN) (I : (Nat → Nat → Int32)) (L : (Nat → Nat → Int64)) (i1 : Int32) (i2 : Int32) (i3 : Int32) (i4 : Int32) (i5 : Int32) : g_286 (n + 1) dp e 4 I L i1 i2 i3 i4 i5 = (if (4 : Int32) ≤ i5 then (some (i4, I, L)) else (if 0 ≤ i5 ∧ (Int32.toNatClampNeg i5) < 4 then (if (I 139 (Int32.toNatClampNeg i5)) ≤ i4 then (g_286 n dp e 4 I L i1 i2 i3 i4 (i5 + Int32.ofInt (1))) else (if 0 ≤ i5 ∧ (Int32.toNatClampNeg i5) < 4 then (stI (I 139 (Int32.toNatClampNeg i5)) (fun v_146 => (g_286 n dp e 4 I L i1 i2 i3 v_146 (i5 + Int32.ofInt (1))))) else none)) else none)) := by rw [g_286.eq_2, if_neg (show ¬ ((4 : Nat) = 0) by decide), if_neg (show ¬ ((4 : Nat) = 1) by decide), if_neg (show ¬ ((4 : Nat) = 2) by decide), if_neg (show ¬ ((4 : Nat) = 3) by decide), if_pos (show (4 : Nat) = 4 from rfl)]
set_option maxHeartbeats 8000000 in
set_option maxRecDepth 100000 in
theorem w_286 (X : GX) {z : Nat} {kd : Nat → Nat × Nat} {Rf : Nat → Nat → Option Nat} (hS : Sh z kd Rf) : ∀ (n dp d : Nat), dp ≤ d → ∀ (I : (Nat → Nat → Int32)) (L : (Nat → Nat → Int64)) (i1 : Int32) (i2 : Int32) (i3 : Int32) (i4 : Int32) (i5 : Int32) (r : Int32) (I1 : (Nat → Nat → Int32)) (L1 : (Nat → Nat → Int64)), (g_286 n dp (z, kd, Rf) 0 I L i1 i2 i3 i4 i5 = some (r, I1, L1) → K X d 286 0 0 (AI (fun x τ => x = r ∧ τ = (z, kd, I1, L1, Rf))) 0 [some (.ref 105), some (.int i1), none, none, none, none] [] (z, kd, I, L, Rf) 0 0) ∧
    (g_286 n dp (z, kd, Rf) 1 I L i1 i2 i3 i4 i5 = some (r, I1, L1) → K X d 286 0 0 (AI (fun x τ => x = r ∧ τ = (z, kd, I1, L1, Rf))) 12 [some (.ref 105), some (.int i1), some (.int i2), some (.int i3), some (.int i4), none] [] (z, kd, I, L, Rf) 0 0) ∧
    (g_286 n dp (z, kd, Rf) 2 I L i1 i2 i3 i4 i5 = some (r, I1, L1) → K X d 286 0 0 (AI (fun x τ => x = r ∧ τ = (z, kd, I1, L1, Rf))) 36 [some (.ref 105), some (.int i1), some (.int i2), some (.int i3), some (.int i4), none] [] (z, kd, I, L, Rf) 0 0) ∧
    (g_286 n dp (z, kd, Rf) 3 I L i1 i2 i3 i4 i5 = some (r, I1, L1) → K X d 286 0 0 (AI (fun x τ => x = r ∧ τ = (z, kd, I1, L1, Rf))) 104 [some (.ref 105), some (.int i1), some (.int i2), some (.int i3), some (.int i4), none] [] (z, kd, I, L, Rf) 0 0) ∧
    (g_286 n dp (z, kd, Rf) 4 I L i1 i2 i3 i4 i5 = some (r, I1, L1) → K X d 286 0 0 (AI (fun x τ => x = r ∧ τ = (z, kd, I1, L1, Rf))) 116 [some (.ref 105), some (.int i1), some (.int i2), some (.int i3), some (.int i4), some (.int i5)] [] (z, kd, I, L, Rf) 0 0) := by
  intro n
  induction n with
  | zero => intro dp d hdp I L i1 i2 i3 i4 i5 r I1 L1; exact ⟨(fun h => by cases h), (fun h => by cases h), (fun h => by cases h), (fun h => by cases h), (fun h => by cases h)⟩
  | succ n ih =>
    intro dp d hdp I L i1 i2 i3 i4 i5 r I1 L1
    refine ⟨?_, ?_, ?_, ?_, ?_⟩
    · intro h
      rw [e_286_0] at h
      refine K_of b_286_0 h_286_0 ?_
      refine q_iload rfl ?_
      refine q_istore (ls1 := [some (.ref 105), some (.int i1), some (.int i1), none, none, none]) (Nat.le_of_ble_eq_true rfl) rfl ?_
      refine q_aload rfl ?_
      refine q_getRs (c0 := 12) (j := 3) rfl rfl (zl hS 105 (by decide)) (sk hS 105 (by decide) rfl) rfl (by decide) (r_105_3 hS) ?_
      refine q_iconst (3) (by decide) ?_
      refine q_ialN (3) rfl (zl hS 107 (by decide)) (sk hS 107 (by decide) rfl) (by decide) (by decide) ?_
      refine q_istore (ls1 := [some (.ref 105), some (.int i1), some (.int i1), some (.int (I 107 3)), none, none]) (Nat.le_of_ble_eq_true rfl) rfl ?_
      refine q_iconst (0) (by decide) ?_
      refine q_istore (ls1 := [some (.ref 105), some (.int i1), some (.int i1), some (.int (I 107 3)), some (.int (0 : Int32)), none]) (Nat.le_of_ble_eq_true rfl) rfl ?_
      refine q_end ?_
      exact (ih dp d hdp _ _ i1 i1 (I 107 3) (0 : Int32) 0 _ _ _).2.1 h
    · intro h
      rw [e_286_1] at h
      refine K_of b_286_12 h_286_12 ?_
      refine q_iload rfl ?_
      refine q_iconst (4) (by decide) ?_
      refine q_icmp_ge (fun c_15 => ?_) (fun c_15 => ?_)
      · rw [if_pos c_15] at h
        refine K_of b_286_32 h_286_32 ?_
        refine q_iconst (15) (by decide) ?_
        refine q_istore (ls1 := [some (.ref 105), some (.int i1), some (.int i2), some (.int i3), some (.int (15 : Int32)), none]) (Nat.le_of_ble_eq_true rfl) rfl ?_
        refine q_end ?_
        exact (ih dp d hdp _ _ i1 i2 i3 (15 : Int32) 0 _ _ _).2.2.1 h
      · rw [if_neg c_15] at h
        refine q_aload rfl ?_
        refine q_getRs (c0 := 12) (j := 61) rfl rfl (zl hS 105 (by decide)) (sk hS 105 (by decide) rfl) rfl (by decide) (r_105_61 hS) ?_
        refine q_iload rfl ?_
        refine q_iconst (0) (by decide) ?_
        obtain ⟨⟨u_25, v_25⟩, h⟩ := ite_some h
        refine q_iasN (Int32.toNatClampNeg i4) (nx u_25) (zl hS 139 (by decide)) (sk hS 139 (by decide) rfl) v_25 (by decide) ?_
        obtain ⟨I_25, nI_25, h⟩ := stI_some h
        refine q_nI nI_25 ?_
        refine q_iinc (ls1 := [some (.ref 105), some (.int i1), some (.int i2), some (.int i3), some (.int (i4 + Int32.ofInt (1))), none]) rfl rfl ?_
        refine q_goto ?_
        exact (ih dp d hdp _ _ i1 i2 i3 (i4 + Int32.ofInt (1)) 0 _ _ _).2.1 h
    · intro h
      rw [e_286_2] at h
      refine K_of b_286_36 h_286_36 ?_
      refine q_iload rfl ?_
      refine q_if_lt (fun c_38 => ?_) (fun c_38 => ?_)
      · rw [if_pos c_38] at h
        refine K_of b_286_110 h_286_110 ?_
        refine q_iconst (0) (by decide) ?_
        refine q_istore (ls1 := [some (.ref 105), some (.int i1), some (.int i2), some (.int i3), some (.int (0 : Int32)), none]) (Nat.le_of_ble_eq_true rfl) rfl ?_
        refine q_iconst (0) (by decide) ?_
        refine q_istore (ls1 := [some (.ref 105), some (.int i1), some (.int i2), some (.int i3), some (.int (0 : Int32)), some (.int (0 : Int32))]) (Nat.le_of_ble_eq_true rfl) rfl ?_
        refine q_end ?_
        exact (ih dp d hdp _ _ i1 i2 i3 (0 : Int32) (0 : Int32) _ _ _).2.2.2.2 h
      · rw [if_neg c_38] at h
        refine q_aload rfl ?_
        refine q_getRs (c0 := 12) (j := 59) rfl rfl (zl hS 105 (by decide)) (sk hS 105 (by decide) rfl) rfl (by decide) (r_105_59 hS) ?_
        refine q_iload rfl ?_
        obtain ⟨⟨u_47, v_47⟩, h⟩ := ite_some h
        refine q_zalN (Int32.toNatClampNeg i4) (nx u_47) (zl hS 138 (by decide)) (sk hS 138 (by decide) rfl) v_47 (by decide) ?_
        refine q_if_eq (fun c_48 => ?_) (fun c_48 => ?_)
        · rw [if_pos c_48] at h
          exact (ih dp d hdp _ _ i1 i2 i3 i4 0 _ _ _).2.2.2.1 h
        · rw [if_neg c_48] at h
          refine q_iload rfl ?_
          refine q_iload rfl ?_
          obtain ⟨d_53, h⟩ := ite_some h
          refine q_irem d_53 ?_
          refine q_istore (ls1 := [some (.ref 105), some (.int i1), some (.int i2), some (.int i3), some (.int i4), some (.int (i2 - i2 / i3 * i3))]) (Nat.le_of_ble_eq_true rfl) rfl ?_
          refine q_iload rfl ?_
          refine q_iload rfl ?_
          obtain ⟨d_58, h⟩ := ite_some h
          refine q_idiv d_58 ?_
          refine q_istore (ls1 := [some (.ref 105), some (.int i1), some (.int (i2 / i3)), some (.int i3), some (.int i4), some (.int (i2 - i2 / i3 * i3))]) (Nat.le_of_ble_eq_true rfl) rfl ?_
          refine q_aload rfl ?_
          refine q_getRs (c0 := 12) (j := 3) rfl rfl (zl hS 105 (by decide)) (sk hS 105 (by decide) rfl) rfl (by decide) (r_105_3 hS) ?_
          refine q_iconst (70) (by decide) ?_
          refine q_iload rfl ?_
          refine q_iadd ?_
          obtain ⟨⟨u_69, v_69⟩, h⟩ := ite_some h
          refine q_ialN (Int32.toNatClampNeg ((70 : Int32) + (i2 - i2 / i3 * i3))) (nx u_69) (zl hS 107 (by decide)) (sk hS 107 (by decide) rfl) v_69 (by decide) ?_
          refine q_aload rfl ?_
          refine q_getRs (c0 := 12) (j := 58) rfl rfl (zl hS 105 (by decide)) (sk hS 105 (by decide) rfl) rfl (by decide) (r_105_58 hS) ?_
          refine q_iload rfl ?_
          obtain ⟨⟨u_76, v_76⟩, h⟩ := ite_some h
          refine q_ialN (Int32.toNatClampNeg i4) (nx u_76) (zl hS 137 (by decide)) (sk hS 137 (by decide) rfl) v_76 (by decide) ?_
          obtain ⟨d_77, h⟩ := ite_some h
          obtain ⟨⟨x0_77, I0_77, L0_77⟩, e_77, h⟩ := Option.bind_eq_some_iff.mp h
          dsimp only at h
          refine q_fs2I (a_287 X hS (d := d - 1) (by omega) e_77) (by omega) (Nat.le_refl _) (Nat.le_refl _) rfl (Nat.le_of_ble_eq_true rfl) ?_
          refine q_if_ne (fun c_80 => ?_) (fun c_80 => ?_)
          · rw [if_neg c_80] at h
            refine K_of b_286_87 h_286_87 ?_
            refine q_aload rfl ?_
            refine q_getRs (c0 := 12) (j := 61) rfl rfl (zl hS 105 (by decide)) (sk hS 105 (by decide) rfl) rfl (by decide) (r_105_61 hS) ?_
            refine q_iload rfl ?_
            refine q_dup2 rfl rfl ?_
            obtain ⟨⟨u_94, v_94⟩, h⟩ := ite_some h
            refine q_ialN (Int32.toNatClampNeg (i2 - i2 / i3 * i3)) (nx u_94) (zl hS 139 (by decide)) (sk hS 139 (by decide) rfl) v_94 (by decide) ?_
            refine q_aload rfl ?_
            refine q_getRs (c0 := 12) (j := 57) rfl rfl (zl hS 105 (by decide)) (sk hS 105 (by decide) rfl) rfl (by decide) (r_105_57 hS) ?_
            refine q_iload rfl ?_
            obtain ⟨⟨u_101, v_101⟩, h⟩ := ite_some h
            refine q_ialN (Int32.toNatClampNeg i4) (nx u_101) (zl hS 136 (by decide)) (sk hS 136 (by decide) rfl) v_101 (by decide) ?_
            refine q_iadd ?_
            obtain ⟨⟨u_103, v_103⟩, h⟩ := ite_some h
            refine q_iasN (Int32.toNatClampNeg (i2 - i2 / i3 * i3)) (nx u_103) (zl hS 139 (by decide)) (sk hS 139 (by decide) rfl) v_103 (by decide) ?_
            obtain ⟨I_103, nI_103, h⟩ := stI_some h
            refine q_nI nI_103 ?_
            refine q_end ?_
            refine K_mask [true, true, true, true, true, false] (Nat.le_of_ble_eq_true rfl) ?_
            exact (ih dp d hdp _ _ i1 (i2 / i3) i3 i4 0 _ _ _).2.2.2.1 h
          · rw [if_pos c_80] at h
            refine q_iconst (1000000000) (by decide) ?_
            cases h
            exact q_iret rfl (Nat.le_refl _) (Nat.le_refl _) ⟨rfl, rfl⟩
    · intro h
      rw [e_286_3] at h
      refine K_of b_286_104 h_286_104 ?_
      refine q_iinc (ls1 := [some (.ref 105), some (.int i1), some (.int i2), some (.int i3), some (.int (i4 + Int32.ofInt (-1))), none]) rfl rfl ?_
      refine q_goto ?_
      exact (ih dp d hdp _ _ i1 i2 i3 (i4 + Int32.ofInt (-1)) 0 _ _ _).2.2.1 h
    · intro h
      rw [e_286_4] at h
      refine K_of b_286_116 h_286_116 ?_
      refine q_iload rfl ?_
      refine q_iconst (4) (by decide) ?_
      refine q_icmp_ge (fun c_119 => ?_) (fun c_119 => ?_)
      · rw [if_pos c_119] at h
        refine K_of b_286_154 h_286_154 ?_
        refine q_iload rfl ?_
        cases h
        exact q_iret rfl (Nat.le_refl _) (Nat.le_refl _) ⟨rfl, rfl⟩
      · rw [if_neg c_119] at h
        refine q_aload rfl ?_
        refine q_getRs (c0 := 12) (j := 61) rfl rfl (zl hS 105 (by decide)) (sk hS 105 (by decide) rfl) rfl (by decide) (r_105_61 hS) ?_
        refine q_iload rfl ?_
        obtain ⟨⟨u_128, v_128⟩, h⟩ := ite_some h
        refine q_ialN (Int32.toNatClampNeg i5) (nx u_128) (zl hS 139 (by decide)) (sk hS 139 (by decide) rfl) v_128 (by decide) ?_
        refine q_iload rfl ?_
        refine q_icmp_le (fun c_131 => ?_) (fun c_131 => ?_)
        · rw [if_pos c_131] at h
          refine K_of b_286_144 h_286_144 ?_
          refine q_iload rfl ?_
          refine q_end ?_
          refine K_of b_286_146 h_286_146 ?_
          refine q_istore (ls1 := [some (.ref 105), some (.int i1), some (.int i2), some (.int i3), some (.int i4), some (.int i5)]) (Nat.le_of_ble_eq_true rfl) rfl ?_
          refine q_iinc (ls1 := [some (.ref 105), some (.int i1), some (.int i2), some (.int i3), some (.int i4), some (.int (i5 + Int32.ofInt (1)))]) rfl rfl ?_
          refine q_goto ?_
          exact (ih dp d hdp _ _ i1 i2 i3 i4 (i5 + Int32.ofInt (1)) _ _ _).2.2.2.2 h
        · rw [if_neg c_131] at h
          refine q_aload rfl ?_
          refine q_getRs (c0 := 12) (j := 61) rfl rfl (zl hS 105 (by decide)) (sk hS 105 (by decide) rfl) rfl (by decide) (r_105_61 hS) ?_
          refine q_iload rfl ?_
          obtain ⟨⟨u_140, v_140⟩, h⟩ := ite_some h
          refine q_ialN (Int32.toNatClampNeg i5) (nx u_140) (zl hS 139 (by decide)) (sk hS 139 (by decide) rfl) v_140 (by decide) ?_
          refine q_goto ?_
          refine K_of b_286_146 h_286_146 ?_
          obtain ⟨v_146, nv_146, h⟩ := stI_some h
          refine q_eqi nv_146.symm ?_
          refine q_istore (ls1 := [some (.ref 105), some (.int i1), some (.int i2), some (.int i3), some (.int v_146), some (.int i5)]) (Nat.le_of_ble_eq_true rfl) rfl ?_
          refine q_iinc (ls1 := [some (.ref 105), some (.int i1), some (.int i2), some (.int i3), some (.int v_146), some (.int (i5 + Int32.ofInt (1)))]) rfl rfl ?_
          refine q_goto ?_
          exact (ih dp d hdp _ _ i1 i2 i3 v_146 (i5 + Int32.ofInt (1)) _ _ _).2.2.2.2 h
theorem a_286 (X : GX) {z : Nat} {kd : Nat → Nat × Nat} {Rf : Nat → Nat → Option Nat} (hS : Sh z kd Rf) {n dp d : Nat} (hd : dp ≤ d) {I : (Nat → Nat → Int32)} {L : (Nat → Nat → Int64)} {i1 : Int32} {I1 : (Nat → Nat → Int32)} {L1 : (Nat → Nat → Int64)} {r : Int32} (h : g_286 n dp (z, kd, Rf) 0 I L i1 0 0 0 0 = some (r, I1, L1)) : Ct X d 286 0 0 [.ref 105, .int i1] (z, kd, I, L, Rf) (AI (fun x τ => x = r ∧ τ = (z, kd, I1, L1, Rf))) :=
  Ct_of mu_286 (Nat.le_of_ble_eq_true rfl) ((w_286 X hS n dp d hd I L i1 0 0 0 0 _ _ _).1 h)

/-! 285 CutFloorModel.share(I)I -/
set_option maxHeartbeats 4000000 in
set_option maxRecDepth 100000 in
def g_285 : Nat → Nat → EN → Nat → (Nat → Nat → Int32) → (Nat → Nat → Int64) → Int32 → Int32 → Int32 → Int32 → Int32 → Int32 →  Option (Int32 × (Nat → Nat → Int32) × (Nat → Nat → Int64))
  | 0, _, _, _, _, _, _, _, _, _, _, _ => none
  | n + 1, dp, e, lab, I, L, i1, i2, i3, i4, i5, i6 =>
    if lab = 0 then (stI (u2 I 105 0 (0 : Int32)) (fun I_2 => (if i1 = (-1 : Int32) then (g_285 n dp e 1 I_2 L i1 0 0 0 0 0) else (if 1 ≤ dp then (g_239 n (dp - 1) e 0 I_2 L i1).bind (fun ⟨x0_12, I0_12, L0_12⟩ => (if x0_12 = 0 then (some ((-1 : Int32), I0_12, L0_12)) else (g_285 n dp e 1 I0_12 L0_12 i1 0 0 0 0 0))) else none))))
    else if lab = 1 then (if 1 ≤ dp then (g_261 n (dp - 1) e 0 I L 0 0 0 0).bind (fun ⟨x0_19, I0_19, L0_19⟩ => (if x0_19 = 0 then (some ((-1 : Int32), I0_19, L0_19)) else (if 1 ≤ dp then (g_283 n (dp - 1) e 0 I0_19 L0_19 0 0 0).bind (fun ⟨I1_28, L1_28⟩ => (if (10 : Int32) < (I1_28 105 60) then (some ((-1 : Int32), I1_28, L1_28)) else (if i1 = (-1 : Int32) then (g_285 n dp e 2 I1_28 L1_28 i1 0 0 0 0 0) else (if i1 = (-1 : Int32) then (if (I1_28 138 0) = 0 then (some ((-1 : Int32), I1_28, L1_28)) else (g_285 n dp e 2 I1_28 L1_28 i1 0 0 0 0 0)) else (if 0 ≤ i1 ∧ (Int32.toNatClampNeg i1) < 16 then (if (I1_28 138 (Int32.toNatClampNeg i1)) = 0 then (some ((-1 : Int32), I1_28, L1_28)) else (g_285 n dp e 2 I1_28 L1_28 i1 0 0 0 0 0)) else none))))) else none))) else none)
    else if lab = 2 then (if (I 105 60) ≤ 0 then (g_285 n dp e 3 I L i1 0 0 0 0 0) else (if (I 107 3) = 0 then (some ((-1 : Int32), I, L)) else (g_285 n dp e 3 I L i1 0 0 0 0 0)))
    else if lab = 3 then (g_285 n dp e 4 I L i1 (1 : Int32) (0 : Int32) 0 0 0)
    else if lab = 4 then (if (I 105 60) ≤ i3 then (g_285 n dp e 5 I L i1 i2 (1000000000 : Int32) (0 : Int32) (0 : Int32) 0) else (g_285 n dp e 4 I L i1 (i2 * (I 107 3)) (i3 + Int32.ofInt (1)) 0 0 0))
    else if lab = 5 then (if i2 ≤ i5 then (if i3 = (1000000000 : Int32) then (some ((-1 : Int32), I, L)) else (g_285 n dp e 6 I L i1 i2 i3 i4 i4 (15 : Int32))) else (if 1 ≤ dp then (g_286 n (dp - 1) e 0 I L i5 0 0 0 0).bind (fun ⟨x0_127, I0_127, L0_127⟩ => (if i3 ≤ x0_127 then (if i3 ≤ x0_127 then (g_285 n dp e 5 I0_127 L0_127 i1 i2 i3 i4 (i5 + Int32.ofInt (1)) 0) else (g_285 n dp e 5 I0_127 L0_127 i1 i2 x0_127 i4 (i5 + Int32.ofInt (1)) 0)) else (if i3 ≤ x0_127 then (g_285 n dp e 5 I0_127 L0_127 i1 i2 i3 i5 (i5 + Int32.ofInt (1)) 0) else (g_285 n dp e 5 I0_127 L0_127 i1 i2 x0_127 i5 (i5 + Int32.ofInt (1)) 0)))) else none))
    else if lab = 6 then (if i6 < 0 then (if i1 = (-1 : Int32) then (some (i3, I, L)) else (if 0 ≤ i1 ∧ (Int32.toNatClampNeg i1) < 16 then (some ((I 140 (Int32.toNatClampNeg i1)), I, L)) else none)) else (if 0 ≤ i6 ∧ (Int32.toNatClampNeg i6) < 16 then (if (I 138 (Int32.toNatClampNeg i6)) = 0 then (g_285 n dp e 7 I L i1 i2 i3 i4 i5 i6) else (if ¬ (I 107 3) = 0 then (if 0 ≤ i6 ∧ (Int32.toNatClampNeg i6) < 16 then (stI (u2 I 140 (Int32.toNatClampNeg i6) (i5 - i5 / (I 107 3) * (I 107 3))) (fun I_213 => (if ¬ (I_213 107 3) = 0 then (g_285 n dp e 7 I_213 L i1 i2 i3 i4 (i5 / (I_213 107 3)) i6) else none))) else none) else none)) else none))
    else if lab = 7 then (g_285 n dp e 6 I L i1 i2 i3 i4 i5 (i6 + Int32.ofInt (-1)))
    else none
set_option maxRecDepth 100000 in
theorem e_285_0 (n dp : Nat) (e : EN) (I : (Nat → Nat → Int32)) (L : (Nat → Nat → Int64)) (i1 : Int32) (i2 : Int32) (i3 : Int32) (i4 : Int32) (i5 : Int32) (i6 : Int32) : g_285 (n + 1) dp e 0 I L i1 i2 i3 i4 i5 i6 = (stI (u2 I 105 0 (0 : Int32)) (fun I_2 => (if i1 = (-1 : Int32) then (g_285 n dp e 1 I_2 L i1 0 0 0 0 0) else (if 1 ≤ dp then (g_239 n (dp - 1) e 0 I_2 L i1).bind (fun ⟨x0_12, I0_12, L0_12⟩ => (if x0_12 = 0 then (some ((-1 : Int32), I0_12, L0_12)) else (g_285 n dp e 1 I0_12 L0_12 i1 0 0 0 0 0))) else none)))) := by rw [g_285.eq_2, if_pos (show (0 : Nat) = 0 from rfl)]
set_option maxRecDepth 100000 in
theorem e_285_1 (n dp : Nat) (e : EN) (I : (Nat → Nat → Int32)) (L : (Nat → Nat → Int64)) (i1 : Int32) (i2 : Int32) (i3 : Int32) (i4 : Int32) (i5 : Int32) (i6 : Int32) : g_285 (n + 1) dp e 1 I L i1 i2 i3 i4 i5 i6 = (if 1 ≤ dp then (g_261 n (dp - 1) e 0 I L 0 0 0 0).bind (fun ⟨x0_19, I0_19, L0_19⟩ => (if x0_19 = 0 then (some ((-1 : Int32), I0_19, L0_19)) else (if 1 ≤ dp then (g_283 n (dp - 1) e 0 I0_19 L0_19 0 0 0).bind (fun ⟨I1_28, L1_28⟩ => (if (10 : Int32) < (I1_28 105 60) then (some ((-1 : Int32), I1_28, L1_28)) else (if i1 = (-1 : Int32) then (g_285 n dp e 2 I1_28 L1_28 i1 0 0 0 0 0) else (if i1 = (-1 : Int32) then (if (I1_28 138 0) = 0 then (some ((-1 : Int32), I1_28, L1_28)) else (g_285 n dp e 2 I1_28 L1_28 i1 0 0 0 0 0)) else (if 0 ≤ i1 ∧ (Int32.toNatClampNeg i1) < 16 then (if (I1_28 138 (Int32.toNatClampNeg i1)) = 0 then (some ((-1 : Int32), I1_28, L1_28)) else (g_285 n dp e 2 I1_28 L1_28 i1 0 0 0 0 0)) else none))))) else none))) else none) := by rw [g_285.eq_2, if_neg (show ¬ ((1 : Nat) = 0) by decide), if_pos (show (1 : Nat) = 1 from rfl)]
set_option maxRecDepth 100000 in
theorem e_285_2 (n dp : Nat) (e : EN) (I : (Nat → Nat → Int32)) (L : (Nat → Nat → Int64)) (i1 : Int32) (i2 : Int32) (i3 : Int32) (i4 : Int32) (i5 : Int32) (i6 : Int32) : g_285 (n + 1) dp e 2 I L i1 i2 i3 i4 i5 i6 = (if (I 105 60) ≤ 0 then (g_285 n dp e 3 I L i1 0 0 0 0 0) else (if (I 107 3) = 0 then (some ((-1 : Int32), I, L)) else (g_285 n dp e 3 I L i1 0 0 0 0 0))) := by rw [g_285.eq_2, if_neg (show ¬ ((2 : Nat) = 0) by decide), if_neg (show ¬ ((2 : Nat) = 1) by decide), if_pos (show (2 : Nat) = 2 from rfl)]
set_option maxRecDepth 100000 in
theorem e_285_3 (n dp : Nat) (e : EN) (I : (Nat → Nat → Int32)) (L : (Nat → Nat → Int64)) (i1 : Int32) (i2 : Int32) (i3 : Int32) (i4 : Int32) (i5 : Int32) (i6 : Int32) : g_285 (n + 1) dp e 3 I L i1 i2 i3 i4 i5 i6 = (g_285 n dp e 4 I L i1 (1 : Int32) (0 : Int32) 0 0 0) := by rw [g_285.eq_2, if_neg (show ¬ ((3 : Nat) = 0) by decide), if_neg (show ¬ ((3 : Nat) = 1) by decide), if_neg (show ¬ ((3 : Nat) = 2) by decide), if_pos (show (3 : Nat) = 3 from rfl)]
set_option maxRecDepth 100000 in
theorem e_285_4 (n dp : Nat) (e : EN) (I : (Nat → Nat → Int32)) (L : (Nat → Nat → Int64)) (i1 : Int32) (i2 : Int32) (i3 : Int32) (i4 : Int32) (i5 : Int32) (i6 : Int32) : g_285 (n + 1) dp e 4 I L i1 i2 i3 i4 i5 i6 = (if (I 105 60) ≤ i3 then (g_285 n dp e 5 I L i1 i2 (1000000000 : Int32) (0 : Int32) (0 : Int32) 0) else (g_285 n dp e 4 I L i1 (i2 * (I 107 3)) (i3 + Int32.ofInt (1)) 0 0 0)) := by rw [g_285.eq_2, if_neg (show ¬ ((4 : Nat) = 0) by decide), if_neg (show ¬ ((4 : Nat) = 1) by decide), if_neg (show ¬ ((4 : Nat) = 2) by decide), if_neg (show ¬ ((4 : Nat) = 3) by decide), if_pos (show (4 : Nat) = 4 from rfl)]
set_option maxRecDepth 100000 in
theorem e_285_5 (n dp : Nat) (e : EN) (I : (Nat → Nat → Int32)) (L : (Nat → Nat → Int64)) (i1 : Int32) (i2 : Int32) (i3 : Int32) (i4 : Int32) (i5 : Int32) (i6 : Int32) : g_285 (n + 1) dp e 5 I L i1 i2 i3 i4 i5 i6 = (if i2 ≤ i5 then (if i3 = (1000000000 : Int32) then (some ((-1 : Int32), I, L)) else (g_285 n dp e 6 I L i1 i2 i3 i4 i4 (15 : Int32))) else (if 1 ≤ dp then (g_286 n (dp - 1) e 0 I L i5 0 0 0 0).bind (fun ⟨x0_127, I0_127, L0_127⟩ => (if i3 ≤ x0_127 then (if i3 ≤ x0_127 then (g_285 n dp e 5 I0_127 L0_127 i1 i2 i3 i4 (i5 + Int32.ofInt (1)) 0) else (g_285 n dp e 5 I0_127 L0_127 i1 i2 x0_127 i4 (i5 + Int32.ofInt (1)) 0)) else (if i3 ≤ x0_127 then (g_285 n dp e 5 I0_127 L0_127 i1 i2 i3 i5 (i5 + Int32.ofInt (1)) 0) else (g_285 n dp e 5 I0_127 L0_127 i1 i2 x0_127 i5 (i5 + Int32.ofInt (1)) 0)))) else none)) := by rw [g_285.eq_2, if_neg (show ¬ ((5 : Nat) = 0) by decide), if_neg (show ¬ ((5 : Nat) = 1) by decide), if_neg (show ¬ ((5 : Nat) = 2) by decide), if_neg (show ¬ ((5 : Nat) = 3) by decide), if_neg (show ¬ ((5 : Nat) = 4) by decide), if_pos (show (5 : Nat) = 5 from rfl)]
set_option maxRecDepth 100000 in
theorem e_285_6 (n dp : Nat) (e : EN) (I : (Nat → Nat → Int32)) (L : (Nat → Nat → Int64)) (i1 : Int32) (i2 : Int32) (i3 : Int32) (i4 : Int32) (i5 : Int32) (i6 : Int32) : g_285 (n + 1) dp e 6 I L i1 i2 i3 i4 i5 i6 = (if i6 < 0 then (if i1 = (-1 : Int32) then (some (i3, I, L)) else (if 0 ≤ i1 ∧ (Int32.toNatClampNeg i1) < 16 then (some ((I 140 (Int32.toNatClampNeg i1)), I, L)) else none)) else (if 0 ≤ i6 ∧ (Int32.toNatClampNeg i6) < 16 then (if (I 138 (Int32.toNatClampNeg i6)) = 0 then (g_285 n dp e 7 I L i1 i2 i3 i4 i5 i6) else (if ¬ (I 107 3) = 0 then (if 0 ≤ i6 ∧ (Int32.toNatClampNeg i6) < 16 then (stI (u2 I 140 (Int32.toNatClampNeg i6) (i5 - i5 / (I 107 3) * (I 107 3))) (fun I_213 => (if ¬ (I_213 107 3) = 0 then (g_285 n dp e 7 I_213 L i1 i2 i3 i4 (i5 / (I_213 107 3)) i6) else none))) else none) else none)) else none)) := by rw [g_285.eq_2, if_neg (show ¬ ((6 : Nat) = 0) by decide), if_neg (show ¬ ((6 : Nat) = 1) by decide), if_neg (show ¬ ((6 : Nat) = 2) by decide), if_neg (show ¬ ((6 : Nat) = 3) by decide), if_neg (show ¬ ((6 : Nat) = 4) by decide), if_neg (show ¬ ((6 : Nat) = 5) by decide), if_pos (show (6 : Nat) = 6 from rfl)]
set_option maxRecDepth 100000 in
theorem e_285_7 (n dp : Nat) (e : EN) (I : (Nat → Nat → Int32)) (L : (Nat → Nat → Int64)) (i1 : Int32) (i2 : Int32) (i3 : Int32) (i4 : Int32) (i5 : Int32) (i6 : Int32) : g_285 (n + 1) dp e 7 I L i1 i2 i3 i4 i5 i6 = (g_285 n dp e 6 I L i1 i2 i3 i4 i5 (i6 + Int32.ofInt (-1))) := by rw [g_285.eq_2, if_neg (show ¬ ((7 : Nat) = 0) by decide), if_neg (show ¬ ((7 : Nat) = 1) by decide), if_neg (show ¬ ((7 : Nat) = 2) by decide), if_neg (show ¬ ((7 : Nat) = 3) by decide), if_neg (show ¬ ((7 : Nat) = 4) by decide), if_neg (show ¬ ((7 : Nat) = 5) by decide), if_neg (show ¬ ((7 : Nat) = 6) by decide), if_pos (show (7 : Nat) = 7 from rfl)]
set_option maxHeartbeats 8000000 in
set_option maxRecDepth 100000 in
theorem w_285 (X : GX) {z : Nat} {kd : Nat → Nat × Nat} {Rf : Nat → Nat → Option Nat} (hS : Sh z kd Rf) : ∀ (n dp d : Nat), dp ≤ d → ∀ (I : (Nat → Nat → Int32)) (L : (Nat → Nat → Int64)) (i1 : Int32) (i2 : Int32) (i3 : Int32) (i4 : Int32) (i5 : Int32) (i6 : Int32) (r : Int32) (I1 : (Nat → Nat → Int32)) (L1 : (Nat → Nat → Int64)), (g_285 n dp (z, kd, Rf) 0 I L i1 i2 i3 i4 i5 i6 = some (r, I1, L1) → K X d 285 0 0 (AI (fun x τ => x = r ∧ τ = (z, kd, I1, L1, Rf))) 0 [some (.ref 105), some (.int i1), none, none, none, none, none] [] (z, kd, I, L, Rf) 0 0) ∧
    (g_285 n dp (z, kd, Rf) 1 I L i1 i2 i3 i4 i5 i6 = some (r, I1, L1) → K X d 285 0 0 (AI (fun x τ => x = r ∧ τ = (z, kd, I1, L1, Rf))) 18 [some (.ref 105), some (.int i1), none, none, none, none, none] [] (z, kd, I, L, Rf) 0 0) ∧
    (g_285 n dp (z, kd, Rf) 2 I L i1 i2 i3 i4 i5 i6 = some (r, I1, L1) → K X d 285 0 0 (AI (fun x τ => x = r ∧ τ = (z, kd, I1, L1, Rf))) 63 [some (.ref 105), some (.int i1), none, none, none, none, none] [] (z, kd, I, L, Rf) 0 0) ∧
    (g_285 n dp (z, kd, Rf) 3 I L i1 i2 i3 i4 i5 i6 = some (r, I1, L1) → K X d 285 0 0 (AI (fun x τ => x = r ∧ τ = (z, kd, I1, L1, Rf))) 81 [some (.ref 105), some (.int i1), none, none, none, none, none] [] (z, kd, I, L, Rf) 0 0) ∧
    (g_285 n dp (z, kd, Rf) 4 I L i1 i2 i3 i4 i5 i6 = some (r, I1, L1) → K X d 285 0 0 (AI (fun x τ => x = r ∧ τ = (z, kd, I1, L1, Rf))) 85 [some (.ref 105), some (.int i1), some (.int i2), some (.int i3), none, none, none] [] (z, kd, I, L, Rf) 0 0) ∧
    (g_285 n dp (z, kd, Rf) 5 I L i1 i2 i3 i4 i5 i6 = some (r, I1, L1) → K X d 285 0 0 (AI (fun x τ => x = r ∧ τ = (z, kd, I1, L1, Rf))) 118 [some (.ref 105), some (.int i1), some (.int i2), some (.int i3), some (.int i4), some (.int i5), none] [] (z, kd, I, L, Rf) 0 0) ∧
    (g_285 n dp (z, kd, Rf) 6 I L i1 i2 i3 i4 i5 i6 = some (r, I1, L1) → K X d 285 0 0 (AI (fun x τ => x = r ∧ τ = (z, kd, I1, L1, Rf))) 183 [some (.ref 105), some (.int i1), some (.int i2), some (.int i3), some (.int i4), some (.int i5), some (.int i6)] [] (z, kd, I, L, Rf) 0 0) ∧
    (g_285 n dp (z, kd, Rf) 7 I L i1 i2 i3 i4 i5 i6 = some (r, I1, L1) → K X d 285 0 0 (AI (fun x τ => x = r ∧ τ = (z, kd, I1, L1, Rf))) 225 [some (.ref 105), some (.int i1), some (.int i2), some (.int i3), some (.int i4), some (.int i5), some (.int i6)] [] (z, kd, I, L, Rf) 0 0) := by
  intro n
  induction n with
  | zero => intro dp d hdp I L i1 i2 i3 i4 i5 i6 r I1 L1; exact ⟨(fun h => by cases h), (fun h => by cases h), (fun h => by cases h), (fun h => by cases h), (fun h => by cases h), (fun h => by cases h), (fun h => by cases h), (fun h => by cases h)⟩
  | succ n ih =>
    intro dp d hdp I L i1 i2 i3 i4 i5 i6 r I1 L1
    refine ⟨?_, ?_, ?_, ?_, ?_, ?_, ?_, ?_⟩
    · intro h
      rw [e_285_0] at h
      refine K_of b_285_0 h_285_0 ?_
      refine q_aload rfl ?_
      refine q_iconst (0) (by decide) ?_
      refine q_putI (c0 := 12) (j := 0) rfl rfl (zl hS 105 (by decide)) (sk hS 105 (by decide) rfl) rfl ?_
      obtain ⟨I_2, nI_2, h⟩ := stI_some h
      refine q_nI nI_2 ?_
      refine q_iload rfl ?_
      refine q_iconst (-1) (by decide) ?_
      refine q_icmp_eq (fun c_7 => ?_) (fun c_7 => ?_)
      · rw [if_pos c_7] at h
        exact (ih dp d hdp _ _ i1 0 0 0 0 0 _ _ _).2.1 h
      · rw [if_neg c_7] at h
        refine q_aload rfl ?_
        refine q_iload rfl ?_
        obtain ⟨d_12, h⟩ := ite_some h
        obtain ⟨⟨x0_12, I0_12, L0_12⟩, e_12, h⟩ := Option.bind_eq_some_iff.mp h
        dsimp only at h
        refine q_fv2I (a_239 X hS (d := d - 1) (by omega) e_12) (by omega) (Nat.le_refl _) (Nat.le_refl _) rfl (Nat.le_of_ble_eq_true rfl) ⟨(zl hS 105 (by decide)), congrArg Prod.fst (sk hS 105 (by decide) rfl), by decide⟩ ?_
        refine q_if_eq (fun c_15 => ?_) (fun c_15 => ?_)
        · rw [if_pos c_15] at h
          refine K_of b_285_25 h_285_25 ?_
          refine q_iconst (-1) (by decide) ?_
          cases h
          exact q_iret rfl (Nat.le_refl _) (Nat.le_refl _) ⟨rfl, rfl⟩
        · rw [if_neg c_15] at h
          refine q_end ?_
          exact (ih dp d hdp _ _ i1 0 0 0 0 0 _ _ _).2.1 h
    · intro h
      rw [e_285_1] at h
      refine K_of b_285_18 h_285_18 ?_
      refine q_aload rfl ?_
      obtain ⟨d_19, h⟩ := ite_some h
      obtain ⟨⟨x0_19, I0_19, L0_19⟩, e_19, h⟩ := Option.bind_eq_some_iff.mp h
      dsimp only at h
      refine q_fv1I (a_261 X hS (d := d - 1) (by omega) e_19) (by omega) (Nat.le_refl _) (Nat.le_refl _) rfl (Nat.le_of_ble_eq_true rfl) ⟨(zl hS 105 (by decide)), congrArg Prod.fst (sk hS 105 (by decide) rfl), by decide⟩ ?_
      refine q_if_ne (fun c_22 => ?_) (fun c_22 => ?_)
      · rw [if_neg c_22] at h
        refine K_of b_285_27 h_285_27 ?_
        refine q_aload rfl ?_
        obtain ⟨d_28, h⟩ := ite_some h
        obtain ⟨⟨I1_28, L1_28⟩, e_28, h⟩ := Option.bind_eq_some_iff.mp h
        dsimp only at h
        refine q_fv1V (a_283 X hS (d := d - 1) (by omega) e_28) (by omega) (Nat.le_refl _) (Nat.le_refl _) rfl (Nat.le_of_ble_eq_true rfl) ⟨(zl hS 105 (by decide)), congrArg Prod.fst (sk hS 105 (by decide) rfl), by decide⟩ ?_
        refine q_aload rfl ?_
        refine q_getI (c0 := 12) (j := 60) rfl rfl (zl hS 105 (by decide)) (sk hS 105 (by decide) rfl) (Or.inl rfl) (by decide) ?_
        refine q_iconst (10) (by decide) ?_
        refine q_icmp_gt (fun c_37 => ?_) (fun c_37 => ?_)
        · rw [if_pos c_37] at h
          refine K_of b_285_79 h_285_79 ?_
          refine q_iconst (-1) (by decide) ?_
          cases h
          exact q_iret rfl (Nat.le_refl _) (Nat.le_refl _) ⟨rfl, rfl⟩
        · rw [if_neg c_37] at h
          refine q_iload rfl ?_
          refine q_iconst (-1) (by decide) ?_
          refine q_icmp_eq (fun c_42 => ?_) (fun c_42 => ?_)
          · rw [if_pos c_42] at h
            exact (ih dp d hdp _ _ i1 0 0 0 0 0 _ _ _).2.2.1 h
          · rw [if_neg c_42] at h
            refine q_aload rfl ?_
            refine q_getRs (c0 := 12) (j := 59) rfl rfl (zl hS 105 (by decide)) (sk hS 105 (by decide) rfl) rfl (by decide) (r_105_59 hS) ?_
            refine q_iload rfl ?_
            refine q_iconst (-1) (by decide) ?_
            refine q_icmp_ne (fun c_51 => ?_) (fun c_51 => ?_)
            · rw [if_neg c_51] at h
              refine K_of b_285_58 h_285_58 ?_
              refine q_iload rfl ?_
              refine q_end ?_
              refine K_of b_285_59 h_285_59 ?_
              obtain ⟨⟨u_59, v_59⟩, h⟩ := ite_some h
              refine q_zalN (Int32.toNatClampNeg i1) (nx u_59) (zl hS 138 (by decide)) (sk hS 138 (by decide) rfl) v_59 (by decide) ?_
              refine q_if_eq (fun c_60 => ?_) (fun c_60 => ?_)
              · rw [if_pos c_60] at h
                refine K_of b_285_79 h_285_79 ?_
                refine q_iconst (-1) (by decide) ?_
                cases h
                exact q_iret rfl (Nat.le_refl _) (Nat.le_refl _) ⟨rfl, rfl⟩
              · rw [if_neg c_60] at h
                refine q_end ?_
                exact (ih dp d hdp _ _ i1 0 0 0 0 0 _ _ _).2.2.1 h
            · rw [if_pos c_51] at h
              refine q_iconst (0) (by decide) ?_
              refine q_goto ?_
              refine K_of b_285_59 h_285_59 ?_
              refine q_zalN (0) rfl (zl hS 138 (by decide)) (sk hS 138 (by decide) rfl) (by decide) (by decide) ?_
              refine q_if_eq (fun c_60 => ?_) (fun c_60 => ?_)
              · rw [if_pos c_60] at h
                refine K_of b_285_79 h_285_79 ?_
                refine q_iconst (-1) (by decide) ?_
                cases h
                exact q_iret rfl (Nat.le_refl _) (Nat.le_refl _) ⟨rfl, rfl⟩
              · rw [if_neg c_60] at h
                refine q_end ?_
                exact (ih dp d hdp _ _ i1 0 0 0 0 0 _ _ _).2.2.1 h
      · rw [if_pos c_22] at h
        refine q_end ?_
        refine K_of b_285_25 h_285_25 ?_
        refine q_iconst (-1) (by decide) ?_
        cases h
        exact q_iret rfl (Nat.le_refl _) (Nat.le_refl _) ⟨rfl, rfl⟩
    · intro h
      rw [e_285_2] at h
      refine K_of b_285_63 h_285_63 ?_
      refine q_aload rfl ?_
      refine q_getI (c0 := 12) (j := 60) rfl rfl (zl hS 105 (by decide)) (sk hS 105 (by decide) rfl) (Or.inl rfl) (by decide) ?_
      refine q_if_le (fun c_67 => ?_) (fun c_67 => ?_)
      · rw [if_pos c_67] at h
        exact (ih dp d hdp _ _ i1 0 0 0 0 0 _ _ _).2.2.2.1 h
      · rw [if_neg c_67] at h
        refine q_aload rfl ?_
        refine q_getRs (c0 := 12) (j := 3) rfl rfl (zl hS 105 (by decide)) (sk hS 105 (by decide) rfl) rfl (by decide) (r_105_3 hS) ?_
        refine q_iconst (3) (by decide) ?_
        refine q_ialN (3) rfl (zl hS 107 (by decide)) (sk hS 107 (by decide) rfl) (by decide) (by decide) ?_
        refine q_if_ne (fun c_76 => ?_) (fun c_76 => ?_)
        · rw [if_neg c_76] at h
          exact (ih dp d hdp _ _ i1 0 0 0 0 0 _ _ _).2.2.2.1 h
        · rw [if_pos c_76] at h
          refine q_end ?_
          refine K_of b_285_79 h_285_79 ?_
          refine q_iconst (-1) (by decide) ?_
          cases h
          exact q_iret rfl (Nat.le_refl _) (Nat.le_refl _) ⟨rfl, rfl⟩
    · intro h
      rw [e_285_3] at h
      refine K_of b_285_81 h_285_81 ?_
      refine q_iconst (1) (by decide) ?_
      refine q_istore (ls1 := [some (.ref 105), some (.int i1), some (.int (1 : Int32)), none, none, none, none]) (Nat.le_of_ble_eq_true rfl) rfl ?_
      refine q_iconst (0) (by decide) ?_
      refine q_istore (ls1 := [some (.ref 105), some (.int i1), some (.int (1 : Int32)), some (.int (0 : Int32)), none, none, none]) (Nat.le_of_ble_eq_true rfl) rfl ?_
      refine q_end ?_
      exact (ih dp d hdp _ _ i1 (1 : Int32) (0 : Int32) 0 0 0 _ _ _).2.2.2.2.1 h
    · intro h
      rw [e_285_4] at h
      refine K_of b_285_85 h_285_85 ?_
      refine q_iload rfl ?_
      refine q_aload rfl ?_
      refine q_getI (c0 := 12) (j := 60) rfl rfl (zl hS 105 (by decide)) (sk hS 105 (by decide) rfl) (Or.inl rfl) (by decide) ?_
      refine q_icmp_ge (fun c_90 => ?_) (fun c_90 => ?_)
      · rw [if_pos c_90] at h
        refine K_of b_285_108 h_285_108 ?_
        refine q_iconst (1000000000) (by decide) ?_
        refine q_istore (ls1 := [some (.ref 105), some (.int i1), some (.int i2), some (.int (1000000000 : Int32)), none, none, none]) (Nat.le_of_ble_eq_true rfl) rfl ?_
        refine q_iconst (0) (by decide) ?_
        refine q_istore (ls1 := [some (.ref 105), some (.int i1), some (.int i2), some (.int (1000000000 : Int32)), some (.int (0 : Int32)), none, none]) (Nat.le_of_ble_eq_true rfl) rfl ?_
        refine q_iconst (0) (by decide) ?_
        refine q_istore (ls1 := [some (.ref 105), some (.int i1), some (.int i2), some (.int (1000000000 : Int32)), some (.int (0 : Int32)), some (.int (0 : Int32)), none]) (Nat.le_of_ble_eq_true rfl) rfl ?_
        refine q_end ?_
        exact (ih dp d hdp _ _ i1 i2 (1000000000 : Int32) (0 : Int32) (0 : Int32) 0 _ _ _).2.2.2.2.2.1 h
      · rw [if_neg c_90] at h
        refine q_iload rfl ?_
        refine q_aload rfl ?_
        refine q_getRs (c0 := 12) (j := 3) rfl rfl (zl hS 105 (by decide)) (sk hS 105 (by decide) rfl) rfl (by decide) (r_105_3 hS) ?_
        refine q_iconst (3) (by decide) ?_
        refine q_ialN (3) rfl (zl hS 107 (by decide)) (sk hS 107 (by decide) rfl) (by decide) (by decide) ?_
        refine q_imul ?_
        refine q_istore (ls1 := [some (.ref 105), some (.int i1), some (.int (i2 * (I 107 3))), some (.int i3), none, none, none]) (Nat.le_of_ble_eq_true rfl) rfl ?_
        refine q_iinc (ls1 := [some (.ref 105), some (.int i1), some (.int (i2 * (I 107 3))), some (.int (i3 + Int32.ofInt (1))), none, none, none]) rfl rfl ?_
        refine q_goto ?_
        exact (ih dp d hdp _ _ i1 (i2 * (I 107 3)) (i3 + Int32.ofInt (1)) 0 0 0 _ _ _).2.2.2.2.1 h
    · intro h
      rw [e_285_5] at h
      refine K_of b_285_118 h_285_118 ?_
      refine q_iload rfl ?_
      refine q_iload rfl ?_
      refine q_icmp_ge (fun c_121 => ?_) (fun c_121 => ?_)
      · rw [if_pos c_121] at h
        refine K_of b_285_166 h_285_166 ?_
        refine q_iload rfl ?_
        refine q_iconst (1000000000) (by decide) ?_
        refine q_icmp_ne (fun c_170 => ?_) (fun c_170 => ?_)
        · rw [if_neg c_170] at h
          refine K_of b_285_175 h_285_175 ?_
          refine q_iload rfl ?_
          refine q_istore (ls1 := [some (.ref 105), some (.int i1), some (.int i2), some (.int i3), some (.int i4), some (.int i4), none]) (Nat.le_of_ble_eq_true rfl) rfl ?_
          refine q_iconst (15) (by decide) ?_
          refine q_istore (ls1 := [some (.ref 105), some (.int i1), some (.int i2), some (.int i3), some (.int i4), some (.int i4), some (.int (15 : Int32))]) (Nat.le_of_ble_eq_true rfl) rfl ?_
          refine q_end ?_
          exact (ih dp d hdp _ _ i1 i2 i3 i4 i4 (15 : Int32) _ _ _).2.2.2.2.2.2.1 h
        · rw [if_pos c_170] at h
          refine q_iconst (-1) (by decide) ?_
          cases h
          exact q_iret rfl (Nat.le_refl _) (Nat.le_refl _) ⟨rfl, rfl⟩
      · rw [if_neg c_121] at h
        refine q_aload rfl ?_
        refine q_iload rfl ?_
        obtain ⟨d_127, h⟩ := ite_some h
        obtain ⟨⟨x0_127, I0_127, L0_127⟩, e_127, h⟩ := Option.bind_eq_some_iff.mp h
        dsimp only at h
        refine q_fv2I (a_286 X hS (d := d - 1) (by omega) e_127) (by omega) (Nat.le_refl _) (Nat.le_refl _) rfl (Nat.le_of_ble_eq_true rfl) ⟨(zl hS 105 (by decide)), congrArg Prod.fst (sk hS 105 (by decide) rfl), by decide⟩ ?_
        refine q_istore (ls1 := [some (.ref 105), some (.int i1), some (.int i2), some (.int i3), some (.int i4), some (.int i5), some (.int x0_127)]) (Nat.le_of_ble_eq_true rfl) rfl ?_
        refine q_iload rfl ?_
        refine q_iload rfl ?_
        refine q_icmp_ge (fun c_135 => ?_) (fun c_135 => ?_)
        · rw [if_pos c_135] at h
          refine K_of b_285_143 h_285_143 ?_
          refine q_iload rfl ?_
          refine q_end ?_
          refine K_of b_285_145 h_285_145 ?_
          refine q_istore (ls1 := [some (.ref 105), some (.int i1), some (.int i2), some (.int i3), some (.int i4), some (.int i5), some (.int x0_127)]) (Nat.le_of_ble_eq_true rfl) rfl ?_
          refine q_iload rfl ?_
          refine q_iload rfl ?_
          refine q_icmp_ge (fun c_150 => ?_) (fun c_150 => ?_)
          · rw [if_pos c_150] at h
            refine K_of b_285_158 h_285_158 ?_
            refine q_iload rfl ?_
            refine q_end ?_
            refine K_of b_285_159 h_285_159 ?_
            refine q_istore (ls1 := [some (.ref 105), some (.int i1), some (.int i2), some (.int i3), some (.int i4), some (.int i5), some (.int x0_127)]) (Nat.le_of_ble_eq_true rfl) rfl ?_
            refine q_iinc (ls1 := [some (.ref 105), some (.int i1), some (.int i2), some (.int i3), some (.int i4), some (.int (i5 + Int32.ofInt (1))), some (.int x0_127)]) rfl rfl ?_
            refine q_goto ?_
            refine K_mask [true, true, true, true, true, true, false] (Nat.le_of_ble_eq_true rfl) ?_
            exact (ih dp d hdp _ _ i1 i2 i3 i4 (i5 + Int32.ofInt (1)) 0 _ _ _).2.2.2.2.2.1 h
          · rw [if_neg c_150] at h
            refine q_iload rfl ?_
            refine q_goto ?_
            refine K_of b_285_159 h_285_159 ?_
            refine q_istore (ls1 := [some (.ref 105), some (.int i1), some (.int i2), some (.int x0_127), some (.int i4), some (.int i5), some (.int x0_127)]) (Nat.le_of_ble_eq_true rfl) rfl ?_
            refine q_iinc (ls1 := [some (.ref 105), some (.int i1), some (.int i2), some (.int x0_127), some (.int i4), some (.int (i5 + Int32.ofInt (1))), some (.int x0_127)]) rfl rfl ?_
            refine q_goto ?_
            refine K_mask [true, true, true, true, true, true, false] (Nat.le_of_ble_eq_true rfl) ?_
            exact (ih dp d hdp _ _ i1 i2 x0_127 i4 (i5 + Int32.ofInt (1)) 0 _ _ _).2.2.2.2.2.1 h
        · rw [if_neg c_135] at h
          refine q_iload rfl ?_
          refine q_goto ?_
          refine K_of b_285_145 h_285_145 ?_
          refine q_istore (ls1 := [some (.ref 105), some (.int i1), some (.int i2), some (.int i3), some (.int i5), some (.int i5), some (.int x0_127)]) (Nat.le_of_ble_eq_true rfl) rfl ?_
          refine q_iload rfl ?_
          refine q_iload rfl ?_
          refine q_icmp_ge (fun c_150 => ?_) (fun c_150 => ?_)
          · rw [if_pos c_150] at h
            refine K_of b_285_158 h_285_158 ?_
            refine q_iload rfl ?_
            refine q_end ?_
            refine K_of b_285_159 h_285_159 ?_
            refine q_istore (ls1 := [some (.ref 105), some (.int i1), some (.int i2), some (.int i3), some (.int i5), some (.int i5), some (.int x0_127)]) (Nat.le_of_ble_eq_true rfl) rfl ?_
            refine q_iinc (ls1 := [some (.ref 105), some (.int i1), some (.int i2), some (.int i3), some (.int i5), some (.int (i5 + Int32.ofInt (1))), some (.int x0_127)]) rfl rfl ?_
            refine q_goto ?_
            refine K_mask [true, true, true, true, true, true, false] (Nat.le_of_ble_eq_true rfl) ?_
            exact (ih dp d hdp _ _ i1 i2 i3 i5 (i5 + Int32.ofInt (1)) 0 _ _ _).2.2.2.2.2.1 h
          · rw [if_neg c_150] at h
            refine q_iload rfl ?_
            refine q_goto ?_
            refine K_of b_285_159 h_285_159 ?_
            refine q_istore (ls1 := [some (.ref 105), some (.int i1), some (.int i2), some (.int x0_127), some (.int i5), some (.int i5), some (.int x0_127)]) (Nat.le_of_ble_eq_true rfl) rfl ?_
            refine q_iinc (ls1 := [some (.ref 105), some (.int i1), some (.int i2), some (.int x0_127), some (.int i5), some (.int (i5 + Int32.ofInt (1))), some (.int x0_127)]) rfl rfl ?_
            refine q_goto ?_
            refine K_mask [true, true, true, true, true, true, false] (Nat.le_of_ble_eq_true rfl) ?_
            exact (ih dp d hdp _ _ i1 i2 x0_127 i5 (i5 + Int32.ofInt (1)) 0 _ _ _).2.2.2.2.2.1 h
    · intro h
      rw [e_285_6] at h
      refine K_of b_285_183 h_285_183 ?_
      refine q_iload rfl ?_
      refine q_if_lt (fun c_185 => ?_) (fun c_185 => ?_)
      · rw [if_pos c_185] at h
        refine K_of b_285_231 h_285_231 ?_
        refine q_iload rfl ?_
        refine q_iconst (-1) (by decide) ?_
        refine q_icmp_ne (fun c_233 => ?_) (fun c_233 => ?_)
        · rw [if_neg c_233] at h
          refine K_of b_285_240 h_285_240 ?_
          refine q_aload rfl ?_
          refine q_getRs (c0 := 12) (j := 62) rfl rfl (zl hS 105 (by decide)) (sk hS 105 (by decide) rfl) rfl (by decide) (r_105_62 hS) ?_
          refine q_iload rfl ?_
          obtain ⟨⟨u_245, v_245⟩, h⟩ := ite_some h
          refine q_ialN (Int32.toNatClampNeg i1) (nx u_245) (zl hS 140 (by decide)) (sk hS 140 (by decide) rfl) v_245 (by decide) ?_
          refine q_end ?_
          refine K_of b_285_246 h_285_246 ?_
          cases h
          exact q_iret rfl (Nat.le_refl _) (Nat.le_refl _) ⟨rfl, rfl⟩
        · rw [if_pos c_233] at h
          refine q_iload rfl ?_
          refine q_goto ?_
          refine K_of b_285_246 h_285_246 ?_
          cases h
          exact q_iret rfl (Nat.le_refl _) (Nat.le_refl _) ⟨rfl, rfl⟩
      · rw [if_neg c_185] at h
        refine q_aload rfl ?_
        refine q_getRs (c0 := 12) (j := 59) rfl rfl (zl hS 105 (by decide)) (sk hS 105 (by decide) rfl) rfl (by decide) (r_105_59 hS) ?_
        refine q_iload rfl ?_
        obtain ⟨⟨u_194, v_194⟩, h⟩ := ite_some h
        refine q_zalN (Int32.toNatClampNeg i6) (nx u_194) (zl hS 138 (by decide)) (sk hS 138 (by decide) rfl) v_194 (by decide) ?_
        refine q_if_eq (fun c_195 => ?_) (fun c_195 => ?_)
        · rw [if_pos c_195] at h
          exact (ih dp d hdp _ _ i1 i2 i3 i4 i5 i6 _ _ _).2.2.2.2.2.2.2 h
        · rw [if_neg c_195] at h
          refine q_aload rfl ?_
          refine q_getRs (c0 := 12) (j := 62) rfl rfl (zl hS 105 (by decide)) (sk hS 105 (by decide) rfl) rfl (by decide) (r_105_62 hS) ?_
          refine q_iload rfl ?_
          refine q_iload rfl ?_
          refine q_aload rfl ?_
          refine q_getRs (c0 := 12) (j := 3) rfl rfl (zl hS 105 (by decide)) (sk hS 105 (by decide) rfl) rfl (by decide) (r_105_3 hS) ?_
          refine q_iconst (3) (by decide) ?_
          refine q_ialN (3) rfl (zl hS 107 (by decide)) (sk hS 107 (by decide) rfl) (by decide) (by decide) ?_
          obtain ⟨d_212, h⟩ := ite_some h
          refine q_irem d_212 ?_
          obtain ⟨⟨u_213, v_213⟩, h⟩ := ite_some h
          refine q_iasN (Int32.toNatClampNeg i6) (nx u_213) (zl hS 140 (by decide)) (sk hS 140 (by decide) rfl) v_213 (by decide) ?_
          obtain ⟨I_213, nI_213, h⟩ := stI_some h
          refine q_nI nI_213 ?_
          refine q_iload rfl ?_
          refine q_aload rfl ?_
          refine q_getRs (c0 := 12) (j := 3) rfl rfl (zl hS 105 (by decide)) (sk hS 105 (by decide) rfl) rfl (by decide) (r_105_3 hS) ?_
          refine q_iconst (3) (by decide) ?_
          refine q_ialN (3) rfl (zl hS 107 (by decide)) (sk hS 107 (by decide) rfl) (by decide) (by decide) ?_
          obtain ⟨d_222, h⟩ := ite_some h
          refine q_idiv d_222 ?_
          refine q_istore (ls1 := [some (.ref 105), some (.int i1), some (.int i2), some (.int i3), some (.int i4), some (.int (i5 / (I_213 107 3))), some (.int i6)]) (Nat.le_of_ble_eq_true rfl) rfl ?_
          refine q_end ?_
          exact (ih dp d hdp _ _ i1 i2 i3 i4 (i5 / (I_213 107 3)) i6 _ _ _).2.2.2.2.2.2.2 h
    · intro h
      rw [e_285_7] at h
      refine K_of b_285_225 h_285_225 ?_
      refine q_iinc (ls1 := [some (.ref 105), some (.int i1), some (.int i2), some (.int i3), some (.int i4), some (.int i5), some (.int (i6 + Int32.ofInt (-1)))]) rfl rfl ?_
      refine q_goto ?_
      exact (ih dp d hdp _ _ i1 i2 i3 i4 i5 (i6 + Int32.ofInt (-1)) _ _ _).2.2.2.2.2.2.1 h
theorem a_285 (X : GX) {z : Nat} {kd : Nat → Nat × Nat} {Rf : Nat → Nat → Option Nat} (hS : Sh z kd Rf) {n dp d : Nat} (hd : dp ≤ d) {I : (Nat → Nat → Int32)} {L : (Nat → Nat → Int64)} {i1 : Int32} {I1 : (Nat → Nat → Int32)} {L1 : (Nat → Nat → Int64)} {r : Int32} (h : g_285 n dp (z, kd, Rf) 0 I L i1 0 0 0 0 0 = some (r, I1, L1)) : Ct X d 285 0 0 [.ref 105, .int i1] (z, kd, I, L, Rf) (AI (fun x τ => x = r ∧ τ = (z, kd, I1, L1, Rf))) :=
  Ct_of mu_285 (Nat.le_of_ble_eq_true rfl) ((w_285 X hS n dp d hd I L i1 0 0 0 0 0 _ _ _).1 h)

