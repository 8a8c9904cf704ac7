/-! 99 CutFloor$Offers.group(LCutFloor$Hall;ILCutFloor$Cuttings;)V -/
def g_99 : Nat → Nat → EN → Nat → (Nat → Nat → Int32) → (Nat → Nat → Int64) → Int32 → Int32 → Int32 → Int32 → Int32 → Int32 → Int32 → Nat →  Option ((Nat → Nat → Int32) × (Nat → Nat → Int64))
  | 0, _, _, _, _, _, _, _, _, _, _, _, _, _ => none
  | n + 1, dp, e, lab, I, L, i2, i4, i5, i6, i7, i8, i9, a3 =>
    if lab = 0 then (g_99 n dp e 1 I L i2 (i2 * (64 : Int32)) (0 : Int32) 0 0 0 0 a3)
    else if lab = 1 then (if a3 < e.1 ∧ (e.2.1 a3).1 = 2 then (if (I a3 4) ≤ i5 then (some (I, L)) else (if 1 ≤ dp then (g_100 n (dp - 1) e 0 I L i5 0 0 a3).bind (fun ⟨x0_22, I0_22, L0_22⟩ => (if 1 ≤ dp then (g_101 n (dp - 1) e 0 I0_22 L0_22 i5 0 0 a3).bind (fun ⟨x1_31, I1_31, L1_31⟩ => (if 0 ≤ i2 ∧ (Int32.toNatClampNeg i2) < 3 then (if 1 ≤ dp then (g_102 n (dp - 1) e 0 I1_31 L1_31 x0_22 0 0).bind (fun ⟨x2_52, I2_52, L2_52⟩ => (if 1 ≤ dp then (if 0 ≤ i2 ∧ (Int32.toNatClampNeg i2) < 3 then (stI (u2 I2_52 33 (Int32.toNatClampNeg i2) (if (I1_31 33 (Int32.toNatClampNeg i2)) < (x1_31 + x2_52) then (x1_31 + x2_52) else (I1_31 33 (Int32.toNatClampNeg i2)))) (fun I_59 => (if 0 ≤ i2 ∧ (Int32.toNatClampNeg i2) < 3 then (stI (i4 + (I_59 32 (Int32.toNatClampNeg i2))) (fun v_73 => (g_99 n dp e 2 I_59 L2_52 i2 i4 i5 x0_22 x1_31 i4 v_73 a3))) else none))) else none) else none)) else none) else none)) else none)) else none)) else none)
    else if lab = 2 then (if i9 ≤ i8 then (g_99 n dp e 3 I L i2 i4 i5 i6 i7 i8 i9 a3) else (if 0 ≤ i8 ∧ (Int32.toNatClampNeg i8) < 192 then (if (I 27 (Int32.toNatClampNeg i8)) = i6 then (g_99 n dp e 3 I L i2 i4 i5 i6 i7 i8 i9 a3) else (g_99 n dp e 2 I L i2 i4 i5 i6 i7 (i8 + Int32.ofInt (1)) i9 a3)) else none))
    else if lab = 3 then (if 0 ≤ (i4 + i5) ∧ (Int32.toNatClampNeg (i4 + i5)) < 192 then (stI (u2 I 31 (Int32.toNatClampNeg (i4 + i5)) i8) (fun I_111 => (if i8 = i9 then (if 0 ≤ i2 ∧ (Int32.toNatClampNeg i2) < 3 then (if 0 ≤ i2 ∧ (Int32.toNatClampNeg i2) < 3 then (stI (u2 I_111 32 (Int32.toNatClampNeg i2) ((I_111 32 (Int32.toNatClampNeg i2)) + (1 : Int32))) (fun I_128 => (if 0 ≤ i8 ∧ (Int32.toNatClampNeg i8) < 192 then (stI (u2 I_128 27 (Int32.toNatClampNeg i8) i6) (fun I_137 => (g_99 n dp e 4 I_137 L i2 i4 i5 i6 i7 i8 i9 a3))) else none))) else none) else none) else (g_99 n dp e 4 I_111 L i2 i4 i5 i6 i7 i8 i9 a3)))) else none)
    else if lab = 4 then (if i8 = i9 then (g_99 n dp e 5 I L i2 i4 i5 i6 i7 i8 i9 a3) else (if 0 ≤ i8 ∧ (Int32.toNatClampNeg i8) < 192 then (if i7 ≤ (I 28 (Int32.toNatClampNeg i8)) then (if 0 ≤ i8 ∧ (Int32.toNatClampNeg i8) < 192 then (if i7 = (I 28 (Int32.toNatClampNeg i8)) then (if 0 ≤ i8 ∧ (Int32.toNatClampNeg i8) < 192 then (if 0 ≤ i8 ∧ (Int32.toNatClampNeg i8) < 192 then (stI (u2 I 29 (Int32.toNatClampNeg i8) ((I 29 (Int32.toNatClampNeg i8)) + (1 : Int32))) (fun I_208 => (g_99 n dp e 6 I_208 L i2 i4 i5 i6 i7 i8 i9 a3))) else none) else none) else (g_99 n dp e 6 I L i2 i4 i5 i6 i7 i8 i9 a3)) else none) else (g_99 n dp e 5 I L i2 i4 i5 i6 i7 i8 i9 a3)) else none))
    else if lab = 5 then (if 0 ≤ i8 ∧ (Int32.toNatClampNeg i8) < 192 then (stI (u2 I 28 (Int32.toNatClampNeg i8) i7) (fun I_165 => (if 0 ≤ i8 ∧ (Int32.toNatClampNeg i8) < 192 then (stI (u2 I_165 29 (Int32.toNatClampNeg i8) (1 : Int32)) (fun I_173 => (if 0 ≤ i8 ∧ (Int32.toNatClampNeg i8) < 192 then (stI (u2 I_173 30 (Int32.toNatClampNeg i8) i5) (fun I_182 => (g_99 n dp e 6 I_182 L i2 i4 i5 i6 i7 i8 i9 a3))) else none))) else none))) else none)
    else if lab = 6 then (g_99 n dp e 1 I L i2 i4 (i5 + Int32.ofInt (1)) 0 0 0 0 a3)
    else none
set_option maxRecDepth 100000 in
theorem e_99_0 (n dp : Nat) (e : EN) (I : (Nat → Nat → Int32)) (L : (Nat → Nat → Int64)) (i2 : Int32) (i4 : Int32) (i5 : Int32) (i6 : Int32) (i7 : Int32) (i8 : Int32) (i9 : Int32) (a3 : Nat) : g_99 (n + 1) dp e 0 I L i2 i4 i5 i6 i7 i8 i9 a3 = (g_99 n dp e 1 I L i2 (i2 * (64 : Int32)) (0 : Int32) 0 0 0 0 a3) := by rw [g_99.eq_2, if_pos (show (0 : Nat) = 0 from rfl)]
set_option maxRecDepth 100000 in
theorem e_99_1 (n dp : Nat) (e : EN) (I : (Nat → Nat → Int32)) (L : (Nat → Nat → Int64)) (i2 : Int32) (i4 : Int32) (i5 : Int32) (i6 : Int32) (i7 : Int32) (i8 : Int32) (i9 : Int32) (a3 : Nat) : g_99 (n + 1) dp e 1 I L i2 i4 i5 i6 i7 i8 i9 a3 = (if a3 < e.1 ∧ (e.2.1 a3).1 = 2 then (if (I a3 4) ≤ i5 then (some (I, L)) else (if 1 ≤ dp then (g_100 n (dp - 1) e 0 I L i5 0 0 a3).bind (fun ⟨x0_22, I0_22, L0_22⟩ => (if 1 ≤ dp then (g_101 n (dp - 1) e 0 I0_22 L0_22 i5 0 0 a3).bind (fun ⟨x1_31, I1_31, L1_31⟩ => (if 0 ≤ i2 ∧ (Int32.toNatClampNeg i2) < 3 then (if 1 ≤ dp then (g_102 n (dp - 1) e 0 I1_31 L1_31 x0_22 0 0).bind (fun ⟨x2_52, I2_52, L2_52⟩ => (if 1 ≤ dp then (if 0 ≤ i2 ∧ (Int32.toNatClampNeg i2) < 3 then (stI (u2 I2_52 33 (Int32.toNatClampNeg i2) (if (I1_31 33 (Int32.toNatClampNeg i2)) < (x1_31 + x2_52) then (x1_31 + x2_52) else (I1_31 33 (Int32.toNatClampNeg i2)))) (fun I_59 => (if 0 ≤ i2 ∧ (Int32.toNatClampNeg i2) < 3 then (stI (i4 + (I_59 32 (Int32.toNatClampNeg i2))) (fun v_73 => (g_99 n dp e 2 I_59 L2_52 i2 i4 i5 x0_22 x1_31 i4 v_73 a3))) else none))) else none) else none)) else none) else none)) else none)) else none)) else none) := by rw [g_99.eq_2, if_neg (show ¬ ((1 : Nat) = 0) by decide), if_pos (show (1 : Nat) = 1 from rfl)]
set_option maxRecDepth 100000 in
theorem e_99_2 (n dp : Nat) (e : EN) (I : (Nat → Nat → Int32)) (L : (Nat → Nat → Int64)) (i2 : Int32) (i4 : Int32) (i5 : Int32) (i6 : Int32) (i7 : Int32) (i8 : Int32) (i9 : Int32) (a3 : Nat) : g_99 (n + 1) dp e 2 I L i2 i4 i5 i6 i7 i8 i9 a3 = (if i9 ≤ i8 then (g_99 n dp e 3 I L i2 i4 i5 i6 i7 i8 i9 a3) else (if 0 ≤ i8 ∧ (Int32.toNatClampNeg i8) < 192 then (if (I 27 (Int32.toNatClampNeg i8)) = i6 then (g_99 n dp e 3 I L i2 i4 i5 i6 i7 i8 i9 a3) else (g_99 n dp e 2 I L i2 i4 i5 i6 i7 (i8 + Int32.ofInt (1)) i9 a3)) else none)) := by rw [g_99.eq_2, if_neg (show ¬ ((2 : Nat) = 0) by decide), if_neg (show ¬ ((2 : Nat) = 1) by decide), if_pos (show (2 : Nat) = 2 from rfl)]
set_option maxRecDepth 100000 in
theorem e_99_3 (n dp : Nat) (e : EN) (I : (Nat → Nat → Int32)) (L : (Nat → Nat → Int64)) (i2 : Int32) (i4 : Int32) (i5 : Int32) (i6 : Int32) (i7 : Int32) (i8 : Int32) (i9 : Int32) (a3 : Nat) : g_99 (n + 1) dp e 3 I L i2 i4 i5 i6 i7 i8 i9 a3 = (if 0 ≤ (i4 + i5) ∧ (Int32.toNatClampNeg (i4 + i5)) < 192 then (stI (u2 I 31 (Int32.toNatClampNeg (i4 + i5)) i8) (fun I_111 => (if i8 = i9 then (if 0 ≤ i2 ∧ (Int32.toNatClampNeg i2) < 3 then (if 0 ≤ i2 ∧ (Int32.toNatClampNeg i2) < 3 then (stI (u2 I_111 32 (Int32.toNatClampNeg i2) ((I_111 32 (Int32.toNatClampNeg i2)) + (1 : Int32))) (fun I_128 => (if 0 ≤ i8 ∧ (Int32.toNatClampNeg i8) < 192 then (stI (u2 I_128 27 (Int32.toNatClampNeg i8) i6) (fun I_137 => (g_99 n dp e 4 I_137 L i2 i4 i5 i6 i7 i8 i9 a3))) else none))) else none) else none) else (g_99 n dp e 4 I_111 L i2 i4 i5 i6 i7 i8 i9 a3)))) else none) := by rw [g_99.eq_2, if_neg (show ¬ ((3 : Nat) = 0) by decide), if_neg (show ¬ ((3 : Nat) = 1) by decide), if_neg (show ¬ ((3 : Nat) = 2) by decide), if_pos (show (3 : Nat) = 3 from rfl)]
set_option maxRecDepth 100000 in
theorem e_99_4 (n dp : Nat) (e : EN) (I : (Nat → Nat → Int32)) (L : (Nat → Nat → Int64)) (i2 : Int32) (i4 : Int32) (i5 : Int32) (i6 : Int32) (i7 : Int32) (i8 : Int32) (i9 : Int32) (a3 : Nat) : g_99 (n + 1) dp e 4 I L i2 i4 i5 i6 i7 i8 i9 a3 = (if i8 = i9 then (g_99 n dp e 5 I L i2 i4 i5 i6 i7 i8 i9 a3) else (if 0 ≤ i8 ∧ (Int32.toNatClampNeg i8) < 192 then (if i7 ≤ (I 28 (Int32.toNatClampNeg i8)) then (if 0 ≤ i8 ∧ (Int32.toNatClampNeg i8) < 192 then (if i7 = (I 28 (Int32.toNatClampNeg i8)) then (if 0 ≤ i8 ∧ (Int32.toNatClampNeg i8) < 192 then (if 0 ≤ i8 ∧ (Int32.toNatClampNeg i8) < 192 then (stI (u2 I 29 (Int32.toNatClampNeg i8) ((I 29 (Int32.toNatClampNeg i8)) + (1 : Int32))) (fun I_208 => (g_99 n dp e 6 I_208 L i2 i4 i5 i6 i7 i8 i9 a3))) else none) else none) else (g_99 n dp e 6 I L i2 i4 i5 i6 i7 i8 i9 a3)) else none) else (g_99 n dp e 5 I L i2 i4 i5 i6 i7 i8 i9 a3)) else none)) := by rw [g_99.eq_2, if_neg (show ¬ ((4 : Nat) = 0) by decide), if_neg (show ¬ ((4 : Nat) = 1) by decide), if_neg (show ¬ ((4 : Nat) = 2) by decide), if_neg (show ¬ ((4 : Nat) = 3) by decide), if_pos (show (4 : Nat) = 4 from rfl)]
set_option maxRecDepth 100000 in
theorem e_99_5 (n dp : Nat) (e : EN) (I : (Nat → Nat → Int32)) (L : (Nat → Nat → Int64)) (i2 : Int32) (i4 : Int32) (i5 : Int32) (i6 : Int32) (i7 : Int32) (i8 : Int32) (i9 : Int32) (a3 : Nat) : g_99 (n + 1) dp e 5 I L i2 i4 i5 i6 i7 i8 i9 a3 = (if 0 ≤ i8 ∧ (Int32.toNatClampNeg i8) < 192 then (stI (u2 I 28 (Int32.toNatClampNeg i8) i7) (fun I_165 => (if 0 ≤ i8 ∧ (Int32.toNatClampNeg i8) < 192 then (stI (u2 I_165 29 (Int32.toNatClampNeg i8) (1 : Int32)) (fun I_173 => (if 0 ≤ i8 ∧ (Int32.toNatClampNeg i8) < 192 then (stI (u2 I_173 30 (Int32.toNatClampNeg i8) i5) (fun I_182 => (g_99 n dp e 6 I_182 L i2 i4 i5 i6 i7 i8 i9 a3))) else none))) else none))) else none) := by rw [g_99.eq_2, if_neg (show ¬ ((5 : Nat) = 0) by decide), if_neg (show ¬ ((5 : Nat) = 1) by decide), if_neg (show ¬ ((5 : Nat) = 2) by decide), if_neg (show ¬ ((5 : Nat) = 3) by decide), if_neg (show ¬ ((5 : Nat) = 4) by decide), if_pos (show (5 : Nat) = 5 from rfl)]
set_option maxRecDepth 100000 in
theorem e_99_6 (n dp : Nat) (e : EN) (I : (Nat → Nat → Int32)) (L : (Nat → Nat → Int64)) (i2 : Int32) (i4 : Int32) (i5 : Int32) (i6 : Int32) (i7 : Int32) (i8 : Int32) (i9 : Int32) (a3 : Nat) : g_99 (n + 1) dp e 6 I L i2 i4 i5 i6 i7 i8 i9 a3 = (g_99 n dp e 1 I L i2 i4 (i5 + Int32.ofInt (1)) 0 0 0 0 a3) := by rw [g_99.eq_2, if_neg (show ¬ ((6 : Nat) = 0) by decide), if_neg (show ¬ ((6 : Nat) = 1) by decide), if_neg (show ¬ ((6 : Nat) = 2) by decide), if_neg (show ¬ ((6 : Nat) = 3) by decide), if_neg (show ¬ ((6 : Nat) = 4) by decide), if_neg (show ¬ ((6 : Nat) = 5) by decide), if_pos (show (6 : Nat) = 6 from rfl)]
set_option maxHeartbeats 8000000 in
set_option maxRecDepth 100000 in
theorem w_99 (X : GX) {z : Nat} {kd : Nat → Nat × Nat} {Rf : Nat → Nat → Option Nat} (hS : Sh z kd Rf) : ∀ (n dp d : Nat), dp ≤ d → ∀ (I : (Nat → Nat → Int32)) (L : (Nat → Nat → Int64)) (i2 : Int32) (i4 : Int32) (i5 : Int32) (i6 : Int32) (i7 : Int32) (i8 : Int32) (i9 : Int32) (a3 : Nat) (I1 : (Nat → Nat → Int32)) (L1 : (Nat → Nat → Int64)), (g_99 n dp (z, kd, Rf) 0 I L i2 i4 i5 i6 i7 i8 i9 a3 = some (I1, L1) → K X d 99 0 0 (AV (fun τ => τ = (z, kd, I1, L1, Rf))) 0 [some (.ref 26), some (.ref 1), some (.int i2), some (.ref a3), none, none, none, none, none, none] [] (z, kd, I, L, Rf) 0 0) ∧
    (g_99 n dp (z, kd, Rf) 1 I L i2 i4 i5 i6 i7 i8 i9 a3 = some (I1, L1) → K X d 99 0 0 (AV (fun τ => τ = (z, kd, I1, L1, Rf))) 9 [some (.ref 26), some (.ref 1), some (.int i2), some (.ref a3), some (.int i4), some (.int i5), none, none, none, none] [] (z, kd, I, L, Rf) 0 0) ∧
    (g_99 n dp (z, kd, Rf) 2 I L i2 i4 i5 i6 i7 i8 i9 a3 = some (I1, L1) → K X d 99 0 0 (AV (fun τ => τ = (z, kd, I1, L1, Rf))) 75 [some (.ref 26), some (.ref 1), some (.int i2), some (.ref a3), some (.int i4), some (.int i5), some (.int i6), some (.int i7), some (.int i8), some (.int i9)] [] (z, kd, I, L, Rf) 0 0) ∧
    (g_99 n dp (z, kd, Rf) 3 I L i2 i4 i5 i6 i7 i8 i9 a3 = some (I1, L1) → K X d 99 0 0 (AV (fun τ => τ = (z, kd, I1, L1, Rf))) 100 [some (.ref 26), some (.ref 1), some (.int i2), some (.ref a3), some (.int i4), some (.int i5), some (.int i6), some (.int i7), some (.int i8), some (.int i9)] [] (z, kd, I, L, Rf) 0 0) ∧
    (g_99 n dp (z, kd, Rf) 4 I L i2 i4 i5 i6 i7 i8 i9 a3 = some (I1, L1) → K X d 99 0 0 (AV (fun τ => τ = (z, kd, I1, L1, Rf))) 138 [some (.ref 26), some (.ref 1), some (.int i2), some (.ref a3), some (.int i4), some (.int i5), some (.int i6), some (.int i7), some (.int i8), some (.int i9)] [] (z, kd, I, L, Rf) 0 0) ∧
    (g_99 n dp (z, kd, Rf) 5 I L i2 i4 i5 i6 i7 i8 i9 a3 = some (I1, L1) → K X d 99 0 0 (AV (fun τ => τ = (z, kd, I1, L1, Rf))) 157 [some (.ref 26), some (.ref 1), some (.int i2), some (.ref a3), some (.int i4), some (.int i5), some (.int i6), some (.int i7), some (.int i8), some (.int i9)] [] (z, kd, I, L, Rf) 0 0) ∧
    (g_99 n dp (z, kd, Rf) 6 I L i2 i4 i5 i6 i7 i8 i9 a3 = some (I1, L1) → K X d 99 0 0 (AV (fun τ => τ = (z, kd, I1, L1, Rf))) 209 [some (.ref 26), some (.ref 1), some (.int i2), some (.ref a3), some (.int i4), some (.int i5), some (.int i6), some (.int i7), some (.int i8), some (.int i9)] [] (z, kd, I, L, Rf) 0 0) := by
  intro n
  induction n with
  | zero => intro dp d hdp I L i2 i4 i5 i6 i7 i8 i9 a3 I1 L1; exact ⟨(fun h => by cases h), (fun h => by cases h), (fun h => by cases h), (fun h => by cases h), (fun h => by cases h), (fun h => by cases h), (fun h => by cases h)⟩
  | succ n ih =>
    intro dp d hdp I L i2 i4 i5 i6 i7 i8 i9 a3 I1 L1
    refine ⟨?_, ?_, ?_, ?_, ?_, ?_, ?_⟩
    · intro h
      rw [e_99_0] at h
      refine K_of b_99_0 h_99_0 ?_
      refine q_iload rfl ?_
      refine q_iconst (64) (by decide) ?_
      refine q_imul ?_
      refine q_istore (Nat.le_of_ble_eq_true rfl) rfl ?_
      refine q_iconst (0) (by decide) ?_
      refine q_istore (Nat.le_of_ble_eq_true rfl) rfl ?_
      refine q_end ?_
      exact (ih dp d hdp _ _ i2 (i2 * (64 : Int32)) (0 : Int32) 0 0 0 0 a3 _ _).2.1 h
    · intro h
      rw [e_99_1] at h
      refine K_of b_99_9 h_99_9 ?_
      refine q_iload rfl ?_
      refine q_aload rfl ?_
      obtain ⟨⟨z_12, k_12⟩, h⟩ := ite_some h
      refine q_getI (c0 := 2) (j := 4) rfl rfl z_12 (fst_eq k_12) (Or.inl rfl) (by decide) ?_
      refine q_icmp_ge (fun c_15 => ?_) (fun c_15 => ?_)
      · rw [if_pos c_15] at h
        refine K_of b_99_215 h_99_215 ?_
        cases h
        exact q_vret rfl (Nat.le_refl _) (Nat.le_refl _) rfl
      · rw [if_neg c_15] at h
        refine q_aload rfl ?_
        refine q_aload rfl ?_
        refine q_iload rfl ?_
        obtain ⟨d_22, h⟩ := ite_some h
        obtain ⟨⟨x0_22, I0_22, L0_22⟩, e_22, h⟩ := Option.bind_eq_some_iff.mp h
        dsimp only at h
        refine q_fv3I (a_100 X hS (d := d - 1) (by omega) e_22) (by omega) (Nat.le_refl _) (Nat.le_refl _) rfl (Nat.le_of_ble_eq_true rfl) ⟨(zl hS 26 (by decide)), congrArg Prod.fst (sk hS 26 (by decide) rfl), by decide⟩ ?_
        refine q_istore (Nat.le_of_ble_eq_true rfl) rfl ?_
        refine q_aload rfl ?_
        refine q_aload rfl ?_
        refine q_iload rfl ?_
        obtain ⟨d_31, h⟩ := ite_some h
        obtain ⟨⟨x1_31, I1_31, L1_31⟩, e_31, h⟩ := Option.bind_eq_some_iff.mp h
        dsimp only at h
        refine q_fs3I (a_101 X hS (d := d - 1) (by omega) e_31) (by omega) (Nat.le_refl _) (Nat.le_refl _) rfl (Nat.le_of_ble_eq_true rfl) ?_
        refine q_istore (Nat.le_of_ble_eq_true rfl) rfl ?_
        refine q_aload rfl ?_
        refine q_getRs (c0 := 6) (j := 6) rfl rfl (zl hS 26 (by decide)) (sk hS 26 (by decide) rfl) rfl (by decide) (r_26_6 hS) ?_
        refine q_iload rfl ?_
        refine q_aload rfl ?_
        refine q_getRs (c0 := 6) (j := 6) rfl rfl (zl hS 26 (by decide)) (sk hS 26 (by decide) rfl) rfl (by decide) (r_26_6 hS) ?_
        refine q_iload rfl ?_
        obtain ⟨⟨u_46, v_46⟩, h⟩ := ite_some h
        refine q_ialN (Int32.toNatClampNeg i2) (nx u_46) (zl hS 33 (by decide)) (sk hS 33 (by decide) rfl) v_46 (by decide) ?_
        refine q_iload rfl ?_
        refine q_aload rfl ?_
        refine q_iload rfl ?_
        obtain ⟨d_52, h⟩ := ite_some h
        obtain ⟨⟨x2_52, I2_52, L2_52⟩, e_52, h⟩ := Option.bind_eq_some_iff.mp h
        dsimp only at h
        refine q_fv2I (a_102 X hS (d := d - 1) (by omega) e_52) (by omega) (Nat.le_refl _) (Nat.le_refl _) rfl (Nat.le_of_ble_eq_true rfl) ⟨(zl hS 26 (by decide)), congrArg Prod.fst (sk hS 26 (by decide) rfl), by decide⟩ ?_
        refine q_iadd ?_
        obtain ⟨d_56, h⟩ := ite_some h
        refine q_max (Nat.le_of_ble_eq_true rfl) (Nat.le_trans d_56 hdp) (Nat.le_refl _) (Nat.le_refl _) ?_
        obtain ⟨⟨u_59, v_59⟩, h⟩ := ite_some h
        refine q_iasN (Int32.toNatClampNeg i2) (nx u_59) (zl hS 33 (by decide)) (sk hS 33 (by decide) rfl) v_59 (by decide) ?_
        obtain ⟨I_59, nI_59, h⟩ := stI_some h
        refine q_nI nI_59 ?_
        refine q_iload rfl ?_
        refine q_istore (Nat.le_of_ble_eq_true rfl) rfl ?_
        refine q_iload rfl ?_
        refine q_aload rfl ?_
        refine q_getRs (c0 := 6) (j := 5) rfl rfl (zl hS 26 (by decide)) (sk hS 26 (by decide) rfl) rfl (by decide) (r_26_5 hS) ?_
        refine q_iload rfl ?_
        obtain ⟨⟨u_71, v_71⟩, h⟩ := ite_some h
        refine q_ialN (Int32.toNatClampNeg i2) (nx u_71) (zl hS 32 (by decide)) (sk hS 32 (by decide) rfl) v_71 (by decide) ?_
        refine q_iadd ?_
        obtain ⟨v_73, nv_73, h⟩ := stI_some h
        refine q_eqi nv_73.symm ?_
        refine q_istore (Nat.le_of_ble_eq_true rfl) rfl ?_
        refine q_end ?_
        exact (ih dp d hdp _ _ i2 i4 i5 x0_22 x1_31 i4 v_73 a3 _ _).2.2.1 h
    · intro h
      rw [e_99_2] at h
      refine K_of b_99_75 h_99_75 ?_
      refine q_iload rfl ?_
      refine q_iload rfl ?_
      refine q_icmp_ge (fun c_79 => ?_) (fun c_79 => ?_)
      · rw [if_pos c_79] at h
        exact (ih dp d hdp _ _ i2 i4 i5 i6 i7 i8 i9 a3 _ _).2.2.2.1 h
      · rw [if_neg c_79] at h
        refine q_aload rfl ?_
        refine q_getRs (c0 := 6) (j := 0) rfl rfl (zl hS 26 (by decide)) (sk hS 26 (by decide) rfl) rfl (by decide) (r_26_0 hS) ?_
        refine q_iload rfl ?_
        obtain ⟨⟨u_88, v_88⟩, h⟩ := ite_some h
        refine q_ialN (Int32.toNatClampNeg i8) (nx u_88) (zl hS 27 (by decide)) (sk hS 27 (by decide) rfl) v_88 (by decide) ?_
        refine q_iload rfl ?_
        refine q_icmp_eq (fun c_91 => ?_) (fun c_91 => ?_)
        · rw [if_pos c_91] at h
          exact (ih dp d hdp _ _ i2 i4 i5 i6 i7 i8 i9 a3 _ _).2.2.2.1 h
        · rw [if_neg c_91] at h
          refine q_iinc rfl rfl ?_
          refine q_goto ?_
          exact (ih dp d hdp _ _ i2 i4 i5 i6 i7 (i8 + Int32.ofInt (1)) i9 a3 _ _).2.2.1 h
    · intro h
      rw [e_99_3] at h
      refine K_of b_99_100 h_99_100 ?_
      refine q_aload rfl ?_
      refine q_getRs (c0 := 6) (j := 4) rfl rfl (zl hS 26 (by decide)) (sk hS 26 (by decide) rfl) rfl (by decide) (r_26_4 hS) ?_
      refine q_iload rfl ?_
      refine q_iload rfl ?_
      refine q_iadd ?_
      refine q_iload rfl ?_
      obtain ⟨⟨u_111, v_111⟩, h⟩ := ite_some h
      refine q_iasN (Int32.toNatClampNeg (i4 + i5)) (nx u_111) (zl hS 31 (by decide)) (sk hS 31 (by decide) rfl) v_111 (by decide) ?_
      obtain ⟨I_111, nI_111, h⟩ := stI_some h
      refine q_nI nI_111 ?_
      refine q_iload rfl ?_
      refine q_iload rfl ?_
      refine q_icmp_ne (fun c_116 => ?_) (fun c_116 => ?_)
      · rw [if_neg c_116] at h
        exact (ih dp d hdp _ _ i2 i4 i5 i6 i7 i8 i9 a3 _ _).2.2.2.2.1 h
      · rw [if_pos c_116] at h
        refine q_aload rfl ?_
        refine q_getRs (c0 := 6) (j := 5) rfl rfl (zl hS 26 (by decide)) (sk hS 26 (by decide) rfl) rfl (by decide) (r_26_5 hS) ?_
        refine q_iload rfl ?_
        refine q_dup2 rfl rfl ?_
        obtain ⟨⟨u_125, v_125⟩, h⟩ := ite_some h
        refine q_ialN (Int32.toNatClampNeg i2) (nx u_125) (zl hS 32 (by decide)) (sk hS 32 (by decide) rfl) v_125 (by decide) ?_
        refine q_iconst (1) (by decide) ?_
        refine q_iadd ?_
        obtain ⟨⟨u_128, v_128⟩, h⟩ := ite_some h
        refine q_iasN (Int32.toNatClampNeg i2) (nx u_128) (zl hS 32 (by decide)) (sk hS 32 (by decide) rfl) v_128 (by decide) ?_
        obtain ⟨I_128, nI_128, h⟩ := stI_some h
        refine q_nI nI_128 ?_
        refine q_aload rfl ?_
        refine q_getRs (c0 := 6) (j := 0) rfl rfl (zl hS 26 (by decide)) (sk hS 26 (by decide) rfl) rfl (by decide) (r_26_0 hS) ?_
        refine q_iload rfl ?_
        refine q_iload rfl ?_
        obtain ⟨⟨u_137, v_137⟩, h⟩ := ite_some h
        refine q_iasN (Int32.toNatClampNeg i8) (nx u_137) (zl hS 27 (by decide)) (sk hS 27 (by decide) rfl) v_137 (by decide) ?_
        obtain ⟨I_137, nI_137, h⟩ := stI_some h
        refine q_nI nI_137 ?_
        refine q_end ?_
        exact (ih dp d hdp _ _ i2 i4 i5 i6 i7 i8 i9 a3 _ _).2.2.2.2.1 h
    · intro h
      rw [e_99_4] at h
      refine K_of b_99_138 h_99_138 ?_
      refine q_iload rfl ?_
      refine q_iload rfl ?_
      refine q_icmp_eq (fun c_142 => ?_) (fun c_142 => ?_)
      · rw [if_pos c_142] at h
        exact (ih dp d hdp _ _ i2 i4 i5 i6 i7 i8 i9 a3 _ _).2.2.2.2.2.1 h
      · rw [if_neg c_142] at h
        refine q_iload rfl ?_
        refine q_aload rfl ?_
        refine q_getRs (c0 := 6) (j := 1) rfl rfl (zl hS 26 (by decide)) (sk hS 26 (by decide) rfl) rfl (by decide) (r_26_1 hS) ?_
        refine q_iload rfl ?_
        obtain ⟨⟨u_153, v_153⟩, h⟩ := ite_some h
        refine q_ialN (Int32.toNatClampNeg i8) (nx u_153) (zl hS 28 (by decide)) (sk hS 28 (by decide) rfl) v_153 (by decide) ?_
        refine q_icmp_le (fun c_154 => ?_) (fun c_154 => ?_)
        · rw [if_pos c_154] at h
          refine K_of b_99_186 h_99_186 ?_
          refine q_iload rfl ?_
          refine q_aload rfl ?_
          refine q_getRs (c0 := 6) (j := 1) rfl rfl (zl hS 26 (by decide)) (sk hS 26 (by decide) rfl) rfl (by decide) (r_26_1 hS) ?_
          refine q_iload rfl ?_
          obtain ⟨⟨u_194, v_194⟩, h⟩ := ite_some h
          refine q_ialN (Int32.toNatClampNeg i8) (nx u_194) (zl hS 28 (by decide)) (sk hS 28 (by decide) rfl) v_194 (by decide) ?_
          refine q_icmp_ne (fun c_195 => ?_) (fun c_195 => ?_)
          · rw [if_neg c_195] at h
            exact (ih dp d hdp _ _ i2 i4 i5 i6 i7 i8 i9 a3 _ _).2.2.2.2.2.2 h
          · rw [if_pos c_195] at h
            refine q_aload rfl ?_
            refine q_getRs (c0 := 6) (j := 2) rfl rfl (zl hS 26 (by decide)) (sk hS 26 (by decide) rfl) rfl (by decide) (r_26_2 hS) ?_
            refine q_iload rfl ?_
            refine q_dup2 rfl rfl ?_
            obtain ⟨⟨u_205, v_205⟩, h⟩ := ite_some h
            refine q_ialN (Int32.toNatClampNeg i8) (nx u_205) (zl hS 29 (by decide)) (sk hS 29 (by decide) rfl) v_205 (by decide) ?_
            refine q_iconst (1) (by decide) ?_
            refine q_iadd ?_
            obtain ⟨⟨u_208, v_208⟩, h⟩ := ite_some h
            refine q_iasN (Int32.toNatClampNeg i8) (nx u_208) (zl hS 29 (by decide)) (sk hS 29 (by decide) rfl) v_208 (by decide) ?_
            obtain ⟨I_208, nI_208, h⟩ := stI_some h
            refine q_nI nI_208 ?_
            refine q_end ?_
            exact (ih dp d hdp _ _ i2 i4 i5 i6 i7 i8 i9 a3 _ _).2.2.2.2.2.2 h
        · rw [if_neg c_154] at h
          refine q_end ?_
          exact (ih dp d hdp _ _ i2 i4 i5 i6 i7 i8 i9 a3 _ _).2.2.2.2.2.1 h
    · intro h
      rw [e_99_5] at h
      refine K_of b_99_157 h_99_157 ?_
      refine q_aload rfl ?_
      refine q_getRs (c0 := 6) (j := 1) rfl rfl (zl hS 26 (by decide)) (sk hS 26 (by decide) rfl) rfl (by decide) (r_26_1 hS) ?_
      refine q_iload rfl ?_
      refine q_iload rfl ?_
      obtain ⟨⟨u_165, v_165⟩, h⟩ := ite_some h
      refine q_iasN (Int32.toNatClampNeg i8) (nx u_165) (zl hS 28 (by decide)) (sk hS 28 (by decide) rfl) v_165 (by decide) ?_
      obtain ⟨I_165, nI_165, h⟩ := stI_some h
      refine q_nI nI_165 ?_
      refine q_aload rfl ?_
      refine q_getRs (c0 := 6) (j := 2) rfl rfl (zl hS 26 (by decide)) (sk hS 26 (by decide) rfl) rfl (by decide) (r_26_2 hS) ?_
      refine q_iload rfl ?_
      refine q_iconst (1) (by decide) ?_
      obtain ⟨⟨u_173, v_173⟩, h⟩ := ite_some h
      refine q_iasN (Int32.toNatClampNeg i8) (nx u_173) (zl hS 29 (by decide)) (sk hS 29 (by decide) rfl) v_173 (by decide) ?_
      obtain ⟨I_173, nI_173, h⟩ := stI_some h
      refine q_nI nI_173 ?_
      refine q_aload rfl ?_
      refine q_getRs (c0 := 6) (j := 3) rfl rfl (zl hS 26 (by decide)) (sk hS 26 (by decide) rfl) rfl (by decide) (r_26_3 hS) ?_
      refine q_iload rfl ?_
      refine q_iload rfl ?_
      obtain ⟨⟨u_182, v_182⟩, h⟩ := ite_some h
      refine q_iasN (Int32.toNatClampNeg i8) (nx u_182) (zl hS 30 (by decide)) (sk hS 30 (by decide) rfl) v_182 (by decide) ?_
      obtain ⟨I_182, nI_182, h⟩ := stI_some h
      refine q_nI nI_182 ?_
      refine q_goto ?_
      exact (ih dp d hdp _ _ i2 i4 i5 i6 i7 i8 i9 a3 _ _).2.2.2.2.2.2 h
    · intro h
      rw [e_99_6] at h
      refine K_of b_99_209 h_99_209 ?_
      refine q_iinc rfl rfl ?_
      refine q_goto ?_
      refine K_mask [true, true, true, true, true, true, false, false, false, false] (Nat.le_of_ble_eq_true rfl) ?_
      exact (ih dp d hdp _ _ i2 i4 (i5 + Int32.ofInt (1)) 0 0 0 0 a3 _ _).2.1 h
theorem a_99 (X : GX) {z : Nat} {kd : Nat → Nat × Nat} {Rf : Nat → Nat → Option Nat} (hS : Sh z kd Rf) {n dp d : Nat} (hd : dp ≤ d) {I : (Nat → Nat → Int32)} {L : (Nat → Nat → Int64)} {i2 : Int32} {a3 : Nat} {I1 : (Nat → Nat → Int32)} {L1 : (Nat → Nat → Int64)} (h : g_99 n dp (z, kd, Rf) 0 I L i2 0 0 0 0 0 0 a3 = some (I1, L1)) : Ct X d 99 0 0 [.ref 26, .ref 1, .int i2, .ref a3] (z, kd, I, L, Rf) (AV (fun τ => τ = (z, kd, I1, L1, Rf))) :=
  Ct_of mu_99 (Nat.le_of_ble_eq_true rfl) ((w_99 X hS n dp d hd I L i2 0 0 0 0 0 0 a3 _ _).1 h)

