/-! 84 CutFloor$Cuttings.keep()V -/
set_option maxHeartbeats 4000000 in
set_option maxRecDepth 100000 in
def g_84 : Nat → Nat → EN → Nat → (Nat → Nat → Int32) → (Nat → Nat → Int64) → Int32 → Nat →  Option ((Nat → Nat → Int32) × (Nat → Nat → Int64))
  | 0, _, _, _, _, _, _, _ => none
  | n + 1, dp, e, lab, I, L, i1, a0 =>
    if lab = 0 then (if a0 < e.1 ∧ (e.2.1 a0).1 = 2 then (if (64 : Int32) ≤ (I a0 4) then (g_84 n dp e 2 I L 0 a0) else (g_84 n dp e 1 I L (0 : Int32) a0)) else none)
    else if lab = 1 then (if (10 : Int32) ≤ i1 then (g_84 n dp e 2 I L 0 a0) else (if a0 < e.1 ∧ (e.2.1 a0).1 = 2 then ((e.2.2 a0 0).bind (fun b_18 => (if a0 < e.1 ∧ (e.2.1 a0).1 = 2 then (if a0 < e.1 ∧ (e.2.1 a0).1 = 2 then ((e.2.2 a0 2).bind (fun b_31 => (if (b_31 < e.1 ∧ (e.2.1 b_31).1 = 13 ∧ (e.2.1 b_31).2 < 2 ^ 31) ∧ 0 ≤ i1 ∧ (Int32.toNatClampNeg i1) < (e.2.1 b_31).2 then (if (b_18 < e.1 ∧ (e.2.1 b_18).1 = 13 ∧ (e.2.1 b_18).2 < 2 ^ 31) ∧ 0 ≤ (((I a0 4) * (10 : Int32)) + i1) ∧ (Int32.toNatClampNeg (((I a0 4) * (10 : Int32)) + i1)) < (e.2.1 b_18).2 then (stI (u2 I b_18 (Int32.toNatClampNeg (((I a0 4) * (10 : Int32)) + i1)) (I b_31 (Int32.toNatClampNeg i1))) (fun I_36 => (if a0 < e.1 ∧ (e.2.1 a0).1 = 2 then ((e.2.2 a0 1).bind (fun b_38 => (if a0 < e.1 ∧ (e.2.1 a0).1 = 2 then (if a0 < e.1 ∧ (e.2.1 a0).1 = 2 then ((e.2.2 a0 2).bind (fun b_51 => (if (b_51 < e.1 ∧ (e.2.1 b_51).1 = 13 ∧ (e.2.1 b_51).2 < 2 ^ 31) ∧ 0 ≤ i1 ∧ (Int32.toNatClampNeg i1) < (e.2.1 b_51).2 then (if (I_36 b_51 (Int32.toNatClampNeg i1)) = (-1 : Int32) then (if a0 < e.1 ∧ (e.2.1 a0).1 = 2 then ((e.2.2 a0 3).bind (fun b_61 => (if (b_61 < e.1 ∧ (e.2.1 b_61).1 = 13 ∧ (e.2.1 b_61).2 < 2 ^ 31) ∧ 0 ≤ i1 ∧ (Int32.toNatClampNeg i1) < (e.2.1 b_61).2 then (if (b_38 < e.1 ∧ (e.2.1 b_38).1 = 13 ∧ (e.2.1 b_38).2 < 2 ^ 31) ∧ 0 ≤ (((I_36 a0 4) * (10 : Int32)) + i1) ∧ (Int32.toNatClampNeg (((I_36 a0 4) * (10 : Int32)) + i1)) < (e.2.1 b_38).2 then (stI (u2 I_36 b_38 (Int32.toNatClampNeg (((I_36 a0 4) * (10 : Int32)) + i1)) (I_36 b_61 (Int32.toNatClampNeg i1))) (fun I_70 => (g_84 n dp e 1 I_70 L (i1 + Int32.ofInt (1)) a0))) else none) else none))) else none) else (if (b_38 < e.1 ∧ (e.2.1 b_38).1 = 13 ∧ (e.2.1 b_38).2 < 2 ^ 31) ∧ 0 ≤ (((I_36 a0 4) * (10 : Int32)) + i1) ∧ (Int32.toNatClampNeg (((I_36 a0 4) * (10 : Int32)) + i1)) < (e.2.1 b_38).2 then (stI (u2 I_36 b_38 (Int32.toNatClampNeg (((I_36 a0 4) * (10 : Int32)) + i1)) (0 : Int32)) (fun I_70 => (g_84 n dp e 1 I_70 L (i1 + Int32.ofInt (1)) a0))) else none)) else none))) else none) else none))) else none))) else none) else none))) else none) else none))) else none))
    else if lab = 2 then (if a0 < e.1 ∧ (e.2.1 a0).1 = 2 then (if a0 < e.1 ∧ (e.2.1 a0).1 = 2 then (stI (u2 I a0 4 ((I a0 4) + (1 : Int32))) (fun I_84 => (some (I_84, L)))) else none) else none)
    else none
set_option maxRecDepth 100000 in
theorem e_84_0 (n dp : Nat) (e : EN) (I : (Nat → Nat → Int32)) (L : (Nat → Nat → Int64)) (i1 : Int32) (a0 : Nat) : g_84 (n + 1) dp e 0 I L i1 a0 = (if a0 < e.1 ∧ (e.2.1 a0).1 = 2 then (if (64 : Int32) ≤ (I a0 4) then (g_84 n dp e 2 I L 0 a0) else (g_84 n dp e 1 I L (0 : Int32) a0)) else none) := by rw [g_84.eq_2, if_pos (show (0 : Nat) = 0 from rfl)]
set_option maxRecDepth 100000 in
theorem e_84_1 (n dp : Nat) (e : EN) (I : (Nat → Nat → Int32)) (L : (Nat → Nat → Int64)) (i1 : Int32) (a0 : Nat) : g_84 (n + 1) dp e 1 I L i1 a0 = (if (10 : Int32) ≤ i1 then (g_84 n dp e 2 I L 0 a0) else (if a0 < e.1 ∧ (e.2.1 a0).1 = 2 then ((e.2.2 a0 0).bind (fun b_18 => (if a0 < e.1 ∧ (e.2.1 a0).1 = 2 then (if a0 < e.1 ∧ (e.2.1 a0).1 = 2 then ((e.2.2 a0 2).bind (fun b_31 => (if (b_31 < e.1 ∧ (e.2.1 b_31).1 = 13 ∧ (e.2.1 b_31).2 < 2 ^ 31) ∧ 0 ≤ i1 ∧ (Int32.toNatClampNeg i1) < (e.2.1 b_31).2 then (if (b_18 < e.1 ∧ (e.2.1 b_18).1 = 13 ∧ (e.2.1 b_18).2 < 2 ^ 31) ∧ 0 ≤ (((I a0 4) * (10 : Int32)) + i1) ∧ (Int32.toNatClampNeg (((I a0 4) * (10 : Int32)) + i1)) < (e.2.1 b_18).2 then (stI (u2 I b_18 (Int32.toNatClampNeg (((I a0 4) * (10 : Int32)) + i1)) (I b_31 (Int32.toNatClampNeg i1))) (fun I_36 => (if a0 < e.1 ∧ (e.2.1 a0).1 = 2 then ((e.2.2 a0 1).bind (fun b_38 => (if a0 < e.1 ∧ (e.2.1 a0).1 = 2 then (if a0 < e.1 ∧ (e.2.1 a0).1 = 2 then ((e.2.2 a0 2).bind (fun b_51 => (if (b_51 < e.1 ∧ (e.2.1 b_51).1 = 13 ∧ (e.2.1 b_51).2 < 2 ^ 31) ∧ 0 ≤ i1 ∧ (Int32.toNatClampNeg i1) < (e.2.1 b_51).2 then (if (I_36 b_51 (Int32.toNatClampNeg i1)) = (-1 : Int32) then (if a0 < e.1 ∧ (e.2.1 a0).1 = 2 then ((e.2.2 a0 3).bind (fun b_61 => (if (b_61 < e.1 ∧ (e.2.1 b_61).1 = 13 ∧ (e.2.1 b_61).2 < 2 ^ 31) ∧ 0 ≤ i1 ∧ (Int32.toNatClampNeg i1) < (e.2.1 b_61).2 then (if (b_38 < e.1 ∧ (e.2.1 b_38).1 = 13 ∧ (e.2.1 b_38).2 < 2 ^ 31) ∧ 0 ≤ (((I_36 a0 4) * (10 : Int32)) + i1) ∧ (Int32.toNatClampNeg (((I_36 a0 4) * (10 : Int32)) + i1)) < (e.2.1 b_38).2 then (stI (u2 I_36 b_38 (Int32.toNatClampNeg (((I_36 a0 4) * (10 : Int32)) + i1)) (I_36 b_61 (Int32.toNatClampNeg i1))) (fun I_70 => (g_84 n dp e 1 I_70 L (i1 + Int32.ofInt (1)) a0))) else none) else none))) else none) else (if (b_38 < e.1 ∧ (e.2.1 b_38).1 = 13 ∧ (e.2.1 b_38).2 < 2 ^ 31) ∧ 0 ≤ (((I_36 a0 4) * (10 : Int32)) + i1) ∧ (Int32.toNatClampNeg (((I_36 a0 4) * (10 : Int32)) + i1)) < (e.2.1 b_38).2 then (stI (u2 I_36 b_38 (Int32.toNatClampNeg (((I_36 a0 4) * (10 : Int32)) + i1)) (0 : Int32)) (fun I_70 => (g_84 n dp e 1 I_70 L (i1 + Int32.ofInt (1)) a0))) else none)) else none))) else none) else none))) else none))) else none) else none))) else none) else none))) else none)) := by rw [g_84.eq_2, if_neg (show ¬ ((1 : Nat) = 0) by decide), if_pos (show (1 : Nat) = 1 from rfl)]
set_option maxRecDepth 100000 in
theorem e_84_2 (n dp : Nat) (e : EN) (I : (Nat → Nat → Int32)) (L : (Nat → Nat → Int64)) (i1 : Int32) (a0 : Nat) : g_84 (n + 1) dp e 2 I L i1 a0 = (if a0 < e.1 ∧ (e.2.1 a0).1 = 2 then (if a0 < e.1 ∧ (e.2.1 a0).1 = 2 then (stI (u2 I a0 4 ((I a0 4) + (1 : Int32))) (fun I_84 => (some (I_84, L)))) else none) else none) := by rw [g_84.eq_2, if_neg (show ¬ ((2 : Nat) = 0) by decide), if_neg (show ¬ ((2 : Nat) = 1) by decide), if_pos (show (2 : Nat) = 2 from rfl)]
set_option maxHeartbeats 8000000 in
set_option maxRecDepth 100000 in
theorem w_84 (X : GX) {z : Nat} {kd : Nat → Nat × Nat} {Rf : Nat → Nat → Option Nat} (hS : Sh z kd Rf) : ∀ (n dp d : Nat), dp ≤ d → ∀ (I : (Nat → Nat → Int32)) (L : (Nat → Nat → Int64)) (i1 : Int32) (a0 : Nat) (I1 : (Nat → Nat → Int32)) (L1 : (Nat → Nat → Int64)), (g_84 n dp (z, kd, Rf) 0 I L i1 a0 = some (I1, L1) → K X d 84 0 0 (AV (fun τ => τ = (z, kd, I1, L1, Rf))) 0 [some (.ref a0), none] [] (z, kd, I, L, Rf) 0 0) ∧
    (g_84 n dp (z, kd, Rf) 1 I L i1 a0 = some (I1, L1) → K X d 84 0 0 (AV (fun τ => τ = (z, kd, I1, L1, Rf))) 11 [some (.ref a0), some (.int i1)] [] (z, kd, I, L, Rf) 0 0) ∧
    (g_84 n dp (z, kd, Rf) 2 I L i1 a0 = some (I1, L1) → K X d 84 0 0 (AV (fun τ => τ = (z, kd, I1, L1, Rf))) 77 [some (.ref a0), none] [] (z, kd, I, L, Rf) 0 0) := by
  intro n
  induction n with
  | zero => intro dp d hdp I L i1 a0 I1 L1; exact ⟨(fun h => by cases h), (fun h => by cases h), (fun h => by cases h)⟩
  | succ n ih =>
    intro dp d hdp I L i1 a0 I1 L1
    refine ⟨?_, ?_, ?_⟩
    · intro h
      rw [e_84_0] at h
      refine K_of b_84_0 h_84_0 ?_
      refine q_aload rfl ?_
      obtain ⟨⟨z_1, k_1⟩, h⟩ := ite_some h
      refine q_getI (c0 := 2) (j := 4) rfl rfl z_1 (fst_eq k_1) (Or.inl rfl) (by decide) ?_
      refine q_iconst (64) (by decide) ?_
      refine q_icmp_ge (fun c_6 => ?_) (fun c_6 => ?_)
      · rw [if_pos c_6] at h
        exact (ih dp d hdp _ _ 0 a0 _ _).2.2 h
      · rw [if_neg c_6] at h
        refine q_iconst (0) (by decide) ?_
        refine q_istore (ls1 := [some (.ref a0), some (.int (0 : Int32))]) (Nat.le_of_ble_eq_true rfl) rfl ?_
        refine q_end ?_
        exact (ih dp d hdp _ _ (0 : Int32) a0 _ _).2.1 h
    · intro h
      rw [e_84_1] at h
      refine K_of b_84_11 h_84_11 ?_
      refine q_iload rfl ?_
      refine q_iconst (10) (by decide) ?_
      refine q_icmp_ge (fun c_14 => ?_) (fun c_14 => ?_)
      · rw [if_pos c_14] at h
        refine K_mask [true, false] (Nat.le_of_ble_eq_true rfl) ?_
        exact (ih dp d hdp _ _ 0 a0 _ _).2.2 h
      · rw [if_neg c_14] at h
        refine q_aload rfl ?_
        obtain ⟨⟨z_18, k_18⟩, h⟩ := ite_some h
        obtain ⟨b_18, r_18, h⟩ := Option.bind_eq_some_iff.mp h
        refine q_getRs (c0 := 2) (j := 0) rfl rfl z_18 (fst_eq k_18) rfl (by decide) r_18 ?_
        refine q_aload rfl ?_
        obtain ⟨⟨z_22, k_22⟩, h⟩ := ite_some h
        refine q_getI (c0 := 2) (j := 4) rfl rfl z_22 (fst_eq k_22) (Or.inl rfl) (by decide) ?_
        refine q_iconst (10) (by decide) ?_
        refine q_imul ?_
        refine q_iload rfl ?_
        refine q_iadd ?_
        refine q_aload rfl ?_
        obtain ⟨⟨z_31, k_31⟩, h⟩ := ite_some h
        obtain ⟨b_31, r_31, h⟩ := Option.bind_eq_some_iff.mp h
        refine q_getRs (c0 := 2) (j := 2) rfl rfl z_31 (fst_eq k_31) rfl (by decide) r_31 ?_
        refine q_iload rfl ?_
        obtain ⟨⟨⟨z_35, k_35, m_35⟩, u_35, v_35⟩, h⟩ := ite_some h
        refine q_ialN (Int32.toNatClampNeg i1) (nx u_35) z_35 (fst_eq k_35) v_35 m_35 ?_
        obtain ⟨⟨⟨z_36, k_36, m_36⟩, u_36, v_36⟩, h⟩ := ite_some h
        refine q_iasN (Int32.toNatClampNeg (((I a0 4) * (10 : Int32)) + i1)) (nx u_36) z_36 (fst_eq k_36) v_36 m_36 ?_
        obtain ⟨I_36, nI_36, h⟩ := stI_some h
        refine q_nI nI_36 ?_
        refine q_aload rfl ?_
        obtain ⟨⟨z_38, k_38⟩, h⟩ := ite_some h
        obtain ⟨b_38, r_38, h⟩ := Option.bind_eq_some_iff.mp h
        refine q_getRs (c0 := 2) (j := 1) rfl rfl z_38 (fst_eq k_38) rfl (by decide) r_38 ?_
        refine q_aload rfl ?_
        obtain ⟨⟨z_42, k_42⟩, h⟩ := ite_some h
        refine q_getI (c0 := 2) (j := 4) rfl rfl z_42 (fst_eq k_42) (Or.inl rfl) (by decide) ?_
        refine q_iconst (10) (by decide) ?_
        refine q_imul ?_
        refine q_iload rfl ?_
        refine q_iadd ?_
        refine q_aload rfl ?_
        obtain ⟨⟨z_51, k_51⟩, h⟩ := ite_some h
        obtain ⟨b_51, r_51, h⟩ := Option.bind_eq_some_iff.mp h
        refine q_getRs (c0 := 2) (j := 2) rfl rfl z_51 (fst_eq k_51) rfl (by decide) r_51 ?_
        refine q_iload rfl ?_
        obtain ⟨⟨⟨z_55, k_55, m_55⟩, u_55, v_55⟩, h⟩ := ite_some h
        refine q_ialN (Int32.toNatClampNeg i1) (nx u_55) z_55 (fst_eq k_55) v_55 m_55 ?_
        refine q_iconst (-1) (by decide) ?_
        refine q_icmp_ne (fun c_57 => ?_) (fun c_57 => ?_)
        · rw [if_neg c_57] at h
          refine K_of b_84_69 h_84_69 ?_
          refine q_iconst (0) (by decide) ?_
          refine q_end ?_
          refine K_of b_84_70 h_84_70 ?_
          obtain ⟨⟨⟨z_70, k_70, m_70⟩, u_70, v_70⟩, h⟩ := ite_some h
          refine q_iasN (Int32.toNatClampNeg (((I_36 a0 4) * (10 : Int32)) + i1)) (nx u_70) z_70 (fst_eq k_70) v_70 m_70 ?_
          obtain ⟨I_70, nI_70, h⟩ := stI_some h
          refine q_nI nI_70 ?_
          refine q_iinc (ls1 := [some (.ref a0), some (.int (i1 + Int32.ofInt (1)))]) rfl rfl ?_
          refine q_goto ?_
          exact (ih dp d hdp _ _ (i1 + Int32.ofInt (1)) a0 _ _).2.1 h
        · rw [if_pos c_57] at h
          refine q_aload rfl ?_
          obtain ⟨⟨z_61, k_61⟩, h⟩ := ite_some h
          obtain ⟨b_61, r_61, h⟩ := Option.bind_eq_some_iff.mp h
          refine q_getRs (c0 := 2) (j := 3) rfl rfl z_61 (fst_eq k_61) rfl (by decide) r_61 ?_
          refine q_iload rfl ?_
          obtain ⟨⟨⟨z_65, k_65, m_65⟩, u_65, v_65⟩, h⟩ := ite_some h
          refine q_ialN (Int32.toNatClampNeg i1) (nx u_65) z_65 (fst_eq k_65) v_65 m_65 ?_
          refine q_goto ?_
          refine K_of b_84_70 h_84_70 ?_
          obtain ⟨⟨⟨z_70, k_70, m_70⟩, u_70, v_70⟩, h⟩ := ite_some h
          refine q_iasN (Int32.toNatClampNeg (((I_36 a0 4) * (10 : Int32)) + i1)) (nx u_70) z_70 (fst_eq k_70) v_70 m_70 ?_
          obtain ⟨I_70, nI_70, h⟩ := stI_some h
          refine q_nI nI_70 ?_
          refine q_iinc (ls1 := [some (.ref a0), some (.int (i1 + Int32.ofInt (1)))]) rfl rfl ?_
          refine q_goto ?_
          exact (ih dp d hdp _ _ (i1 + Int32.ofInt (1)) a0 _ _).2.1 h
    · intro h
      rw [e_84_2] at h
      refine K_of b_84_77 h_84_77 ?_
      refine q_aload rfl ?_
      refine q_dup rfl ?_
      obtain ⟨⟨z_79, k_79⟩, h⟩ := ite_some h
      refine q_getI (c0 := 2) (j := 4) rfl rfl z_79 (fst_eq k_79) (Or.inl rfl) (by decide) ?_
      refine q_iconst (1) (by decide) ?_
      refine q_iadd ?_
      obtain ⟨⟨z_84, k_84⟩, h⟩ := ite_some h
      refine q_putI (c0 := 2) (j := 4) rfl rfl z_84 (fst_eq k_84) rfl ?_
      obtain ⟨I_84, nI_84, h⟩ := stI_some h
      refine q_nI nI_84 ?_
      cases h
      exact q_vret rfl (Nat.le_refl _) (Nat.le_refl _) rfl
theorem a_84 (X : GX) {z : Nat} {kd : Nat → Nat × Nat} {Rf : Nat → Nat → Option Nat} (hS : Sh z kd Rf) {n dp d : Nat} (hd : dp ≤ d) {I : (Nat → Nat → Int32)} {L : (Nat → Nat → Int64)} {a0 : Nat} {I1 : (Nat → Nat → Int32)} {L1 : (Nat → Nat → Int64)} (h : g_84 n dp (z, kd, Rf) 0 I L 0 a0 = some (I1, L1)) : Ct X d 84 0 0 [.ref a0] (z, kd, I, L, Rf) (AV (fun τ => τ = (z, kd, I1, L1, Rf))) :=
  Ct_of mu_84 (Nat.le_of_ble_eq_true rfl) ((w_84 X hS n dp d hd I L 0 a0 _ _).1 h)

/-! 85 CutFloor$Tree.piecesInAll(I)I -/
set_option maxHeartbeats 4000000 in
set_option maxRecDepth 100000 in
def g_85 : Nat → Nat → EN → Nat → (Nat → Nat → Int32) → (Nat → Nat → Int64) → Int32 → Int32 → Int32 → Nat →  Option (Int32 × (Nat → Nat → Int32) × (Nat → Nat → Int64))
  | 0, _, _, _, _, _, _, _, _, _ => none
  | n + 1, dp, e, lab, I, L, i1, i2, i3, a0 =>
    if lab = 0 then (g_85 n dp e 1 I L i1 (0 : Int32) (0 : Int32) a0)
    else if lab = 1 then (if (10 : Int32) ≤ i3 then (some (i2, I, L)) else (if a0 < e.1 ∧ (e.2.1 a0).1 = 10 then ((e.2.2 a0 7).bind (fun b_12 => (if (b_12 < e.1 ∧ (e.2.1 b_12).1 = 13 ∧ (e.2.1 b_12).2 < 2 ^ 31) ∧ 0 ≤ ((i1 * (10 : Int32)) + i3) ∧ (Int32.toNatClampNeg ((i1 * (10 : Int32)) + i3)) < (e.2.1 b_12).2 then (stI (i2 + (I b_12 (Int32.toNatClampNeg ((i1 * (10 : Int32)) + i3)))) (fun v_23 => (g_85 n dp e 1 I L i1 v_23 (i3 + Int32.ofInt (1)) a0))) else none))) else none))
    else none
set_option maxRecDepth 100000 in
theorem e_85_0 (n dp : Nat) (e : EN) (I : (Nat → Nat → Int32)) (L : (Nat → Nat → Int64)) (i1 : Int32) (i2 : Int32) (i3 : Int32) (a0 : Nat) : g_85 (n + 1) dp e 0 I L i1 i2 i3 a0 = (g_85 n dp e 1 I L i1 (0 : Int32) (0 : Int32) a0) := by rw [g_85.eq_2, if_pos (show (0 : Nat) = 0 from rfl)]
set_option maxRecDepth 100000 in
theorem e_85_1 (n dp : Nat) (e : EN) (I : (Nat → Nat → Int32)) (L : (Nat → Nat → Int64)) (i1 : Int32) (i2 : Int32) (i3 : Int32) (a0 : Nat) : g_85 (n + 1) dp e 1 I L i1 i2 i3 a0 = (if (10 : Int32) ≤ i3 then (some (i2, I, L)) else (if a0 < e.1 ∧ (e.2.1 a0).1 = 10 then ((e.2.2 a0 7).bind (fun b_12 => (if (b_12 < e.1 ∧ (e.2.1 b_12).1 = 13 ∧ (e.2.1 b_12).2 < 2 ^ 31) ∧ 0 ≤ ((i1 * (10 : Int32)) + i3) ∧ (Int32.toNatClampNeg ((i1 * (10 : Int32)) + i3)) < (e.2.1 b_12).2 then (stI (i2 + (I b_12 (Int32.toNatClampNeg ((i1 * (10 : Int32)) + i3)))) (fun v_23 => (g_85 n dp e 1 I L i1 v_23 (i3 + Int32.ofInt (1)) a0))) else none))) else none)) := by rw [g_85.eq_2, if_neg (show ¬ ((1 : Nat) = 0) by decide), if_pos (show (1 : Nat) = 1 from rfl)]
set_option maxHeartbeats 8000000 in
set_option maxRecDepth 100000 in
theorem w_85 (X : GX) {z : Nat} {kd : Nat → Nat × Nat} {Rf : Nat → Nat → Option Nat} (hS : Sh z kd Rf) : ∀ (n dp d : Nat), dp ≤ d → ∀ (I : (Nat → Nat → Int32)) (L : (Nat → Nat → Int64)) (i1 : Int32) (i2 : Int32) (i3 : Int32) (a0 : Nat) (r : Int32) (I1 : (Nat → Nat → Int32)) (L1 : (Nat → Nat → Int64)), (g_85 n dp (z, kd, Rf) 0 I L i1 i2 i3 a0 = some (r, I1, L1) → K X d 85 0 0 (AI (fun x τ => x = r ∧ τ = (z, kd, I1, L1, Rf))) 0 [some (.ref a0), some (.int i1), none, none] [] (z, kd, I, L, Rf) 0 0) ∧
    (g_85 n dp (z, kd, Rf) 1 I L i1 i2 i3 a0 = some (r, I1, L1) → K X d 85 0 0 (AI (fun x τ => x = r ∧ τ = (z, kd, I1, L1, Rf))) 4 [some (.ref a0), some (.int i1), some (.int i2), some (.int i3)] [] (z, kd, I, L, Rf) 0 0) := by
  intro n
  induction n with
  | zero => intro dp d hdp I L i1 i2 i3 a0 r I1 L1; exact ⟨(fun h => by cases h), (fun h => by cases h)⟩
  | succ n ih =>
    intro dp d hdp I L i1 i2 i3 a0 r I1 L1
    refine ⟨?_, ?_⟩
    · intro h
      rw [e_85_0] at h
      refine K_of b_85_0 h_85_0 ?_
      refine q_iconst (0) (by decide) ?_
      refine q_istore (ls1 := [some (.ref a0), some (.int i1), some (.int (0 : Int32)), none]) (Nat.le_of_ble_eq_true rfl) rfl ?_
      refine q_iconst (0) (by decide) ?_
      refine q_istore (ls1 := [some (.ref a0), some (.int i1), some (.int (0 : Int32)), some (.int (0 : Int32))]) (Nat.le_of_ble_eq_true rfl) rfl ?_
      refine q_end ?_
      exact (ih dp d hdp _ _ i1 (0 : Int32) (0 : Int32) a0 _ _ _).2 h
    · intro h
      rw [e_85_1] at h
      refine K_of b_85_4 h_85_4 ?_
      refine q_iload rfl ?_
      refine q_iconst (10) (by decide) ?_
      refine q_icmp_ge (fun c_7 => ?_) (fun c_7 => ?_)
      · rw [if_pos c_7] at h
        refine K_of b_85_30 h_85_30 ?_
        refine q_iload rfl ?_
        cases h
        exact q_iret rfl (Nat.le_refl _) (Nat.le_refl _) ⟨rfl, rfl⟩
      · rw [if_neg c_7] at h
        refine q_iload rfl ?_
        refine q_aload rfl ?_
        obtain ⟨⟨z_12, k_12⟩, h⟩ := ite_some h
        obtain ⟨b_12, r_12, h⟩ := Option.bind_eq_some_iff.mp h
        refine q_getRs (c0 := 10) (j := 7) rfl rfl z_12 (fst_eq k_12) rfl (by decide) r_12 ?_
        refine q_iload rfl ?_
        refine q_iconst (10) (by decide) ?_
        refine q_imul ?_
        refine q_iload rfl ?_
        refine q_iadd ?_
        obtain ⟨⟨⟨z_21, k_21, m_21⟩, u_21, v_21⟩, h⟩ := ite_some h
        refine q_ialN (Int32.toNatClampNeg ((i1 * (10 : Int32)) + i3)) (nx u_21) z_21 (fst_eq k_21) v_21 m_21 ?_
        refine q_iadd ?_
        obtain ⟨v_23, nv_23, h⟩ := stI_some h
        refine q_eqi nv_23.symm ?_
        refine q_istore (ls1 := [some (.ref a0), some (.int i1), some (.int v_23), some (.int i3)]) (Nat.le_of_ble_eq_true rfl) rfl ?_
        refine q_iinc (ls1 := [some (.ref a0), some (.int i1), some (.int v_23), some (.int (i3 + Int32.ofInt (1)))]) rfl rfl ?_
        refine q_goto ?_
        exact (ih dp d hdp _ _ i1 v_23 (i3 + Int32.ofInt (1)) a0 _ _ _).2 h
theorem a_85 (X : GX) {z : Nat} {kd : Nat → Nat × Nat} {Rf : Nat → Nat → Option Nat} (hS : Sh z kd Rf) {n dp d : Nat} (hd : dp ≤ d) {I : (Nat → Nat → Int32)} {L : (Nat → Nat → Int64)} {a0 : Nat} {i1 : Int32} {I1 : (Nat → Nat → Int32)} {L1 : (Nat → Nat → Int64)} {r : Int32} (h : g_85 n dp (z, kd, Rf) 0 I L i1 0 0 a0 = some (r, I1, L1)) : Ct X d 85 0 0 [.ref a0, .int i1] (z, kd, I, L, Rf) (AI (fun x τ => x = r ∧ τ = (z, kd, I1, L1, Rf))) :=
  Ct_of mu_85 (Nat.le_of_ble_eq_true rfl) ((w_85 X hS n dp d hd I L i1 0 0 a0 _ _ _).1 h)

/-! 86 CutFloor$Cuttings.bring(LCutFloor$Tree;II)V -/
set_option maxHeartbeats 4000000 in
set_option maxRecDepth 100000 in
def g_86 : Nat → Nat → EN → Nat → (Nat → Nat → Int32) → (Nat → Nat → Int64) → Int32 → Int32 → Int32 → Nat → Nat →  Option ((Nat → Nat → Int32) × (Nat → Nat → Int64))
  | 0, _, _, _, _, _, _, _, _, _, _ => none
  | n + 1, dp, e, lab, I, L, i2, i3, i4, a0, a1 =>
    if lab = 0 then (g_86 n dp e 1 I L i2 i3 (0 : Int32) a0 a1)
    else if lab = 1 then (if (10 : Int32) ≤ i4 then (some (I, L)) else (if a0 < e.1 ∧ (e.2.1 a0).1 = 2 then ((e.2.2 a0 3).bind (fun b_11 => (if (b_11 < e.1 ∧ (e.2.1 b_11).1 = 13 ∧ (e.2.1 b_11).2 < 2 ^ 31) ∧ 0 ≤ i4 ∧ (Int32.toNatClampNeg i4) < (e.2.1 b_11).2 then (if a1 < e.1 ∧ (e.2.1 a1).1 = 10 then ((e.2.2 a1 7).bind (fun b_20 => (if (b_20 < e.1 ∧ (e.2.1 b_20).1 = 13 ∧ (e.2.1 b_20).2 < 2 ^ 31) ∧ 0 ≤ ((i2 * (10 : Int32)) + i4) ∧ (Int32.toNatClampNeg ((i2 * (10 : Int32)) + i4)) < (e.2.1 b_20).2 then (if (b_11 < e.1 ∧ (e.2.1 b_11).1 = 13 ∧ (e.2.1 b_11).2 < 2 ^ 31) ∧ 0 ≤ i4 ∧ (Int32.toNatClampNeg i4) < (e.2.1 b_11).2 then (stI (u2 I b_11 (Int32.toNatClampNeg i4) ((I b_11 (Int32.toNatClampNeg i4)) + (i3 * (I b_20 (Int32.toNatClampNeg ((i2 * (10 : Int32)) + i4)))))) (fun I_33 => (g_86 n dp e 1 I_33 L i2 i3 (i4 + Int32.ofInt (1)) a0 a1))) else none) else none))) else none) else none))) else none))
    else none
set_option maxRecDepth 100000 in
theorem e_86_0 (n dp : Nat) (e : EN) (I : (Nat → Nat → Int32)) (L : (Nat → Nat → Int64)) (i2 : Int32) (i3 : Int32) (i4 : Int32) (a0 : Nat) (a1 : Nat) : g_86 (n + 1) dp e 0 I L i2 i3 i4 a0 a1 = (g_86 n dp e 1 I L i2 i3 (0 : Int32) a0 a1) := by rw [g_86.eq_2, if_pos (show (0 : Nat) = 0 from rfl)]
set_option maxRecDepth 100000 in
theorem e_86_1 (n dp : Nat) (e : EN) (I : (Nat → Nat → Int32)) (L : (Nat → Nat → Int64)) (i2 : Int32) (i3 : Int32) (i4 : Int32) (a0 : Nat) (a1 : Nat) : g_86 (n + 1) dp e 1 I L i2 i3 i4 a0 a1 = (if (10 : Int32) ≤ i4 then (some (I, L)) else (if a0 < e.1 ∧ (e.2.1 a0).1 = 2 then ((e.2.2 a0 3).bind (fun b_11 => (if (b_11 < e.1 ∧ (e.2.1 b_11).1 = 13 ∧ (e.2.1 b_11).2 < 2 ^ 31) ∧ 0 ≤ i4 ∧ (Int32.toNatClampNeg i4) < (e.2.1 b_11).2 then (if a1 < e.1 ∧ (e.2.1 a1).1 = 10 then ((e.2.2 a1 7).bind (fun b_20 => (if (b_20 < e.1 ∧ (e.2.1 b_20).1 = 13 ∧ (e.2.1 b_20).2 < 2 ^ 31) ∧ 0 ≤ ((i2 * (10 : Int32)) + i4) ∧ (Int32.toNatClampNeg ((i2 * (10 : Int32)) + i4)) < (e.2.1 b_20).2 then (if (b_11 < e.1 ∧ (e.2.1 b_11).1 = 13 ∧ (e.2.1 b_11).2 < 2 ^ 31) ∧ 0 ≤ i4 ∧ (Int32.toNatClampNeg i4) < (e.2.1 b_11).2 then (stI (u2 I b_11 (Int32.toNatClampNeg i4) ((I b_11 (Int32.toNatClampNeg i4)) + (i3 * (I b_20 (Int32.toNatClampNeg ((i2 * (10 : Int32)) + i4)))))) (fun I_33 => (g_86 n dp e 1 I_33 L i2 i3 (i4 + Int32.ofInt (1)) a0 a1))) else none) else none))) else none) else none))) else none)) := by rw [g_86.eq_2, if_neg (show ¬ ((1 : Nat) = 0) by decide), if_pos (show (1 : Nat) = 1 from rfl)]
set_option maxHeartbeats 8000000 in
set_option maxRecDepth 100000 in
theorem w_86 (X : GX) {z : Nat} {kd : Nat → Nat × Nat} {Rf : Nat → Nat → Option Nat} (hS : Sh z kd Rf) : ∀ (n dp d : Nat), dp ≤ d → ∀ (I : (Nat → Nat → Int32)) (L : (Nat → Nat → Int64)) (i2 : Int32) (i3 : Int32) (i4 : Int32) (a0 : Nat) (a1 : Nat) (I1 : (Nat → Nat → Int32)) (L1 : (Nat → Nat → Int64)), (g_86 n dp (z, kd, Rf) 0 I L i2 i3 i4 a0 a1 = some (I1, L1) → K X d 86 0 0 (AV (fun τ => τ = (z, kd, I1, L1, Rf))) 0 [some (.ref a0), some (.ref a1), some (.int i2), some (.int i3), none] [] (z, kd, I, L, Rf) 0 0) ∧
    (g_86 n dp (z, kd, Rf) 1 I L i2 i3 i4 a0 a1 = some (I1, L1) → K X d 86 0 0 (AV (fun τ => τ = (z, kd, I1, L1, Rf))) 3 [some (.ref a0), some (.ref a1), some (.int i2), some (.int i3), some (.int i4)] [] (z, kd, I, L, Rf) 0 0) := by
  intro n
  induction n with
  | zero => intro dp d hdp I L i2 i3 i4 a0 a1 I1 L1; exact ⟨(fun h => by cases h), (fun h => by cases h)⟩
  | succ n ih =>
    intro dp d hdp I L i2 i3 i4 a0 a1 I1 L1
    refine ⟨?_, ?_⟩
    · intro h
      rw [e_86_0] at h
      refine K_of b_86_0 h_86_0 ?_
      refine q_iconst (0) (by decide) ?_
      refine q_istore (ls1 := [some (.ref a0), some (.ref a1), some (.int i2), some (.int i3), some (.int (0 : Int32))]) (Nat.le_of_ble_eq_true rfl) rfl ?_
      refine q_end ?_
      exact (ih dp d hdp _ _ i2 i3 (0 : Int32) a0 a1 _ _).2 h
    · intro h
      rw [e_86_1] at h
      refine K_of b_86_3 h_86_3 ?_
      refine q_iload rfl ?_
      refine q_iconst (10) (by decide) ?_
      refine q_icmp_ge (fun c_7 => ?_) (fun c_7 => ?_)
      · rw [if_pos c_7] at h
        refine K_of b_86_40 h_86_40 ?_
        cases h
        exact q_vret rfl (Nat.le_refl _) (Nat.le_refl _) rfl
      · rw [if_neg c_7] at h
        refine q_aload rfl ?_
        obtain ⟨⟨z_11, k_11⟩, h⟩ := ite_some h
        obtain ⟨b_11, r_11, h⟩ := Option.bind_eq_some_iff.mp h
        refine q_getRs (c0 := 2) (j := 3) rfl rfl z_11 (fst_eq k_11) rfl (by decide) r_11 ?_
        refine q_iload rfl ?_
        refine q_dup2 rfl rfl ?_
        obtain ⟨⟨⟨z_17, k_17, m_17⟩, u_17, v_17⟩, h⟩ := ite_some h
        refine q_ialN (Int32.toNatClampNeg i4) (nx u_17) z_17 (fst_eq k_17) v_17 m_17 ?_
        refine q_iload rfl ?_
        refine q_aload rfl ?_
        obtain ⟨⟨z_20, k_20⟩, h⟩ := ite_some h
        obtain ⟨b_20, r_20, h⟩ := Option.bind_eq_some_iff.mp h
        refine q_getRs (c0 := 10) (j := 7) rfl rfl z_20 (fst_eq k_20) rfl (by decide) r_20 ?_
        refine q_iload rfl ?_
        refine q_iconst (10) (by decide) ?_
        refine q_imul ?_
        refine q_iload rfl ?_
        refine q_iadd ?_
        obtain ⟨⟨⟨z_30, k_30, m_30⟩, u_30, v_30⟩, h⟩ := ite_some h
        refine q_ialN (Int32.toNatClampNeg ((i2 * (10 : Int32)) + i4)) (nx u_30) z_30 (fst_eq k_30) v_30 m_30 ?_
        refine q_imul ?_
        refine q_iadd ?_
        obtain ⟨⟨⟨z_33, k_33, m_33⟩, u_33, v_33⟩, h⟩ := ite_some h
        refine q_iasN (Int32.toNatClampNeg i4) (nx u_33) z_33 (fst_eq k_33) v_33 m_33 ?_
        obtain ⟨I_33, nI_33, h⟩ := stI_some h
        refine q_nI nI_33 ?_
        refine q_iinc (ls1 := [some (.ref a0), some (.ref a1), some (.int i2), some (.int i3), some (.int (i4 + Int32.ofInt (1)))]) rfl rfl ?_
        refine q_goto ?_
        exact (ih dp d hdp _ _ i2 i3 (i4 + Int32.ofInt (1)) a0 a1 _ _).2 h
theorem a_86 (X : GX) {z : Nat} {kd : Nat → Nat × Nat} {Rf : Nat → Nat → Option Nat} (hS : Sh z kd Rf) {n dp d : Nat} (hd : dp ≤ d) {I : (Nat → Nat → Int32)} {L : (Nat → Nat → Int64)} {a0 : Nat} {a1 : Nat} {i2 : Int32} {i3 : Int32} {I1 : (Nat → Nat → Int32)} {L1 : (Nat → Nat → Int64)} (h : g_86 n dp (z, kd, Rf) 0 I L i2 i3 0 a0 a1 = some (I1, L1)) : Ct X d 86 0 0 [.ref a0, .ref a1, .int i2, .int i3] (z, kd, I, L, Rf) (AV (fun τ => τ = (z, kd, I1, L1, Rf))) :=
  Ct_of mu_86 (Nat.le_of_ble_eq_true rfl) ((w_86 X hS n dp d hd I L i2 i3 0 a0 a1 _ _).1 h)

/-! 83 CutFloor$Cuttings.choose(LCutFloor$Cuttings;LCutFloor$Tree;II)V -/
set_option maxHeartbeats 4000000 in
set_option maxRecDepth 100000 in
def g_83 : Nat → Nat → EN → Nat → (Nat → Nat → Int32) → (Nat → Nat → Int64) → Int32 → Int32 → Int32 → Int32 → Int32 → Nat → Nat →  Option ((Nat → Nat → Int32) × (Nat → Nat → Int64))
  | 0, _, _, _, _, _, _, _, _, _, _, _, _ => none
  | n + 1, dp, e, lab, I, L, i2, i3, i4, i5, i6, a0, a1 =>
    if lab = 0 then (if a0 < e.1 ∧ (e.2.1 a0).1 = 2 then (if (I a0 4) ≤ (64 : Int32) then (if i2 < (10 : Int32) then (if a0 < e.1 ∧ (e.2.1 a0).1 = 2 then ((e.2.2 a0 3).bind (fun b_22 => (if (b_22 < e.1 ∧ (e.2.1 b_22).1 = 13 ∧ (e.2.1 b_22).2 < 2 ^ 31) ∧ 0 ≤ i2 ∧ (Int32.toNatClampNeg i2) < (e.2.1 b_22).2 then (stI (I b_22 (Int32.toNatClampNeg i2)) (fun v_27 => (if a0 < e.1 ∧ (e.2.1 a0).1 = 2 then ((e.2.2 a0 2).bind (fun b_30 => (if (b_30 < e.1 ∧ (e.2.1 b_30).1 = 13 ∧ (e.2.1 b_30).2 < 2 ^ 31) ∧ 0 ≤ i2 ∧ (Int32.toNatClampNeg i2) < (e.2.1 b_30).2 then (stI (u2 I b_30 (Int32.toNatClampNeg i2) (-1 : Int32)) (fun I_35 => (if 1 ≤ dp then (g_83 n (dp - 1) e 0 I_35 L (i2 + (1 : Int32)) i3 0 0 0 a0 a1).bind (fun ⟨I0_42, L0_42⟩ => (g_83 n dp e 1 I0_42 L0_42 i2 i3 v_27 (0 : Int32) 0 a0 a1)) else none))) else none))) else none))) else none))) else none) else (if a0 < e.1 ∧ (e.2.1 a0).1 = 2 then (if 1 ≤ dp then (g_84 n (dp - 1) e 0 I L 0 a0).bind (fun ⟨I0_17, L0_17⟩ => (some (I0_17, L0_17))) else none) else none)) else (some (I, L))) else none)
    else if lab = 1 then (if a1 < e.1 ∧ (e.2.1 a1).1 = 10 then (if (I a1 11) ≤ i5 then (some (I, L)) else (if i4 ≤ 0 then (some (I, L)) else (if a1 < e.1 ∧ (e.2.1 a1).1 = 10 then (if 1 ≤ dp then (g_85 n (dp - 1) e 0 I L i5 0 0 a1).bind (fun ⟨x0_68, I0_68, L0_68⟩ => (stI (i3 + (i4 * (x0_68 - (1 : Int32)))) (fun v_75 => (if a1 < e.1 ∧ (e.2.1 a1).1 = 10 then ((e.2.2 a1 5).bind (fun b_78 => (if (b_78 < e.1 ∧ (e.2.1 b_78).1 = 13 ∧ (e.2.1 b_78).2 < 2 ^ 31) ∧ 0 ≤ i5 ∧ (Int32.toNatClampNeg i5) < (e.2.1 b_78).2 then (if (I0_68 b_78 (Int32.toNatClampNeg i5)) = i2 then (if a0 < e.1 ∧ (e.2.1 a0).1 = 2 then (if (((I0_68 a0 6) >>> (i5 &&& 31)) &&& (1 : Int32)) = (1 : Int32) then (if (200 : Int32) < v_75 then (g_83 n dp e 2 I0_68 L0_68 i2 i3 i4 i5 v_75 a0 a1) else (if a0 < e.1 ∧ (e.2.1 a0).1 = 2 then ((e.2.2 a0 2).bind (fun b_110 => (if (b_110 < e.1 ∧ (e.2.1 b_110).1 = 13 ∧ (e.2.1 b_110).2 < 2 ^ 31) ∧ 0 ≤ i2 ∧ (Int32.toNatClampNeg i2) < (e.2.1 b_110).2 then (stI (u2 I0_68 b_110 (Int32.toNatClampNeg i2) i5) (fun I_116 => (if a0 < e.1 ∧ (e.2.1 a0).1 = 2 then (if 1 ≤ dp then (g_86 n (dp - 1) e 0 I_116 L0_68 i5 i4 0 a0 a1).bind (fun ⟨I1_123, L1_123⟩ => (if 1 ≤ dp then (g_83 n (dp - 1) e 0 I1_123 L1_123 (i2 + (1 : Int32)) v_75 0 0 0 a0 a1).bind (fun ⟨I2_133, L2_133⟩ => (if a0 < e.1 ∧ (e.2.1 a0).1 = 2 then (if 1 ≤ dp then (g_86 n (dp - 1) e 0 I2_133 L2_133 i5 (-i4) 0 a0 a1).bind (fun ⟨I3_143, L3_143⟩ => (g_83 n dp e 2 I3_143 L3_143 i2 i3 i4 i5 v_75 a0 a1)) else none) else none)) else none)) else none) else none))) else none))) else none)) else (g_83 n dp e 2 I0_68 L0_68 i2 i3 i4 i5 v_75 a0 a1)) else none) else (g_83 n dp e 2 I0_68 L0_68 i2 i3 i4 i5 v_75 a0 a1)) else none))) else none)))) else none) else none))) else none)
    else if lab = 2 then (g_83 n dp e 1 I L i2 i3 i4 (i5 + Int32.ofInt (1)) 0 a0 a1)
    else none
set_option maxRecDepth 100000 in
theorem e_83_0 (n dp : Nat) (e : EN) (I : (Nat → Nat → Int32)) (L : (Nat → Nat → Int64)) (i2 : Int32) (i3 : Int32) (i4 : Int32) (i5 : Int32) (i6 : Int32) (a0 : Nat) (a1 : Nat) : g_83 (n + 1) dp e 0 I L i2 i3 i4 i5 i6 a0 a1 = (if a0 < e.1 ∧ (e.2.1 a0).1 = 2 then (if (I a0 4) ≤ (64 : Int32) then (if i2 < (10 : Int32) then (if a0 < e.1 ∧ (e.2.1 a0).1 = 2 then ((e.2.2 a0 3).bind (fun b_22 => (if (b_22 < e.1 ∧ (e.2.1 b_22).1 = 13 ∧ (e.2.1 b_22).2 < 2 ^ 31) ∧ 0 ≤ i2 ∧ (Int32.toNatClampNeg i2) < (e.2.1 b_22).2 then (stI (I b_22 (Int32.toNatClampNeg i2)) (fun v_27 => (if a0 < e.1 ∧ (e.2.1 a0).1 = 2 then ((e.2.2 a0 2).bind (fun b_30 => (if (b_30 < e.1 ∧ (e.2.1 b_30).1 = 13 ∧ (e.2.1 b_30).2 < 2 ^ 31) ∧ 0 ≤ i2 ∧ (Int32.toNatClampNeg i2) < (e.2.1 b_30).2 then (stI (u2 I b_30 (Int32.toNatClampNeg i2) (-1 : Int32)) (fun I_35 => (if 1 ≤ dp then (g_83 n (dp - 1) e 0 I_35 L (i2 + (1 : Int32)) i3 0 0 0 a0 a1).bind (fun ⟨I0_42, L0_42⟩ => (g_83 n dp e 1 I0_42 L0_42 i2 i3 v_27 (0 : Int32) 0 a0 a1)) else none))) else none))) else none))) else none))) else none) else (if a0 < e.1 ∧ (e.2.1 a0).1 = 2 then (if 1 ≤ dp then (g_84 n (dp - 1) e 0 I L 0 a0).bind (fun ⟨I0_17, L0_17⟩ => (some (I0_17, L0_17))) else none) else none)) else (some (I, L))) else none) := by rw [g_83.eq_2, if_pos (show (0 : Nat) = 0 from rfl)]
set_option maxRecDepth 100000 in
theorem e_83_1 (n dp : Nat) (e : EN) (I : (Nat → Nat → Int32)) (L : (Nat → Nat → Int64)) (i2 : Int32) (i3 : Int32) (i4 : Int32) (i5 : Int32) (i6 : Int32) (a0 : Nat) (a1 : Nat) : g_83 (n + 1) dp e 1 I L i2 i3 i4 i5 i6 a0 a1 = (if a1 < e.1 ∧ (e.2.1 a1).1 = 10 then (if (I a1 11) ≤ i5 then (some (I, L)) else (if i4 ≤ 0 then (some (I, L)) else (if a1 < e.1 ∧ (e.2.1 a1).1 = 10 then (if 1 ≤ dp then (g_85 n (dp - 1) e 0 I L i5 0 0 a1).bind (fun ⟨x0_68, I0_68, L0_68⟩ => (stI (i3 + (i4 * (x0_68 - (1 : Int32)))) (fun v_75 => (if a1 < e.1 ∧ (e.2.1 a1).1 = 10 then ((e.2.2 a1 5).bind (fun b_78 => (if (b_78 < e.1 ∧ (e.2.1 b_78).1 = 13 ∧ (e.2.1 b_78).2 < 2 ^ 31) ∧ 0 ≤ i5 ∧ (Int32.toNatClampNeg i5) < (e.2.1 b_78).2 then (if (I0_68 b_78 (Int32.toNatClampNeg i5)) = i2 then (if a0 < e.1 ∧ (e.2.1 a0).1 = 2 then (if (((I0_68 a0 6) >>> (i5 &&& 31)) &&& (1 : Int32)) = (1 : Int32) then (if (200 : Int32) < v_75 then (g_83 n dp e 2 I0_68 L0_68 i2 i3 i4 i5 v_75 a0 a1) else (if a0 < e.1 ∧ (e.2.1 a0).1 = 2 then ((e.2.2 a0 2).bind (fun b_110 => (if (b_110 < e.1 ∧ (e.2.1 b_110).1 = 13 ∧ (e.2.1 b_110).2 < 2 ^ 31) ∧ 0 ≤ i2 ∧ (Int32.toNatClampNeg i2) < (e.2.1 b_110).2 then (stI (u2 I0_68 b_110 (Int32.toNatClampNeg i2) i5) (fun I_116 => (if a0 < e.1 ∧ (e.2.1 a0).1 = 2 then (if 1 ≤ dp then (g_86 n (dp - 1) e 0 I_116 L0_68 i5 i4 0 a0 a1).bind (fun ⟨I1_123, L1_123⟩ => (if 1 ≤ dp then (g_83 n (dp - 1) e 0 I1_123 L1_123 (i2 + (1 : Int32)) v_75 0 0 0 a0 a1).bind (fun ⟨I2_133, L2_133⟩ => (if a0 < e.1 ∧ (e.2.1 a0).1 = 2 then (if 1 ≤ dp then (g_86 n (dp - 1) e 0 I2_133 L2_133 i5 (-i4) 0 a0 a1).bind (fun ⟨I3_143, L3_143⟩ => (g_83 n dp e 2 I3_143 L3_143 i2 i3 i4 i5 v_75 a0 a1)) else none) else none)) else none)) else none) else none))) else none))) else none)) else (g_83 n dp e 2 I0_68 L0_68 i2 i3 i4 i5 v_75 a0 a1)) else none) else (g_83 n dp e 2 I0_68 L0_68 i2 i3 i4 i5 v_75 a0 a1)) else none))) else none)))) else none) else none))) else none) := by rw [g_83.eq_2, if_neg (show ¬ ((1 : Nat) = 0) by decide), if_pos (show (1 : Nat) = 1 from rfl)]
set_option maxRecDepth 100000 in
theorem e_83_2 (n dp : Nat) (e : EN) (I : (Nat → Nat → Int32)) (L : (Nat → Nat → Int64)) (i2 : Int32) (i3 : Int32) (i4 : Int32) (i5 : Int32) (i6 : Int32) (a0 : Nat) (a1 : Nat) : g_83 (n + 1) dp e 2 I L i2 i3 i4 i5 i6 a0 a1 = (g_83 n dp e 1 I L i2 i3 i4 (i5 + Int32.ofInt (1)) 0 a0 a1) := by rw [g_83.eq_2, if_neg (show ¬ ((2 : Nat) = 0) by decide), if_neg (show ¬ ((2 : Nat) = 1) by decide), if_pos (show (2 : Nat) = 2 from rfl)]
set_option maxHeartbeats 8000000 in
set_option maxRecDepth 100000 in
theorem w_83 (X : GX) {z : Nat} {kd : Nat → Nat × Nat} {Rf : Nat → Nat → Option Nat} (hS : Sh z kd Rf) : ∀ (n dp d : Nat), dp ≤ d → ∀ (I : (Nat → Nat → Int32)) (L : (Nat → Nat → Int64)) (i2 : Int32) (i3 : Int32) (i4 : Int32) (i5 : Int32) (i6 : Int32) (a0 : Nat) (a1 : Nat) (I1 : (Nat → Nat → Int32)) (L1 : (Nat → Nat → Int64)), (g_83 n dp (z, kd, Rf) 0 I L i2 i3 i4 i5 i6 a0 a1 = some (I1, L1) → K X d 83 0 0 (AV (fun τ => τ = (z, kd, I1, L1, Rf))) 0 [some (.ref a0), some (.ref a1), some (.int i2), some (.int i3), none, none, none] [] (z, kd, I, L, Rf) 0 0) ∧
    (g_83 n dp (z, kd, Rf) 1 I L i2 i3 i4 i5 i6 a0 a1 = some (I1, L1) → K X d 83 0 0 (AV (fun τ => τ = (z, kd, I1, L1, Rf))) 48 [some (.ref a0), some (.ref a1), some (.int i2), some (.int i3), some (.int i4), some (.int i5), none] [] (z, kd, I, L, Rf) 0 0) ∧
    (g_83 n dp (z, kd, Rf) 2 I L i2 i3 i4 i5 i6 a0 a1 = some (I1, L1) → K X d 83 0 0 (AV (fun τ => τ = (z, kd, I1, L1, Rf))) 146 [some (.ref a0), some (.ref a1), some (.int i2), some (.int i3), some (.int i4), some (.int i5), some (.int i6)] [] (z, kd, I, L, Rf) 0 0) := by
  intro n
  induction n with
  | zero => intro dp d hdp I L i2 i3 i4 i5 i6 a0 a1 I1 L1; exact ⟨(fun h => by cases h), (fun h => by cases h), (fun h => by cases h)⟩
  | succ n ih =>
    intro dp d hdp I L i2 i3 i4 i5 i6 a0 a1 I1 L1
    refine ⟨?_, ?_, ?_⟩
    · intro h
      rw [e_83_0] at h
      refine K_of b_83_0 h_83_0 ?_
      refine q_aload rfl ?_
      obtain ⟨⟨z_1, k_1⟩, h⟩ := ite_some h
      refine q_getI (c0 := 2) (j := 4) rfl rfl z_1 (fst_eq k_1) (Or.inl rfl) (by decide) ?_
      refine q_iconst (64) (by decide) ?_
      refine q_icmp_le (fun c_6 => ?_) (fun c_6 => ?_)
      · rw [if_pos c_6] at h
        refine K_of b_83_10 h_83_10 ?_
        refine q_iload rfl ?_
        refine q_iconst (10) (by decide) ?_
        refine q_icmp_lt (fun c_13 => ?_) (fun c_13 => ?_)
        · rw [if_pos c_13] at h
          refine K_of b_83_21 h_83_21 ?_
          refine q_aload rfl ?_
          obtain ⟨⟨z_22, k_22⟩, h⟩ := ite_some h
          obtain ⟨b_22, r_22, h⟩ := Option.bind_eq_some_iff.mp h
          refine q_getRs (c0 := 2) (j := 3) rfl rfl z_22 (fst_eq k_22) rfl (by decide) r_22 ?_
          refine q_iload rfl ?_
          obtain ⟨⟨⟨z_26, k_26, m_26⟩, u_26, v_26⟩, h⟩ := ite_some h
          refine q_ialN (Int32.toNatClampNeg i2) (nx u_26) z_26 (fst_eq k_26) v_26 m_26 ?_
          obtain ⟨v_27, nv_27, h⟩ := stI_some h
          refine q_eqi nv_27.symm ?_
          refine q_istore (ls1 := [some (.ref a0), some (.ref a1), some (.int i2), some (.int i3), some (.int v_27), none, none]) (Nat.le_of_ble_eq_true rfl) rfl ?_
          refine q_aload rfl ?_
          obtain ⟨⟨z_30, k_30⟩, h⟩ := ite_some h
          obtain ⟨b_30, r_30, h⟩ := Option.bind_eq_some_iff.mp h
          refine q_getRs (c0 := 2) (j := 2) rfl rfl z_30 (fst_eq k_30) rfl (by decide) r_30 ?_
          refine q_iload rfl ?_
          refine q_iconst (-1) (by decide) ?_
          obtain ⟨⟨⟨z_35, k_35, m_35⟩, u_35, v_35⟩, h⟩ := ite_some h
          refine q_iasN (Int32.toNatClampNeg i2) (nx u_35) z_35 (fst_eq k_35) v_35 m_35 ?_
          obtain ⟨I_35, nI_35, h⟩ := stI_some h
          refine q_nI nI_35 ?_
          refine q_aload rfl ?_
          refine q_aload rfl ?_
          refine q_iload rfl ?_
          refine q_iconst (1) (by decide) ?_
          refine q_iadd ?_
          refine q_iload rfl ?_
          obtain ⟨d_42, h⟩ := ite_some h
          obtain ⟨⟨I0_42, L0_42⟩, e_42, h⟩ := Option.bind_eq_some_iff.mp h
          dsimp only at h
          refine q_fs4V (Ct_of mu_83 (Nat.le_of_ble_eq_true rfl) ((ih (dp - 1) (d - 1) (by omega) _ _ (i2 + (1 : Int32)) i3 0 0 0 a0 a1 _ _).1 e_42)) (by omega) (Nat.le_refl _) (Nat.le_refl _) rfl (Nat.le_of_ble_eq_true rfl) ?_
          refine q_iconst (0) (by decide) ?_
          refine q_istore (ls1 := [some (.ref a0), some (.ref a1), some (.int i2), some (.int i3), some (.int v_27), some (.int (0 : Int32)), none]) (Nat.le_of_ble_eq_true rfl) rfl ?_
          refine q_end ?_
          exact (ih dp d hdp _ _ i2 i3 v_27 (0 : Int32) 0 a0 a1 _ _).2.1 h
        · rw [if_neg c_13] at h
          refine q_aload rfl ?_
          obtain ⟨⟨z_17, k_17⟩, h⟩ := ite_some h
          obtain ⟨d_17, h⟩ := ite_some h
          obtain ⟨⟨I0_17, L0_17⟩, e_17, h⟩ := Option.bind_eq_some_iff.mp h
          dsimp only at h
          refine q_fv1V (a_84 X hS (d := d - 1) (by omega) e_17) (by omega) (Nat.le_refl _) (Nat.le_refl _) rfl (Nat.le_of_ble_eq_true rfl) ⟨z_17, k_17, by decide⟩ ?_
          cases h
          exact q_vret rfl (Nat.le_refl _) (Nat.le_refl _) rfl
      · rw [if_neg c_6] at h
        cases h
        exact q_vret rfl (Nat.le_refl _) (Nat.le_refl _) rfl
    · intro h
      rw [e_83_1] at h
      refine K_of b_83_48 h_83_48 ?_
      refine q_iload rfl ?_
      refine q_aload rfl ?_
      obtain ⟨⟨z_51, k_51⟩, h⟩ := ite_some h
      refine q_getI (c0 := 10) (j := 11) rfl rfl z_51 (fst_eq k_51) (Or.inl rfl) (by decide) ?_
      refine q_icmp_ge (fun c_54 => ?_) (fun c_54 => ?_)
      · rw [if_pos c_54] at h
        refine K_of b_83_152 h_83_152 ?_
        cases h
        exact q_vret rfl (Nat.le_refl _) (Nat.le_refl _) rfl
      · rw [if_neg c_54] at h
        refine q_iload rfl ?_
        refine q_if_le (fun c_59 => ?_) (fun c_59 => ?_)
        · rw [if_pos c_59] at h
          refine K_of b_83_152 h_83_152 ?_
          cases h
          exact q_vret rfl (Nat.le_refl _) (Nat.le_refl _) rfl
        · rw [if_neg c_59] at h
          refine q_iload rfl ?_
          refine q_iload rfl ?_
          refine q_aload rfl ?_
          refine q_iload rfl ?_
          obtain ⟨⟨z_68, k_68⟩, h⟩ := ite_some h
          obtain ⟨d_68, h⟩ := ite_some h
          obtain ⟨⟨x0_68, I0_68, L0_68⟩, e_68, h⟩ := Option.bind_eq_some_iff.mp h
          dsimp only at h
          refine q_fv2I (a_85 X hS (d := d - 1) (by omega) e_68) (by omega) (Nat.le_refl _) (Nat.le_refl _) rfl (Nat.le_of_ble_eq_true rfl) ⟨z_68, k_68, by decide⟩ ?_
          refine q_iconst (1) (by decide) ?_
          refine q_isub ?_
          refine q_imul ?_
          refine q_iadd ?_
          obtain ⟨v_75, nv_75, h⟩ := stI_some h
          refine q_eqi nv_75.symm ?_
          refine q_istore (ls1 := [some (.ref a0), some (.ref a1), some (.int i2), some (.int i3), some (.int i4), some (.int i5), some (.int v_75)]) (Nat.le_of_ble_eq_true rfl) rfl ?_
          refine q_aload rfl ?_
          obtain ⟨⟨z_78, k_78⟩, h⟩ := ite_some h
          obtain ⟨b_78, r_78, h⟩ := Option.bind_eq_some_iff.mp h
          refine q_getRs (c0 := 10) (j := 5) rfl rfl z_78 (fst_eq k_78) rfl (by decide) r_78 ?_
          refine q_iload rfl ?_
          obtain ⟨⟨⟨z_83, k_83, m_83⟩, u_83, v_83⟩, h⟩ := ite_some h
          refine q_ialN (Int32.toNatClampNeg i5) (nx u_83) z_83 (fst_eq k_83) v_83 m_83 ?_
          refine q_iload rfl ?_
          refine q_icmp_ne (fun c_85 => ?_) (fun c_85 => ?_)
          · rw [if_neg c_85] at h
            exact (ih dp d hdp _ _ i2 i3 i4 i5 v_75 a0 a1 _ _).2.2 h
          · rw [if_pos c_85] at h
            refine q_aload rfl ?_
            obtain ⟨⟨z_89, k_89⟩, h⟩ := ite_some h
            refine q_getI (c0 := 2) (j := 6) rfl rfl z_89 (fst_eq k_89) (Or.inl rfl) (by decide) ?_
            refine q_iload rfl ?_
            refine q_ishr ?_
            refine q_iconst (1) (by decide) ?_
            refine q_iand ?_
            refine q_iconst (1) (by decide) ?_
            refine q_icmp_ne (fun c_98 => ?_) (fun c_98 => ?_)
            · rw [if_neg c_98] at h
              exact (ih dp d hdp _ _ i2 i3 i4 i5 v_75 a0 a1 _ _).2.2 h
            · rw [if_pos c_98] at h
              refine q_iload rfl ?_
              refine q_iconst (200) (by decide) ?_
              refine q_icmp_gt (fun c_106 => ?_) (fun c_106 => ?_)
              · rw [if_pos c_106] at h
                exact (ih dp d hdp _ _ i2 i3 i4 i5 v_75 a0 a1 _ _).2.2 h
              · rw [if_neg c_106] at h
                refine q_aload rfl ?_
                obtain ⟨⟨z_110, k_110⟩, h⟩ := ite_some h
                obtain ⟨b_110, r_110, h⟩ := Option.bind_eq_some_iff.mp h
                refine q_getRs (c0 := 2) (j := 2) rfl rfl z_110 (fst_eq k_110) rfl (by decide) r_110 ?_
                refine q_iload rfl ?_
                refine q_iload rfl ?_
                obtain ⟨⟨⟨z_116, k_116, m_116⟩, u_116, v_116⟩, h⟩ := ite_some h
                refine q_iasN (Int32.toNatClampNeg i2) (nx u_116) z_116 (fst_eq k_116) v_116 m_116 ?_
                obtain ⟨I_116, nI_116, h⟩ := stI_some h
                refine q_nI nI_116 ?_
                refine q_aload rfl ?_
                refine q_aload rfl ?_
                refine q_iload rfl ?_
                refine q_iload rfl ?_
                obtain ⟨⟨z_123, k_123⟩, h⟩ := ite_some h
                obtain ⟨d_123, h⟩ := ite_some h
                obtain ⟨⟨I1_123, L1_123⟩, e_123, h⟩ := Option.bind_eq_some_iff.mp h
                dsimp only at h
                refine q_fv4V (a_86 X hS (d := d - 1) (by omega) e_123) (by omega) (Nat.le_refl _) (Nat.le_refl _) rfl (Nat.le_of_ble_eq_true rfl) ⟨z_123, k_123, by decide⟩ ?_
                refine q_aload rfl ?_
                refine q_aload rfl ?_
                refine q_iload rfl ?_
                refine q_iconst (1) (by decide) ?_
                refine q_iadd ?_
                refine q_iload rfl ?_
                obtain ⟨d_133, h⟩ := ite_some h
                obtain ⟨⟨I2_133, L2_133⟩, e_133, h⟩ := Option.bind_eq_some_iff.mp h
                dsimp only at h
                refine q_fs4V (Ct_of mu_83 (Nat.le_of_ble_eq_true rfl) ((ih (dp - 1) (d - 1) (by omega) _ _ (i2 + (1 : Int32)) v_75 0 0 0 a0 a1 _ _).1 e_133)) (by omega) (Nat.le_refl _) (Nat.le_refl _) rfl (Nat.le_of_ble_eq_true rfl) ?_
                refine q_aload rfl ?_
                refine q_aload rfl ?_
                refine q_iload rfl ?_
                refine q_iload rfl ?_
                refine q_ineg ?_
                obtain ⟨⟨z_143, k_143⟩, h⟩ := ite_some h
                obtain ⟨d_143, h⟩ := ite_some h
                obtain ⟨⟨I3_143, L3_143⟩, e_143, h⟩ := Option.bind_eq_some_iff.mp h
                dsimp only at h
                refine q_fv4V (a_86 X hS (d := d - 1) (by omega) e_143) (by omega) (Nat.le_refl _) (Nat.le_refl _) rfl (Nat.le_of_ble_eq_true rfl) ⟨z_143, k_143, by decide⟩ ?_
                refine q_end ?_
                exact (ih dp d hdp _ _ i2 i3 i4 i5 v_75 a0 a1 _ _).2.2 h
    · intro h
      rw [e_83_2] at h
      refine K_of b_83_146 h_83_146 ?_
      refine q_iinc (ls1 := [some (.ref a0), some (.ref a1), some (.int i2), some (.int i3), some (.int i4), some (.int (i5 + Int32.ofInt (1))), some (.int i6)]) rfl rfl ?_
      refine q_goto ?_
      refine K_mask [true, true, true, true, true, true, false] (Nat.le_of_ble_eq_true rfl) ?_
      exact (ih dp d hdp _ _ i2 i3 i4 (i5 + Int32.ofInt (1)) 0 a0 a1 _ _).2.1 h
theorem a_83 (X : GX) {z : Nat} {kd : Nat → Nat × Nat} {Rf : Nat → Nat → Option Nat} (hS : Sh z kd Rf) {n dp d : Nat} (hd : dp ≤ d) {I : (Nat → Nat → Int32)} {L : (Nat → Nat → Int64)} {a0 : Nat} {a1 : Nat} {i2 : Int32} {i3 : Int32} {I1 : (Nat → Nat → Int32)} {L1 : (Nat → Nat → Int64)} (h : g_83 n dp (z, kd, Rf) 0 I L i2 i3 0 0 0 a0 a1 = some (I1, L1)) : Ct X d 83 0 0 [.ref a0, .ref a1, .int i2, .int i3] (z, kd, I, L, Rf) (AV (fun τ => τ = (z, kd, I1, L1, Rf))) :=
  Ct_of mu_83 (Nat.le_of_ble_eq_true rfl) ((w_83 X hS n dp d hd I L i2 i3 0 0 0 a0 a1 _ _).1 h)

/-! 82 CutFloor$Cuttings.renew(LCutFloor$Tree;I)Z -/
set_option maxHeartbeats 4000000 in
set_option maxRecDepth 100000 in
def g_82 : Nat → Nat → EN → Nat → (Nat → Nat → Int32) → (Nat → Nat → Int64) → Int32 → Nat → Nat →  Option (Int32 × (Nat → Nat → Int32) × (Nat → Nat → Int64))
  | 0, _, _, _, _, _, _, _, _ => none
  | n + 1, dp, e, lab, I, L, i2, a0, a1 =>
    if lab = 0 then (if a1 < e.1 ∧ (e.2.1 a1).1 = 10 then (if a0 < e.1 ∧ (e.2.1 a0).1 = 2 then (if (I a1 13) = (I a0 5) then (if a0 < e.1 ∧ (e.2.1 a0).1 = 2 then (if i2 = (I a0 6) then (some ((0 : Int32), I, L)) else (g_82 n dp e 1 I L i2 a0 a1)) else none) else (g_82 n dp e 1 I L i2 a0 a1)) else none) else none)
    else if lab = 1 then (if a1 < e.1 ∧ (e.2.1 a1).1 = 10 then (if a0 < e.1 ∧ (e.2.1 a0).1 = 2 then (stI (u2 I a0 5 (I a1 13)) (fun I_26 => (if a0 < e.1 ∧ (e.2.1 a0).1 = 2 then (stI (u2 I_26 a0 6 i2) (fun I_31 => (if a0 < e.1 ∧ (e.2.1 a0).1 = 2 then (stI (u2 I_31 a0 4 (0 : Int32)) (fun I_36 => (if a0 < e.1 ∧ (e.2.1 a0).1 = 2 then ((e.2.2 a0 3).bind (fun b_40 => (if 1 ≤ dp then (g_36 n (dp - 1) e 0 I_36 L (0 : Int32) 0 0 b_40).bind (fun ⟨I0_44, L0_44⟩ => (if a0 < e.1 ∧ (e.2.1 a0).1 = 2 then ((e.2.2 a0 3).bind (fun b_48 => (if (b_48 < e.1 ∧ (e.2.1 b_48).1 = 13 ∧ (e.2.1 b_48).2 < 2 ^ 31) ∧ 0 ≤ (0 : Int32) ∧ 0 < (e.2.1 b_48).2 then (stI (u2 I0_44 b_48 0 (1 : Int32)) (fun I_53 => (if 1 ≤ dp then (g_83 n (dp - 1) e 0 I_53 L0_44 (0 : Int32) (1 : Int32) 0 0 0 a0 a1).bind (fun ⟨I1_58, L1_58⟩ => (some ((1 : Int32), I1_58, L1_58))) else none))) else none))) else none)) else none))) else none))) else none))) else none))) else none) else none)
    else none
set_option maxRecDepth 100000 in
theorem e_82_0 (n dp : Nat) (e : EN) (I : (Nat → Nat → Int32)) (L : (Nat → Nat → Int64)) (i2 : Int32) (a0 : Nat) (a1 : Nat) : g_82 (n + 1) dp e 0 I L i2 a0 a1 = (if a1 < e.1 ∧ (e.2.1 a1).1 = 10 then (if a0 < e.1 ∧ (e.2.1 a0).1 = 2 then (if (I a1 13) = (I a0 5) then (if a0 < e.1 ∧ (e.2.1 a0).1 = 2 then (if i2 = (I a0 6) then (some ((0 : Int32), I, L)) else (g_82 n dp e 1 I L i2 a0 a1)) else none) else (g_82 n dp e 1 I L i2 a0 a1)) else none) else none) := by rw [g_82.eq_2, if_pos (show (0 : Nat) = 0 from rfl)]
set_option maxRecDepth 100000 in
theorem e_82_1 (n dp : Nat) (e : EN) (I : (Nat → Nat → Int32)) (L : (Nat → Nat → Int64)) (i2 : Int32) (a0 : Nat) (a1 : Nat) : g_82 (n + 1) dp e 1 I L i2 a0 a1 = (if a1 < e.1 ∧ (e.2.1 a1).1 = 10 then (if a0 < e.1 ∧ (e.2.1 a0).1 = 2 then (stI (u2 I a0 5 (I a1 13)) (fun I_26 => (if a0 < e.1 ∧ (e.2.1 a0).1 = 2 then (stI (u2 I_26 a0 6 i2) (fun I_31 => (if a0 < e.1 ∧ (e.2.1 a0).1 = 2 then (stI (u2 I_31 a0 4 (0 : Int32)) (fun I_36 => (if a0 < e.1 ∧ (e.2.1 a0).1 = 2 then ((e.2.2 a0 3).bind (fun b_40 => (if 1 ≤ dp then (g_36 n (dp - 1) e 0 I_36 L (0 : Int32) 0 0 b_40).bind (fun ⟨I0_44, L0_44⟩ => (if a0 < e.1 ∧ (e.2.1 a0).1 = 2 then ((e.2.2 a0 3).bind (fun b_48 => (if (b_48 < e.1 ∧ (e.2.1 b_48).1 = 13 ∧ (e.2.1 b_48).2 < 2 ^ 31) ∧ 0 ≤ (0 : Int32) ∧ 0 < (e.2.1 b_48).2 then (stI (u2 I0_44 b_48 0 (1 : Int32)) (fun I_53 => (if 1 ≤ dp then (g_83 n (dp - 1) e 0 I_53 L0_44 (0 : Int32) (1 : Int32) 0 0 0 a0 a1).bind (fun ⟨I1_58, L1_58⟩ => (some ((1 : Int32), I1_58, L1_58))) else none))) else none))) else none)) else none))) else none))) else none))) else none))) else none) else none) := by rw [g_82.eq_2, if_neg (show ¬ ((1 : Nat) = 0) by decide), if_pos (show (1 : Nat) = 1 from rfl)]
set_option maxHeartbeats 8000000 in
set_option maxRecDepth 100000 in
theorem w_82 (X : GX) {z : Nat} {kd : Nat → Nat × Nat} {Rf : Nat → Nat → Option Nat} (hS : Sh z kd Rf) : ∀ (n dp d : Nat), dp ≤ d → ∀ (I : (Nat → Nat → Int32)) (L : (Nat → Nat → Int64)) (i2 : Int32) (a0 : Nat) (a1 : Nat) (r : Int32) (I1 : (Nat → Nat → Int32)) (L1 : (Nat → Nat → Int64)), (g_82 n dp (z, kd, Rf) 0 I L i2 a0 a1 = some (r, I1, L1) → K X d 82 0 0 (AI (fun x τ => x = r ∧ τ = (z, kd, I1, L1, Rf))) 0 [some (.ref a0), some (.ref a1), some (.int i2)] [] (z, kd, I, L, Rf) 0 0) ∧
    (g_82 n dp (z, kd, Rf) 1 I L i2 a0 a1 = some (r, I1, L1) → K X d 82 0 0 (AI (fun x τ => x = r ∧ τ = (z, kd, I1, L1, Rf))) 21 [some (.ref a0), some (.ref a1), some (.int i2)] [] (z, kd, I, L, Rf) 0 0) := by
  intro n
  induction n with
  | zero => intro dp d hdp I L i2 a0 a1 r I1 L1; exact ⟨(fun h => by cases h), (fun h => by cases h)⟩
  | succ n ih =>
    intro dp d hdp I L i2 a0 a1 r I1 L1
    refine ⟨?_, ?_⟩
    · intro h
      rw [e_82_0] at h
      refine K_of b_82_0 h_82_0 ?_
      refine q_aload rfl ?_
      obtain ⟨⟨z_1, k_1⟩, h⟩ := ite_some h
      refine q_getI (c0 := 10) (j := 13) rfl rfl z_1 (fst_eq k_1) (Or.inl rfl) (by decide) ?_
      refine q_aload rfl ?_
      obtain ⟨⟨z_5, k_5⟩, h⟩ := ite_some h
      refine q_getI (c0 := 2) (j := 5) rfl rfl z_5 (fst_eq k_5) (Or.inl rfl) (by decide) ?_
      refine q_icmp_ne (fun c_8 => ?_) (fun c_8 => ?_)
      · rw [if_neg c_8] at h
        exact (ih dp d hdp _ _ i2 a0 a1 _ _ _).2 h
      · rw [if_pos c_8] at h
        refine q_iload rfl ?_
        refine q_aload rfl ?_
        obtain ⟨⟨z_13, k_13⟩, h⟩ := ite_some h
        refine q_getI (c0 := 2) (j := 6) rfl rfl z_13 (fst_eq k_13) (Or.inl rfl) (by decide) ?_
        refine q_icmp_ne (fun c_16 => ?_) (fun c_16 => ?_)
        · rw [if_neg c_16] at h
          exact (ih dp d hdp _ _ i2 a0 a1 _ _ _).2 h
        · rw [if_pos c_16] at h
          refine q_iconst (0) (by decide) ?_
          cases h
          exact q_iret rfl (Nat.le_refl _) (Nat.le_refl _) ⟨rfl, rfl⟩
    · intro h
      rw [e_82_1] at h
      refine K_of b_82_21 h_82_21 ?_
      refine q_aload rfl ?_
      refine q_aload rfl ?_
      obtain ⟨⟨z_23, k_23⟩, h⟩ := ite_some h
      refine q_getI (c0 := 10) (j := 13) rfl rfl z_23 (fst_eq k_23) (Or.inl rfl) (by decide) ?_
      obtain ⟨⟨z_26, k_26⟩, h⟩ := ite_some h
      refine q_putI (c0 := 2) (j := 5) rfl rfl z_26 (fst_eq k_26) rfl ?_
      obtain ⟨I_26, nI_26, h⟩ := stI_some h
      refine q_nI nI_26 ?_
      refine q_aload rfl ?_
      refine q_iload rfl ?_
      obtain ⟨⟨z_31, k_31⟩, h⟩ := ite_some h
      refine q_putI (c0 := 2) (j := 6) rfl rfl z_31 (fst_eq k_31) rfl ?_
      obtain ⟨I_31, nI_31, h⟩ := stI_some h
      refine q_nI nI_31 ?_
      refine q_aload rfl ?_
      refine q_iconst (0) (by decide) ?_
      obtain ⟨⟨z_36, k_36⟩, h⟩ := ite_some h
      refine q_putI (c0 := 2) (j := 4) rfl rfl z_36 (fst_eq k_36) rfl ?_
      obtain ⟨I_36, nI_36, h⟩ := stI_some h
      refine q_nI nI_36 ?_
      refine q_aload rfl ?_
      obtain ⟨⟨z_40, k_40⟩, h⟩ := ite_some h
      obtain ⟨b_40, r_40, h⟩ := Option.bind_eq_some_iff.mp h
      refine q_getRs (c0 := 2) (j := 3) rfl rfl z_40 (fst_eq k_40) rfl (by decide) r_40 ?_
      refine q_iconst (0) (by decide) ?_
      obtain ⟨d_44, h⟩ := ite_some h
      obtain ⟨⟨I0_44, L0_44⟩, e_44, h⟩ := Option.bind_eq_some_iff.mp h
      dsimp only at h
      refine q_fs2V (a_36 X hS (d := d - 1) (by omega) e_44) (by omega) (Nat.le_refl _) (Nat.le_refl _) rfl (Nat.le_of_ble_eq_true rfl) ?_
      refine q_aload rfl ?_
      obtain ⟨⟨z_48, k_48⟩, h⟩ := ite_some h
      obtain ⟨b_48, r_48, h⟩ := Option.bind_eq_some_iff.mp h
      refine q_getRs (c0 := 2) (j := 3) rfl rfl z_48 (fst_eq k_48) rfl (by decide) r_48 ?_
      refine q_iconst (0) (by decide) ?_
      refine q_iconst (1) (by decide) ?_
      obtain ⟨⟨⟨z_53, k_53, m_53⟩, u_53, v_53⟩, h⟩ := ite_some h
      refine q_iasN 0 rfl z_53 (fst_eq k_53) v_53 m_53 ?_
      obtain ⟨I_53, nI_53, h⟩ := stI_some h
      refine q_nI nI_53 ?_
      refine q_aload rfl ?_
      refine q_aload rfl ?_
      refine q_iconst (0) (by decide) ?_
      refine q_iconst (1) (by decide) ?_
      obtain ⟨d_58, h⟩ := ite_some h
      obtain ⟨⟨I1_58, L1_58⟩, e_58, h⟩ := Option.bind_eq_some_iff.mp h
      dsimp only at h
      refine q_fs4V (a_83 X hS (d := d - 1) (by omega) e_58) (by omega) (Nat.le_refl _) (Nat.le_refl _) rfl (Nat.le_of_ble_eq_true rfl) ?_
      refine q_iconst (1) (by decide) ?_
      cases h
      exact q_iret rfl (Nat.le_refl _) (Nat.le_refl _) ⟨rfl, rfl⟩
theorem a_82 (X : GX) {z : Nat} {kd : Nat → Nat × Nat} {Rf : Nat → Nat → Option Nat} (hS : Sh z kd Rf) {n dp d : Nat} (hd : dp ≤ d) {I : (Nat → Nat → Int32)} {L : (Nat → Nat → Int64)} {a0 : Nat} {a1 : Nat} {i2 : Int32} {I1 : (Nat → Nat → Int32)} {L1 : (Nat → Nat → Int64)} {r : Int32} (h : g_82 n dp (z, kd, Rf) 0 I L i2 a0 a1 = some (r, I1, L1)) : Ct X d 82 0 0 [.ref a0, .ref a1, .int i2] (z, kd, I, L, Rf) (AI (fun x τ => x = r ∧ τ = (z, kd, I1, L1, Rf))) :=
  Ct_of mu_82 (Nat.le_of_ble_eq_true rfl) ((w_82 X hS n dp d hd I L i2 a0 a1 _ _ _).1 h)

/-! 81 CutFloor$Planner.renewCuttings()V -/
set_option maxHeartbeats 4000000 in
set_option maxRecDepth 100000 in
def g_81 : Nat → Nat → EN → Nat → (Nat → Nat → Int32) → (Nat → Nat → Int64) → Int32 → Int32 → Int32 → Int32 →  Option ((Nat → Nat → Int32) × (Nat → Nat → Int64))
  | 0, _, _, _, _, _, _, _, _, _ => none
  | n + 1, dp, e, lab, I, L, i1, i2, i3, i4 =>
    if lab = 0 then (if (I 24 13) = 0 then (some (I, L)) else (g_81 n dp e 1 I L (0 : Int32) (0 : Int32) 0 0))
    else if lab = 1 then (if (3 : Int32) ≤ i2 then (stI (u2 I 24 13 (0 : Int32)) (fun I_91 => (if i1 = 0 then (some (I_91, L)) else (if 1 ≤ dp then (g_25 n (dp - 1) e 0 I_91 L).bind (fun ⟨I0_99, L0_99⟩ => (some (I0_99, L0_99))) else none)))) else (g_81 n dp e 2 I L i1 i2 (0 : Int32) (0 : Int32)))
    else if lab = 2 then ((e.2.2 1 7).bind (fun b_28 => (if b_28 < e.1 ∧ (e.2.1 b_28).1 = 10 then (if (I b_28 11) ≤ i4 then (if 0 ≤ i2 ∧ (Int32.toNatClampNeg i2) < 3 then (e.2.2 25 (Int32.toNatClampNeg i2)).bind (fun b_69 => ((e.2.2 1 7).bind (fun b_74 => (if b_69 < e.1 ∧ (e.2.1 b_69).1 = 2 then (if 1 ≤ dp then (g_82 n (dp - 1) e 0 I L i3 b_69 b_74).bind (fun ⟨x0_78, I0_78, L0_78⟩ => (g_81 n dp e 1 I0_78 L0_78 (i1 ||| x0_78) (i2 + Int32.ofInt (1)) 0 0)) else none) else none)))) else none) else (if 1 ≤ dp then (g_70 n (dp - 1) e 0 I L i4 i2).bind (fun ⟨x0_44, I0_44, L0_44⟩ => (if x0_44 = 0 then (g_81 n dp e 3 I0_44 L0_44 i1 i2 i3 i4) else (stI (i3 ||| ((1 : Int32) <<< (i4 &&& 31))) (fun v_56 => (g_81 n dp e 3 I0_44 L0_44 i1 i2 v_56 i4))))) else none)) else none)))
    else if lab = 3 then (g_81 n dp e 2 I L i1 i2 i3 (i4 + Int32.ofInt (1)))
    else none
set_option maxRecDepth 100000 in
theorem e_81_0 (n dp : Nat) (e : EN) (I : (Nat → Nat → Int32)) (L : (Nat → Nat → Int64)) (i1 : Int32) (i2 : Int32) (i3 : Int32) (i4 : Int32) : g_81 (n + 1) dp e 0 I L i1 i2 i3 i4 = (if (I 24 13) = 0 then (some (I, L)) else (g_81 n dp e 1 I L (0 : Int32) (0 : Int32) 0 0)) := by rw [g_81.eq_2, if_pos (show (0 : Nat) = 0 from rfl)]
set_option maxRecDepth 100000 in
theorem e_81_1 (n dp : Nat) (e : EN) (I : (Nat → Nat → Int32)) (L : (Nat → Nat → Int64)) (i1 : Int32) (i2 : Int32) (i3 : Int32) (i4 : Int32) : g_81 (n + 1) dp e 1 I L i1 i2 i3 i4 = (if (3 : Int32) ≤ i2 then (stI (u2 I 24 13 (0 : Int32)) (fun I_91 => (if i1 = 0 then (some (I_91, L)) else (if 1 ≤ dp then (g_25 n (dp - 1) e 0 I_91 L).bind (fun ⟨I0_99, L0_99⟩ => (some (I0_99, L0_99))) else none)))) else (g_81 n dp e 2 I L i1 i2 (0 : Int32) (0 : Int32))) := by rw [g_81.eq_2, if_neg (show ¬ ((1 : Nat) = 0) by decide), if_pos (show (1 : Nat) = 1 from rfl)]
set_option maxRecDepth 100000 in
theorem e_81_2 (n dp : Nat) (e : EN) (I : (Nat → Nat → Int32)) (L : (Nat → Nat → Int64)) (i1 : Int32) (i2 : Int32) (i3 : Int32) (i4 : Int32) : g_81 (n + 1) dp e 2 I L i1 i2 i3 i4 = ((e.2.2 1 7).bind (fun b_28 => (if b_28 < e.1 ∧ (e.2.1 b_28).1 = 10 then (if (I b_28 11) ≤ i4 then (if 0 ≤ i2 ∧ (Int32.toNatClampNeg i2) < 3 then (e.2.2 25 (Int32.toNatClampNeg i2)).bind (fun b_69 => ((e.2.2 1 7).bind (fun b_74 => (if b_69 < e.1 ∧ (e.2.1 b_69).1 = 2 then (if 1 ≤ dp then (g_82 n (dp - 1) e 0 I L i3 b_69 b_74).bind (fun ⟨x0_78, I0_78, L0_78⟩ => (g_81 n dp e 1 I0_78 L0_78 (i1 ||| x0_78) (i2 + Int32.ofInt (1)) 0 0)) else none) else none)))) else none) else (if 1 ≤ dp then (g_70 n (dp - 1) e 0 I L i4 i2).bind (fun ⟨x0_44, I0_44, L0_44⟩ => (if x0_44 = 0 then (g_81 n dp e 3 I0_44 L0_44 i1 i2 i3 i4) else (stI (i3 ||| ((1 : Int32) <<< (i4 &&& 31))) (fun v_56 => (g_81 n dp e 3 I0_44 L0_44 i1 i2 v_56 i4))))) else none)) else none))) := by rw [g_81.eq_2, if_neg (show ¬ ((2 : Nat) = 0) by decide), if_neg (show ¬ ((2 : Nat) = 1) by decide), if_pos (show (2 : Nat) = 2 from rfl)]
set_option maxRecDepth 100000 in
theorem e_81_3 (n dp : Nat) (e : EN) (I : (Nat → Nat → Int32)) (L : (Nat → Nat → Int64)) (i1 : Int32) (i2 : Int32) (i3 : Int32) (i4 : Int32) : g_81 (n + 1) dp e 3 I L i1 i2 i3 i4 = (g_81 n dp e 2 I L i1 i2 i3 (i4 + Int32.ofInt (1))) := by rw [g_81.eq_2, if_neg (show ¬ ((3 : Nat) = 0) by decide), if_neg (show ¬ ((3 : Nat) = 1) by decide), if_neg (show ¬ ((3 : Nat) = 2) by decide), if_pos (show (3 : Nat) = 3 from rfl)]
set_option maxHeartbeats 8000000 in
set_option maxRecDepth 100000 in
theorem w_81 (X : GX) {z : Nat} {kd : Nat → Nat × Nat} {Rf : Nat → Nat → Option Nat} (hS : Sh z kd Rf) : ∀ (n dp d : Nat), dp ≤ d → ∀ (I : (Nat → Nat → Int32)) (L : (Nat → Nat → Int64)) (i1 : Int32) (i2 : Int32) (i3 : Int32) (i4 : Int32) (I1 : (Nat → Nat → Int32)) (L1 : (Nat → Nat → Int64)), (g_81 n dp (z, kd, Rf) 0 I L i1 i2 i3 i4 = some (I1, L1) → K X d 81 0 0 (AV (fun τ => τ = (z, kd, I1, L1, Rf))) 0 [some (.ref 24), none, none, none, none] [] (z, kd, I, L, Rf) 0 0) ∧
    (g_81 n dp (z, kd, Rf) 1 I L i1 i2 i3 i4 = some (I1, L1) → K X d 81 0 0 (AV (fun τ => τ = (z, kd, I1, L1, Rf))) 12 [some (.ref 24), some (.int i1), some (.int i2), none, none] [] (z, kd, I, L, Rf) 0 0) ∧
    (g_81 n dp (z, kd, Rf) 2 I L i1 i2 i3 i4 = some (I1, L1) → K X d 81 0 0 (AV (fun τ => τ = (z, kd, I1, L1, Rf))) 22 [some (.ref 24), some (.int i1), some (.int i2), some (.int i3), some (.int i4)] [] (z, kd, I, L, Rf) 0 0) ∧
    (g_81 n dp (z, kd, Rf) 3 I L i1 i2 i3 i4 = some (I1, L1) → K X d 81 0 0 (AV (fun τ => τ = (z, kd, I1, L1, Rf))) 57 [some (.ref 24), some (.int i1), some (.int i2), some (.int i3), some (.int i4)] [] (z, kd, I, L, Rf) 0 0) := by
  intro n
  induction n with
  | zero => intro dp d hdp I L i1 i2 i3 i4 I1 L1; exact ⟨(fun h => by cases h), (fun h => by cases h), (fun h => by cases h), (fun h => by cases h)⟩
  | succ n ih =>
    intro dp d hdp I L i1 i2 i3 i4 I1 L1
    refine ⟨?_, ?_, ?_, ?_⟩
    · intro h
      rw [e_81_0] at h
      refine K_of b_81_0 h_81_0 ?_
      refine q_aload rfl ?_
      refine q_getI (c0 := 7) (j := 13) rfl rfl (zl hS 24 (by decide)) (sk hS 24 (by decide) rfl) (Or.inr rfl) (by decide) ?_
      refine q_if_ne (fun c_4 => ?_) (fun c_4 => ?_)
      · rw [if_neg c_4] at h
        refine K_of b_81_8 h_81_8 ?_
        refine q_iconst (0) (by decide) ?_
        refine q_istore (ls1 := [some (.ref 24), some (.int (0 : Int32)), none, none, none]) (Nat.le_of_ble_eq_true rfl) rfl ?_
        refine q_iconst (0) (by decide) ?_
        refine q_istore (ls1 := [some (.ref 24), some (.int (0 : Int32)), some (.int (0 : Int32)), none, none]) (Nat.le_of_ble_eq_true rfl) rfl ?_
        refine q_end ?_
        exact (ih dp d hdp _ _ (0 : Int32) (0 : Int32) 0 0 _ _).2.1 h
      · rw [if_pos c_4] at h
        cases h
        exact q_vret rfl (Nat.le_refl _) (Nat.le_refl _) rfl
    · intro h
      rw [e_81_1] at h
      refine K_of b_81_12 h_81_12 ?_
      refine q_iload rfl ?_
      refine q_iconst (3) (by decide) ?_
      refine q_icmp_ge (fun c_14 => ?_) (fun c_14 => ?_)
      · rw [if_pos c_14] at h
        refine K_of b_81_89 h_81_89 ?_
        refine q_aload rfl ?_
        refine q_iconst (0) (by decide) ?_
        refine q_putZ (c0 := 7) (j := 13) rfl rfl (zl hS 24 (by decide)) (sk hS 24 (by decide) rfl) rfl (Or.inl rfl) ?_
        obtain ⟨I_91, nI_91, h⟩ := stI_some h
        refine q_nI nI_91 ?_
        refine q_iload rfl ?_
        refine q_if_eq (fun c_95 => ?_) (fun c_95 => ?_)
        · rw [if_pos c_95] at h
          refine K_of b_81_102 h_81_102 ?_
          cases h
          exact q_vret rfl (Nat.le_refl _) (Nat.le_refl _) rfl
        · rw [if_neg c_95] at h
          refine q_aload rfl ?_
          obtain ⟨d_99, h⟩ := ite_some h
          obtain ⟨⟨I0_99, L0_99⟩, e_99, h⟩ := Option.bind_eq_some_iff.mp h
          dsimp only at h
          refine q_fv1V (a_25 X hS (d := d - 1) (by omega) e_99) (by omega) (Nat.le_refl _) (Nat.le_refl _) rfl (Nat.le_of_ble_eq_true rfl) ⟨(zl hS 24 (by decide)), congrArg Prod.fst (sk hS 24 (by decide) rfl), by decide⟩ ?_
          refine q_end ?_
          refine K_of b_81_102 h_81_102 ?_
          cases h
          exact q_vret rfl (Nat.le_refl _) (Nat.le_refl _) rfl
      · rw [if_neg c_14] at h
        refine q_iconst (0) (by decide) ?_
        refine q_istore (ls1 := [some (.ref 24), some (.int i1), some (.int i2), some (.int (0 : Int32)), none]) (Nat.le_of_ble_eq_true rfl) rfl ?_
        refine q_iconst (0) (by decide) ?_
        refine q_istore (ls1 := [some (.ref 24), some (.int i1), some (.int i2), some (.int (0 : Int32)), some (.int (0 : Int32))]) (Nat.le_of_ble_eq_true rfl) rfl ?_
        refine q_end ?_
        exact (ih dp d hdp _ _ i1 i2 (0 : Int32) (0 : Int32) _ _).2.2.1 h
    · intro h
      rw [e_81_2] at h
      refine K_of b_81_22 h_81_22 ?_
      refine q_iload rfl ?_
      refine q_aload rfl ?_
      refine q_getRs (c0 := 7) (j := 0) rfl rfl (zl hS 24 (by decide)) (sk hS 24 (by decide) rfl) rfl (by decide) (r_24_0 hS) ?_
      obtain ⟨b_28, r_28, h⟩ := Option.bind_eq_some_iff.mp h
      refine q_getRs (c0 := 3) (j := 7) rfl rfl (zl hS 1 (by decide)) (sk hS 1 (by decide) rfl) rfl (by decide) r_28 ?_
      obtain ⟨⟨z_31, k_31⟩, h⟩ := ite_some h
      refine q_getI (c0 := 10) (j := 11) rfl rfl z_31 (fst_eq k_31) (Or.inl rfl) (by decide) ?_
      refine q_icmp_ge (fun c_34 => ?_) (fun c_34 => ?_)
      · rw [if_pos c_34] at h
        refine K_of b_81_63 h_81_63 ?_
        refine q_iload rfl ?_
        refine q_aload rfl ?_
        refine q_getRs (c0 := 7) (j := 2) rfl rfl (zl hS 24 (by decide)) (sk hS 24 (by decide) rfl) rfl (by decide) (r_24_2 hS) ?_
        refine q_iload rfl ?_
        obtain ⟨⟨u_69, v_69⟩, h⟩ := ite_some h
        obtain ⟨b_69, r_69, h⟩ := Option.bind_eq_some_iff.mp h
        refine q_aald (zl hS 25 (by decide)) (sk hS 25 (by decide) rfl) (by decide) (in_of u_69 v_69) r_69 ?_
        refine q_aload rfl ?_
        refine q_getRs (c0 := 7) (j := 0) rfl rfl (zl hS 24 (by decide)) (sk hS 24 (by decide) rfl) rfl (by decide) (r_24_0 hS) ?_
        obtain ⟨b_74, r_74, h⟩ := Option.bind_eq_some_iff.mp h
        refine q_getRs (c0 := 3) (j := 7) rfl rfl (zl hS 1 (by decide)) (sk hS 1 (by decide) rfl) rfl (by decide) r_74 ?_
        refine q_iload rfl ?_
        obtain ⟨⟨z_78, k_78⟩, h⟩ := ite_some h
        obtain ⟨d_78, h⟩ := ite_some h
        obtain ⟨⟨x0_78, I0_78, L0_78⟩, e_78, h⟩ := Option.bind_eq_some_iff.mp h
        dsimp only at h
        refine q_fv3I (a_82 X hS (d := d - 1) (by omega) e_78) (by omega) (Nat.le_refl _) (Nat.le_refl _) rfl (Nat.le_of_ble_eq_true rfl) ⟨z_78, k_78, by decide⟩ ?_
        refine q_ior ?_
        refine q_istore (ls1 := [some (.ref 24), some (.int (i1 ||| x0_78)), some (.int i2), some (.int i3), some (.int i4)]) (Nat.le_of_ble_eq_true rfl) rfl ?_
        refine q_iinc (ls1 := [some (.ref 24), some (.int (i1 ||| x0_78)), some (.int (i2 + Int32.ofInt (1))), some (.int i3), some (.int i4)]) rfl rfl ?_
        refine q_goto ?_
        refine K_mask [true, true, true, false, false] (Nat.le_of_ble_eq_true rfl) ?_
        exact (ih dp d hdp _ _ (i1 ||| x0_78) (i2 + Int32.ofInt (1)) 0 0 _ _).2.1 h
      · rw [if_neg c_34] at h
        refine q_aload rfl ?_
        refine q_getRs (c0 := 7) (j := 1) rfl rfl (zl hS 24 (by decide)) (sk hS 24 (by decide) rfl) rfl (by decide) (r_24_1 hS) ?_
        refine q_iload rfl ?_
        refine q_iload rfl ?_
        obtain ⟨d_44, h⟩ := ite_some h
        obtain ⟨⟨x0_44, I0_44, L0_44⟩, e_44, h⟩ := Option.bind_eq_some_iff.mp h
        dsimp only at h
        refine q_fv3I (a_70 X hS (d := d - 1) (by omega) e_44) (by omega) (Nat.le_refl _) (Nat.le_refl _) rfl (Nat.le_of_ble_eq_true rfl) ⟨(zl hS 21 (by decide)), congrArg Prod.fst (sk hS 21 (by decide) rfl), by decide⟩ ?_
        refine q_if_eq (fun c_47 => ?_) (fun c_47 => ?_)
        · rw [if_pos c_47] at h
          exact (ih dp d hdp _ _ i1 i2 i3 i4 _ _).2.2.2 h
        · rw [if_neg c_47] at h
          refine q_iload rfl ?_
          refine q_iconst (1) (by decide) ?_
          refine q_iload rfl ?_
          refine q_ishl ?_
          refine q_ior ?_
          obtain ⟨v_56, nv_56, h⟩ := stI_some h
          refine q_eqi nv_56.symm ?_
          refine q_istore (ls1 := [some (.ref 24), some (.int i1), some (.int i2), some (.int v_56), some (.int i4)]) (Nat.le_of_ble_eq_true rfl) rfl ?_
          refine q_end ?_
          exact (ih dp d hdp _ _ i1 i2 v_56 i4 _ _).2.2.2 h
    · intro h
      rw [e_81_3] at h
      refine K_of b_81_57 h_81_57 ?_
      refine q_iinc (ls1 := [some (.ref 24), some (.int i1), some (.int i2), some (.int i3), some (.int (i4 + Int32.ofInt (1)))]) rfl rfl ?_
      refine q_goto ?_
      exact (ih dp d hdp _ _ i1 i2 i3 (i4 + Int32.ofInt (1)) _ _).2.2.1 h
theorem a_81 (X : GX) {z : Nat} {kd : Nat → Nat × Nat} {Rf : Nat → Nat → Option Nat} (hS : Sh z kd Rf) {n dp d : Nat} (hd : dp ≤ d) {I : (Nat → Nat → Int32)} {L : (Nat → Nat → Int64)} {I1 : (Nat → Nat → Int32)} {L1 : (Nat → Nat → Int64)} (h : g_81 n dp (z, kd, Rf) 0 I L 0 0 0 0 = some (I1, L1)) : Ct X d 81 0 0 [.ref 24] (z, kd, I, L, Rf) (AV (fun τ => τ = (z, kd, I1, L1, Rf))) :=
  Ct_of mu_81 (Nat.le_of_ble_eq_true rfl) ((w_81 X hS n dp d hd I L 0 0 0 0 _ _).1 h)

/-! 80 CutFloor.cuttings(I)I -/
set_option maxHeartbeats 4000000 in
set_option maxRecDepth 100000 in
def g_80 : Nat → Nat → EN → Nat → (Nat → Nat → Int32) → (Nat → Nat → Int64) → Int32 →  Option (Int32 × (Nat → Nat → Int32) × (Nat → Nat → Int64))
  | 0, _, _, _, _, _, _ => none
  | n + 1, dp, e, lab, I, L, i1 =>
    if lab = 0 then (if 1 ≤ dp then (g_14 n (dp - 1) e 0 I L i1 (0 : Int32) (2 : Int32)).bind (fun ⟨x0_3, I0_3, L0_3⟩ => (if x0_3 = 0 then (some ((-1 : Int32), I0_3, L0_3)) else (if 1 ≤ dp then (g_81 n (dp - 1) e 0 I0_3 L0_3 0 0 0 0).bind (fun ⟨I1_15, L1_15⟩ => (if 0 ≤ i1 ∧ (Int32.toNatClampNeg i1) < 3 then (e.2.2 25 (Int32.toNatClampNeg i1)).bind (fun b_26 => (if b_26 < e.1 ∧ (e.2.1 b_26).1 = 2 then (some ((I1_15 b_26 4), I1_15, L1_15)) else none)) else none)) else none))) else none)
    else none
set_option maxRecDepth 100000 in
theorem e_80_0 (n dp : Nat) (e : EN) (I : (Nat → Nat → Int32)) (L : (Nat → Nat → Int64)) (i1 : Int32) : g_80 (n + 1) dp e 0 I L i1 = (if 1 ≤ dp then (g_14 n (dp - 1) e 0 I L i1 (0 : Int32) (2 : Int32)).bind (fun ⟨x0_3, I0_3, L0_3⟩ => (if x0_3 = 0 then (some ((-1 : Int32), I0_3, L0_3)) else (if 1 ≤ dp then (g_81 n (dp - 1) e 0 I0_3 L0_3 0 0 0 0).bind (fun ⟨I1_15, L1_15⟩ => (if 0 ≤ i1 ∧ (Int32.toNatClampNeg i1) < 3 then (e.2.2 25 (Int32.toNatClampNeg i1)).bind (fun b_26 => (if b_26 < e.1 ∧ (e.2.1 b_26).1 = 2 then (some ((I1_15 b_26 4), I1_15, L1_15)) else none)) else none)) else none))) else none) := by rw [g_80.eq_2, if_pos (show (0 : Nat) = 0 from rfl)]
set_option maxHeartbeats 8000000 in
set_option maxRecDepth 100000 in
theorem w_80 (X : GX) {z : Nat} {kd : Nat → Nat × Nat} {Rf : Nat → Nat → Option Nat} (hS : Sh z kd Rf) : ∀ (n dp d : Nat), dp ≤ d → ∀ (I : (Nat → Nat → Int32)) (L : (Nat → Nat → Int64)) (i1 : Int32) (r : Int32) (I1 : (Nat → Nat → Int32)) (L1 : (Nat → Nat → Int64)), (g_80 n dp (z, kd, Rf) 0 I L i1 = some (r, I1, L1) → K X d 80 0 0 (AI (fun x τ => x = r ∧ τ = (z, kd, I1, L1, Rf))) 0 [some (.ref 0), some (.int i1)] [] (z, kd, I, L, Rf) 0 0) := by
  intro n
  induction n with
  | zero => intro dp d hdp I L i1 r I1 L1; exact fun h => by cases h
  | succ n ih =>
    intro dp d hdp I L i1 r I1 L1
    · intro h
      rw [e_80_0] at h
      refine K_of b_80_0 h_80_0 ?_
      refine q_iload rfl ?_
      refine q_iconst (0) (by decide) ?_
      refine q_iconst (2) (by decide) ?_
      obtain ⟨d_3, h⟩ := ite_some h
      obtain ⟨⟨x0_3, I0_3, L0_3⟩, e_3, h⟩ := Option.bind_eq_some_iff.mp h
      dsimp only at h
      refine q_fs3I (a_14 X hS (d := d - 1) (by omega) e_3) (by omega) (Nat.le_refl _) (Nat.le_refl _) rfl (Nat.le_of_ble_eq_true rfl) ?_
      refine q_if_ne (fun c_6 => ?_) (fun c_6 => ?_)
      · rw [if_neg c_6] at h
        refine K_of b_80_11 h_80_11 ?_
        refine q_aload rfl ?_
        refine q_getRs (c0 := 11) (j := 3) rfl rfl (zl hS 0 (by decide)) (sk hS 0 (by decide) rfl) rfl (by decide) (r_0_3 hS) ?_
        obtain ⟨d_15, h⟩ := ite_some h
        obtain ⟨⟨I1_15, L1_15⟩, e_15, h⟩ := Option.bind_eq_some_iff.mp h
        dsimp only at h
        refine q_fv1V (a_81 X hS (d := d - 1) (by omega) e_15) (by omega) (Nat.le_refl _) (Nat.le_refl _) rfl (Nat.le_of_ble_eq_true rfl) ⟨(zl hS 24 (by decide)), congrArg Prod.fst (sk hS 24 (by decide) rfl), by decide⟩ ?_
        refine q_aload rfl ?_
        refine q_getRs (c0 := 11) (j := 3) rfl rfl (zl hS 0 (by decide)) (sk hS 0 (by decide) rfl) rfl (by decide) (r_0_3 hS) ?_
        refine q_getRs (c0 := 7) (j := 2) rfl rfl (zl hS 24 (by decide)) (sk hS 24 (by decide) rfl) rfl (by decide) (r_24_2 hS) ?_
        refine q_iload rfl ?_
        obtain ⟨⟨u_26, v_26⟩, h⟩ := ite_some h
        obtain ⟨b_26, r_26, h⟩ := Option.bind_eq_some_iff.mp h
        refine q_aald (zl hS 25 (by decide)) (sk hS 25 (by decide) rfl) (by decide) (in_of u_26 v_26) r_26 ?_
        obtain ⟨⟨z_27, k_27⟩, h⟩ := ite_some h
        refine q_getI (c0 := 2) (j := 4) rfl rfl z_27 (fst_eq k_27) (Or.inl rfl) (by decide) ?_
        cases h
        exact q_iret rfl (Nat.le_refl _) (Nat.le_refl _) ⟨rfl, rfl⟩
      · rw [if_pos c_6] at h
        refine q_iconst (-1) (by decide) ?_
        cases h
        exact q_iret rfl (Nat.le_refl _) (Nat.le_refl _) ⟨rfl, rfl⟩
theorem a_80 (X : GX) {z : Nat} {kd : Nat → Nat × Nat} {Rf : Nat → Nat → Option Nat} (hS : Sh z kd Rf) {n dp d : Nat} (hd : dp ≤ d) {I : (Nat → Nat → Int32)} {L : (Nat → Nat → Int64)} {i1 : Int32} {I1 : (Nat → Nat → Int32)} {L1 : (Nat → Nat → Int64)} {r : Int32} (h : g_80 n dp (z, kd, Rf) 0 I L i1 = some (r, I1, L1)) : Ct X d 80 0 0 [.ref 0, .int i1] (z, kd, I, L, Rf) (AI (fun x τ => x = r ∧ τ = (z, kd, I1, L1, Rf))) :=
  Ct_of mu_80 (Nat.le_of_ble_eq_true rfl) ((w_80 X hS n dp d hd I L i1 _ _ _) h)

/-! 88 CutFloor.isThere(III)Z -/
set_option maxHeartbeats 4000000 in
set_option maxRecDepth 100000 in
def g_88 : Nat → Nat → EN → Nat → (Nat → Nat → Int32) → (Nat → Nat → Int64) → Int32 → Int32 → Int32 →  Option (Int32 × (Nat → Nat → Int32) × (Nat → Nat → Int64))
  | 0, _, _, _, _, _, _, _, _ => none
  | n + 1, dp, e, lab, I, L, i1, i2, i3 =>
    if lab = 0 then (if 1 ≤ dp then (g_14 n (dp - 1) e 0 I L i1 (0 : Int32) (2 : Int32)).bind (fun ⟨x0_3, I0_3, L0_3⟩ => (if x0_3 = 0 then (some ((0 : Int32), I0_3, L0_3)) else (if 1 ≤ dp then (g_14 n (dp - 1) e 0 I0_3 L0_3 i3 (0 : Int32) (9 : Int32)).bind (fun ⟨x1_13, I1_13, L1_13⟩ => (if x1_13 = 0 then (some ((0 : Int32), I1_13, L1_13)) else (if 1 ≤ dp then (g_81 n (dp - 1) e 0 I1_13 L1_13 0 0 0 0).bind (fun ⟨I2_25, L2_25⟩ => (if 0 ≤ i1 ∧ (Int32.toNatClampNeg i1) < 3 then (e.2.2 25 (Int32.toNatClampNeg i1)).bind (fun b_36 => (if b_36 < e.1 ∧ (e.2.1 b_36).1 = 2 then (if (64 : Int32) < (I2_25 b_36 4) then (some ((0 : Int32), I2_25, L2_25)) else (if 1 ≤ dp then (g_14 n (dp - 1) e 0 I2_25 L2_25 i2 (0 : Int32) ((I2_25 b_36 4) - (1 : Int32))).bind (fun ⟨x3_55, I3_55, L3_55⟩ => (if x3_55 = 0 then (some ((0 : Int32), I3_55, L3_55)) else (some ((1 : Int32), I3_55, L3_55)))) else none)) else none)) else none)) else none))) else none))) else none)
    else none
set_option maxRecDepth 100000 in
theorem e_88_0 (n dp : Nat) (e : EN) (I : (Nat → Nat → Int32)) (L : (Nat → Nat → Int64)) (i1 : Int32) (i2 : Int32) (i3 : Int32) : g_88 (n + 1) dp e 0 I L i1 i2 i3 = (if 1 ≤ dp then (g_14 n (dp - 1) e 0 I L i1 (0 : Int32) (2 : Int32)).bind (fun ⟨x0_3, I0_3, L0_3⟩ => (if x0_3 = 0 then (some ((0 : Int32), I0_3, L0_3)) else (if 1 ≤ dp then (g_14 n (dp - 1) e 0 I0_3 L0_3 i3 (0 : Int32) (9 : Int32)).bind (fun ⟨x1_13, I1_13, L1_13⟩ => (if x1_13 = 0 then (some ((0 : Int32), I1_13, L1_13)) else (if 1 ≤ dp then (g_81 n (dp - 1) e 0 I1_13 L1_13 0 0 0 0).bind (fun ⟨I2_25, L2_25⟩ => (if 0 ≤ i1 ∧ (Int32.toNatClampNeg i1) < 3 then (e.2.2 25 (Int32.toNatClampNeg i1)).bind (fun b_36 => (if b_36 < e.1 ∧ (e.2.1 b_36).1 = 2 then (if (64 : Int32) < (I2_25 b_36 4) then (some ((0 : Int32), I2_25, L2_25)) else (if 1 ≤ dp then (g_14 n (dp - 1) e 0 I2_25 L2_25 i2 (0 : Int32) ((I2_25 b_36 4) - (1 : Int32))).bind (fun ⟨x3_55, I3_55, L3_55⟩ => (if x3_55 = 0 then (some ((0 : Int32), I3_55, L3_55)) else (some ((1 : Int32), I3_55, L3_55)))) else none)) else none)) else none)) else none))) else none))) else none) := by rw [g_88.eq_2, if_pos (show (0 : Nat) = 0 from rfl)]
set_option maxHeartbeats 8000000 in
set_option maxRecDepth 100000 in
theorem w_88 (X : GX) {z : Nat} {kd : Nat → Nat × Nat} {Rf : Nat → Nat → Option Nat} (hS : Sh z kd Rf) : ∀ (n dp d : Nat), dp ≤ d → ∀ (I : (Nat → Nat → Int32)) (L : (Nat → Nat → Int64)) (i1 : Int32) (i2 : Int32) (i3 : Int32) (r : Int32) (I1 : (Nat → Nat → Int32)) (L1 : (Nat → Nat → Int64)), (g_88 n dp (z, kd, Rf) 0 I L i1 i2 i3 = some (r, I1, L1) → K X d 88 0 0 (AI (fun x τ => x = r ∧ τ = (z, kd, I1, L1, Rf))) 0 [some (.ref 0), some (.int i1), some (.int i2), some (.int i3), none] [] (z, kd, I, L, Rf) 0 0) := by
  intro n
  induction n with
  | zero => intro dp d hdp I L i1 i2 i3 r I1 L1; exact fun h => by cases h
  | succ n ih =>
    intro dp d hdp I L i1 i2 i3 r I1 L1
    · intro h
      rw [e_88_0] at h
      refine K_of b_88_0 h_88_0 ?_
      refine q_iload rfl ?_
      refine q_iconst (0) (by decide) ?_
      refine q_iconst (2) (by decide) ?_
      obtain ⟨d_3, h⟩ := ite_some h
      obtain ⟨⟨x0_3, I0_3, L0_3⟩, e_3, h⟩ := Option.bind_eq_some_iff.mp h
      dsimp only at h
      refine q_fs3I (a_14 X hS (d := d - 1) (by omega) e_3) (by omega) (Nat.le_refl _) (Nat.le_refl _) rfl (Nat.le_of_ble_eq_true rfl) ?_
      refine q_if_eq (fun c_6 => ?_) (fun c_6 => ?_)
      · rw [if_pos c_6] at h
        refine K_of b_88_19 h_88_19 ?_
        refine q_iconst (0) (by decide) ?_
        cases h
        exact q_iret rfl (Nat.le_refl _) (Nat.le_refl _) ⟨rfl, rfl⟩
      · rw [if_neg c_6] at h
        refine q_iload rfl ?_
        refine q_iconst (0) (by decide) ?_
        refine q_iconst (9) (by decide) ?_
        obtain ⟨d_13, h⟩ := ite_some h
        obtain ⟨⟨x1_13, I1_13, L1_13⟩, e_13, h⟩ := Option.bind_eq_some_iff.mp h
        dsimp only at h
        refine q_fs3I (a_14 X hS (d := d - 1) (by omega) e_13) (by omega) (Nat.le_refl _) (Nat.le_refl _) rfl (Nat.le_of_ble_eq_true rfl) ?_
        refine q_if_ne (fun c_16 => ?_) (fun c_16 => ?_)
        · rw [if_neg c_16] at h
          refine K_of b_88_21 h_88_21 ?_
          refine q_aload rfl ?_
          refine q_getRs (c0 := 11) (j := 3) rfl rfl (zl hS 0 (by decide)) (sk hS 0 (by decide) rfl) rfl (by decide) (r_0_3 hS) ?_
          obtain ⟨d_25, h⟩ := ite_some h
          obtain ⟨⟨I2_25, L2_25⟩, e_25, h⟩ := Option.bind_eq_some_iff.mp h
          dsimp only at h
          refine q_fv1V (a_81 X hS (d := d - 1) (by omega) e_25) (by omega) (Nat.le_refl _) (Nat.le_refl _) rfl (Nat.le_of_ble_eq_true rfl) ⟨(zl hS 24 (by decide)), congrArg Prod.fst (sk hS 24 (by decide) rfl), by decide⟩ ?_
          refine q_aload rfl ?_
          refine q_getRs (c0 := 11) (j := 3) rfl rfl (zl hS 0 (by decide)) (sk hS 0 (by decide) rfl) rfl (by decide) (r_0_3 hS) ?_
          refine q_getRs (c0 := 7) (j := 2) rfl rfl (zl hS 24 (by decide)) (sk hS 24 (by decide) rfl) rfl (by decide) (r_24_2 hS) ?_
          refine q_iload rfl ?_
          obtain ⟨⟨u_36, v_36⟩, h⟩ := ite_some h
          obtain ⟨b_36, r_36, h⟩ := Option.bind_eq_some_iff.mp h
          refine q_aald (zl hS 25 (by decide)) (sk hS 25 (by decide) rfl) (by decide) (in_of u_36 v_36) r_36 ?_
          obtain ⟨⟨z_37, k_37⟩, h⟩ := ite_some h
          refine q_getI (c0 := 2) (j := 4) rfl rfl z_37 (fst_eq k_37) (Or.inl rfl) (by decide) ?_
          refine q_istore (ls1 := [some (.ref 0), some (.int i1), some (.int i2), some (.int i3), some (.int (I2_25 b_36 4))]) (Nat.le_of_ble_eq_true rfl) rfl ?_
          refine q_iload rfl ?_
          refine q_iconst (64) (by decide) ?_
          refine q_icmp_gt (fun c_46 => ?_) (fun c_46 => ?_)
          · rw [if_pos c_46] at h
            refine K_of b_88_65 h_88_65 ?_
            refine q_iconst (0) (by decide) ?_
            refine q_end ?_
            refine K_of b_88_66 h_88_66 ?_
            cases h
            exact q_iret rfl (Nat.le_refl _) (Nat.le_refl _) ⟨rfl, rfl⟩
          · rw [if_neg c_46] at h
            refine q_iload rfl ?_
            refine q_iconst (0) (by decide) ?_
            refine q_iload rfl ?_
            refine q_iconst (1) (by decide) ?_
            refine q_isub ?_
            obtain ⟨d_55, h⟩ := ite_some h
            obtain ⟨⟨x3_55, I3_55, L3_55⟩, e_55, h⟩ := Option.bind_eq_some_iff.mp h
            dsimp only at h
            refine q_fs3I (a_14 X hS (d := d - 1) (by omega) e_55) (by omega) (Nat.le_refl _) (Nat.le_refl _) rfl (Nat.le_of_ble_eq_true rfl) ?_
            refine q_if_eq (fun c_58 => ?_) (fun c_58 => ?_)
            · rw [if_pos c_58] at h
              refine K_of b_88_65 h_88_65 ?_
              refine q_iconst (0) (by decide) ?_
              refine q_end ?_
              refine K_of b_88_66 h_88_66 ?_
              cases h
              exact q_iret rfl (Nat.le_refl _) (Nat.le_refl _) ⟨rfl, rfl⟩
            · rw [if_neg c_58] at h
              refine q_iconst (1) (by decide) ?_
              refine q_goto ?_
              refine K_of b_88_66 h_88_66 ?_
              cases h
              exact q_iret rfl (Nat.le_refl _) (Nat.le_refl _) ⟨rfl, rfl⟩
        · rw [if_pos c_16] at h
          refine q_end ?_
          refine K_of b_88_19 h_88_19 ?_
          refine q_iconst (0) (by decide) ?_
          cases h
          exact q_iret rfl (Nat.le_refl _) (Nat.le_refl _) ⟨rfl, rfl⟩
theorem a_88 (X : GX) {z : Nat} {kd : Nat → Nat × Nat} {Rf : Nat → Nat → Option Nat} (hS : Sh z kd Rf) {n dp d : Nat} (hd : dp ≤ d) {I : (Nat → Nat → Int32)} {L : (Nat → Nat → Int64)} {i1 : Int32} {i2 : Int32} {i3 : Int32} {I1 : (Nat → Nat → Int32)} {L1 : (Nat → Nat → Int64)} {r : Int32} (h : g_88 n dp (z, kd, Rf) 0 I L i1 i2 i3 = some (r, I1, L1)) : Ct X d 88 0 0 [.ref 0, .int i1, .int i2, .int i3] (z, kd, I, L, Rf) (AI (fun x τ => x = r ∧ τ = (z, kd, I1, L1, Rf))) :=
  Ct_of mu_88 (Nat.le_of_ble_eq_true rfl) ((w_88 X hS n dp d hd I L i1 i2 i3 _ _ _) h)

/-! 87 CutFloor.choice(III)I -/
set_option maxHeartbeats 4000000 in
set_option maxRecDepth 100000 in
def g_87 : Nat → Nat → EN → Nat → (Nat → Nat → Int32) → (Nat → Nat → Int64) → Int32 → Int32 → Int32 →  Option (Int32 × (Nat → Nat → Int32) × (Nat → Nat → Int64))
  | 0, _, _, _, _, _, _, _, _ => none
  | n + 1, dp, e, lab, I, L, i1, i2, i3 =>
    if lab = 0 then (if 1 ≤ dp then (g_88 n (dp - 1) e 0 I L i1 i2 i3).bind (fun ⟨x0_4, I0_4, L0_4⟩ => (if x0_4 = 0 then (some ((-100000 : Int32), I0_4, L0_4)) else (if 0 ≤ i1 ∧ (Int32.toNatClampNeg i1) < 3 then (e.2.2 25 (Int32.toNatClampNeg i1)).bind (fun b_21 => (if b_21 < e.1 ∧ (e.2.1 b_21).1 = 2 then ((e.2.2 b_21 0).bind (fun b_22 => (if (b_22 < e.1 ∧ (e.2.1 b_22).1 = 13 ∧ (e.2.1 b_22).2 < 2 ^ 31) ∧ 0 ≤ ((i2 * (10 : Int32)) + i3) ∧ (Int32.toNatClampNeg ((i2 * (10 : Int32)) + i3)) < (e.2.1 b_22).2 then (some ((I0_4 b_22 (Int32.toNatClampNeg ((i2 * (10 : Int32)) + i3))), I0_4, L0_4)) else none))) else none)) else none))) else none)
    else none
set_option maxRecDepth 100000 in
theorem e_87_0 (n dp : Nat) (e : EN) (I : (Nat → Nat → Int32)) (L : (Nat → Nat → Int64)) (i1 : Int32) (i2 : Int32) (i3 : Int32) : g_87 (n + 1) dp e 0 I L i1 i2 i3 = (if 1 ≤ dp then (g_88 n (dp - 1) e 0 I L i1 i2 i3).bind (fun ⟨x0_4, I0_4, L0_4⟩ => (if x0_4 = 0 then (some ((-100000 : Int32), I0_4, L0_4)) else (if 0 ≤ i1 ∧ (Int32.toNatClampNeg i1) < 3 then (e.2.2 25 (Int32.toNatClampNeg i1)).bind (fun b_21 => (if b_21 < e.1 ∧ (e.2.1 b_21).1 = 2 then ((e.2.2 b_21 0).bind (fun b_22 => (if (b_22 < e.1 ∧ (e.2.1 b_22).1 = 13 ∧ (e.2.1 b_22).2 < 2 ^ 31) ∧ 0 ≤ ((i2 * (10 : Int32)) + i3) ∧ (Int32.toNatClampNeg ((i2 * (10 : Int32)) + i3)) < (e.2.1 b_22).2 then (some ((I0_4 b_22 (Int32.toNatClampNeg ((i2 * (10 : Int32)) + i3))), I0_4, L0_4)) else none))) else none)) else none))) else none) := by rw [g_87.eq_2, if_pos (show (0 : Nat) = 0 from rfl)]
set_option maxHeartbeats 8000000 in
set_option maxRecDepth 100000 in
theorem w_87 (X : GX) {z : Nat} {kd : Nat → Nat × Nat} {Rf : Nat → Nat → Option Nat} (hS : Sh z kd Rf) : ∀ (n dp d : Nat), dp ≤ d → ∀ (I : (Nat → Nat → Int32)) (L : (Nat → Nat → Int64)) (i1 : Int32) (i2 : Int32) (i3 : Int32) (r : Int32) (I1 : (Nat → Nat → Int32)) (L1 : (Nat → Nat → Int64)), (g_87 n dp (z, kd, Rf) 0 I L i1 i2 i3 = some (r, I1, L1) → K X d 87 0 0 (AI (fun x τ => x = r ∧ τ = (z, kd, I1, L1, Rf))) 0 [some (.ref 0), some (.int i1), some (.int i2), some (.int i3)] [] (z, kd, I, L, Rf) 0 0) := by
  intro n
  induction n with
  | zero => intro dp d hdp I L i1 i2 i3 r I1 L1; exact fun h => by cases h
  | succ n ih =>
    intro dp d hdp I L i1 i2 i3 r I1 L1
    · intro h
      rw [e_87_0] at h
      refine K_of b_87_0 h_87_0 ?_
      refine q_aload rfl ?_
      refine q_iload rfl ?_
      refine q_iload rfl ?_
      refine q_iload rfl ?_
      obtain ⟨d_4, h⟩ := ite_some h
      obtain ⟨⟨x0_4, I0_4, L0_4⟩, e_4, h⟩ := Option.bind_eq_some_iff.mp h
      dsimp only at h
      refine q_fv4I (a_88 X hS (d := d - 1) (by omega) e_4) (by omega) (Nat.le_refl _) (Nat.le_refl _) rfl (Nat.le_of_ble_eq_true rfl) ⟨(zl hS 0 (by decide)), congrArg Prod.fst (sk hS 0 (by decide) rfl), by decide⟩ ?_
      refine q_if_ne (fun c_7 => ?_) (fun c_7 => ?_)
      · rw [if_neg c_7] at h
        refine K_of b_87_13 h_87_13 ?_
        refine q_aload rfl ?_
        refine q_getRs (c0 := 11) (j := 3) rfl rfl (zl hS 0 (by decide)) (sk hS 0 (by decide) rfl) rfl (by decide) (r_0_3 hS) ?_
        refine q_getRs (c0 := 7) (j := 2) rfl rfl (zl hS 24 (by decide)) (sk hS 24 (by decide) rfl) rfl (by decide) (r_24_2 hS) ?_
        refine q_iload rfl ?_
        obtain ⟨⟨u_21, v_21⟩, h⟩ := ite_some h
        obtain ⟨b_21, r_21, h⟩ := Option.bind_eq_some_iff.mp h
        refine q_aald (zl hS 25 (by decide)) (sk hS 25 (by decide) rfl) (by decide) (in_of u_21 v_21) r_21 ?_
        obtain ⟨⟨z_22, k_22⟩, h⟩ := ite_some h
        obtain ⟨b_22, r_22, h⟩ := Option.bind_eq_some_iff.mp h
        refine q_getRs (c0 := 2) (j := 0) rfl rfl z_22 (fst_eq k_22) rfl (by decide) r_22 ?_
        refine q_iload rfl ?_
        refine q_iconst (10) (by decide) ?_
        refine q_imul ?_
        refine q_iload rfl ?_
        refine q_iadd ?_
        obtain ⟨⟨⟨z_31, k_31, m_31⟩, u_31, v_31⟩, h⟩ := ite_some h
        refine q_ialN (Int32.toNatClampNeg ((i2 * (10 : Int32)) + i3)) (nx u_31) z_31 (fst_eq k_31) v_31 m_31 ?_
        cases h
        exact q_iret rfl (Nat.le_refl _) (Nat.le_refl _) ⟨rfl, rfl⟩
      · rw [if_pos c_7] at h
        refine q_iconst (-100000) (by decide) ?_
        cases h
        exact q_iret rfl (Nat.le_refl _) (Nat.le_refl _) ⟨rfl, rfl⟩
theorem a_87 (X : GX) {z : Nat} {kd : Nat → Nat × Nat} {Rf : Nat → Nat → Option Nat} (hS : Sh z kd Rf) {n dp d : Nat} (hd : dp ≤ d) {I : (Nat → Nat → Int32)} {L : (Nat → Nat → Int64)} {i1 : Int32} {i2 : Int32} {i3 : Int32} {I1 : (Nat → Nat → Int32)} {L1 : (Nat → Nat → Int64)} {r : Int32} (h : g_87 n dp (z, kd, Rf) 0 I L i1 i2 i3 = some (r, I1, L1)) : Ct X d 87 0 0 [.ref 0, .int i1, .int i2, .int i3] (z, kd, I, L, Rf) (AI (fun x τ => x = r ∧ τ = (z, kd, I1, L1, Rf))) :=
  Ct_of mu_87 (Nat.le_of_ble_eq_true rfl) ((w_87 X hS n dp d hd I L i1 i2 i3 _ _ _) h)

/-! 89 CutFloor.left(III)I -/
set_option maxHeartbeats 4000000 in
set_option maxRecDepth 100000 in
def g_89 : Nat → Nat → EN → Nat → (Nat → Nat → Int32) → (Nat → Nat → Int64) → Int32 → Int32 → Int32 →  Option (Int32 × (Nat → Nat → Int32) × (Nat → Nat → Int64))
  | 0, _, _, _, _, _, _, _, _ => none
  | n + 1, dp, e, lab, I, L, i1, i2, i3 =>
    if lab = 0 then (if 1 ≤ dp then (g_88 n (dp - 1) e 0 I L i1 i2 i3).bind (fun ⟨x0_4, I0_4, L0_4⟩ => (if x0_4 = 0 then (some ((-1 : Int32), I0_4, L0_4)) else (if 0 ≤ i1 ∧ (Int32.toNatClampNeg i1) < 3 then (e.2.2 25 (Int32.toNatClampNeg i1)).bind (fun b_20 => (if b_20 < e.1 ∧ (e.2.1 b_20).1 = 2 then ((e.2.2 b_20 1).bind (fun b_21 => (if (b_21 < e.1 ∧ (e.2.1 b_21).1 = 13 ∧ (e.2.1 b_21).2 < 2 ^ 31) ∧ 0 ≤ ((i2 * (10 : Int32)) + i3) ∧ (Int32.toNatClampNeg ((i2 * (10 : Int32)) + i3)) < (e.2.1 b_21).2 then (some ((I0_4 b_21 (Int32.toNatClampNeg ((i2 * (10 : Int32)) + i3))), I0_4, L0_4)) else none))) else none)) else none))) else none)
    else none
set_option maxRecDepth 100000 in
theorem e_89_0 (n dp : Nat) (e : EN) (I : (Nat → Nat → Int32)) (L : (Nat → Nat → Int64)) (i1 : Int32) (i2 : Int32) (i3 : Int32) : g_89 (n + 1) dp e 0 I L i1 i2 i3 = (if 1 ≤ dp then (g_88 n (dp - 1) e 0 I L i1 i2 i3).bind (fun ⟨x0_4, I0_4, L0_4⟩ => (if x0_4 = 0 then (some ((-1 : Int32), I0_4, L0_4)) else (if 0 ≤ i1 ∧ (Int32.toNatClampNeg i1) < 3 then (e.2.2 25 (Int32.toNatClampNeg i1)).bind (fun b_20 => (if b_20 < e.1 ∧ (e.2.1 b_20).1 = 2 then ((e.2.2 b_20 1).bind (fun b_21 => (if (b_21 < e.1 ∧ (e.2.1 b_21).1 = 13 ∧ (e.2.1 b_21).2 < 2 ^ 31) ∧ 0 ≤ ((i2 * (10 : Int32)) + i3) ∧ (Int32.toNatClampNeg ((i2 * (10 : Int32)) + i3)) < (e.2.1 b_21).2 then (some ((I0_4 b_21 (Int32.toNatClampNeg ((i2 * (10 : Int32)) + i3))), I0_4, L0_4)) else none))) else none)) else none))) else none) := by rw [g_89.eq_2, if_pos (show (0 : Nat) = 0 from rfl)]
set_option maxHeartbeats 8000000 in
set_option maxRecDepth 100000 in
theorem w_89 (X : GX) {z : Nat} {kd : Nat → Nat × Nat} {Rf : Nat → Nat → Option Nat} (hS : Sh z kd Rf) : ∀ (n dp d : Nat), dp ≤ d → ∀ (I : (Nat → Nat → Int32)) (L : (Nat → Nat → Int64)) (i1 : Int32) (i2 : Int32) (i3 : Int32) (r : Int32) (I1 : (Nat → Nat → Int32)) (L1 : (Nat → Nat → Int64)), (g_89 n dp (z, kd, Rf) 0 I L i1 i2 i3 = some (r, I1, L1) → K X d 89 0 0 (AI (fun x τ => x = r ∧ τ = (z, kd, I1, L1, Rf))) 0 [some (.ref 0), some (.int i1), some (.int i2), some (.int i3)] [] (z, kd, I, L, Rf) 0 0) := by
  intro n
  induction n with
  | zero => intro dp d hdp I L i1 i2 i3 r I1 L1; exact fun h => by cases h
  | succ n ih =>
    intro dp d hdp I L i1 i2 i3 r I1 L1
    · intro h
      rw [e_89_0] at h
      refine K_of b_89_0 h_89_0 ?_
      refine q_aload rfl ?_
      refine q_iload rfl ?_
      refine q_iload rfl ?_
      refine q_iload rfl ?_
      obtain ⟨d_4, h⟩ := ite_some h
      obtain ⟨⟨x0_4, I0_4, L0_4⟩, e_4, h⟩ := Option.bind_eq_some_iff.mp h
      dsimp only at h
      refine q_fv4I (a_88 X hS (d := d - 1) (by omega) e_4) (by omega) (Nat.le_refl _) (Nat.le_refl _) rfl (Nat.le_of_ble_eq_true rfl) ⟨(zl hS 0 (by decide)), congrArg Prod.fst (sk hS 0 (by decide) rfl), by decide⟩ ?_
      refine q_if_ne (fun c_7 => ?_) (fun c_7 => ?_)
      · rw [if_neg c_7] at h
        refine K_of b_89_12 h_89_12 ?_
        refine q_aload rfl ?_
        refine q_getRs (c0 := 11) (j := 3) rfl rfl (zl hS 0 (by decide)) (sk hS 0 (by decide) rfl) rfl (by decide) (r_0_3 hS) ?_
        refine q_getRs (c0 := 7) (j := 2) rfl rfl (zl hS 24 (by decide)) (sk hS 24 (by decide) rfl) rfl (by decide) (r_24_2 hS) ?_
        refine q_iload rfl ?_
        obtain ⟨⟨u_20, v_20⟩, h⟩ := ite_some h
        obtain ⟨b_20, r_20, h⟩ := Option.bind_eq_some_iff.mp h
        refine q_aald (zl hS 25 (by decide)) (sk hS 25 (by decide) rfl) (by decide) (in_of u_20 v_20) r_20 ?_
        obtain ⟨⟨z_21, k_21⟩, h⟩ := ite_some h
        obtain ⟨b_21, r_21, h⟩ := Option.bind_eq_some_iff.mp h
        refine q_getRs (c0 := 2) (j := 1) rfl rfl z_21 (fst_eq k_21) rfl (by decide) r_21 ?_
        refine q_iload rfl ?_
        refine q_iconst (10) (by decide) ?_
        refine q_imul ?_
        refine q_iload rfl ?_
        refine q_iadd ?_
        obtain ⟨⟨⟨z_30, k_30, m_30⟩, u_30, v_30⟩, h⟩ := ite_some h
        refine q_ialN (Int32.toNatClampNeg ((i2 * (10 : Int32)) + i3)) (nx u_30) z_30 (fst_eq k_30) v_30 m_30 ?_
        cases h
        exact q_iret rfl (Nat.le_refl _) (Nat.le_refl _) ⟨rfl, rfl⟩
      · rw [if_pos c_7] at h
        refine q_iconst (-1) (by decide) ?_
        cases h
        exact q_iret rfl (Nat.le_refl _) (Nat.le_refl _) ⟨rfl, rfl⟩
theorem a_89 (X : GX) {z : Nat} {kd : Nat → Nat × Nat} {Rf : Nat → Nat → Option Nat} (hS : Sh z kd Rf) {n dp d : Nat} (hd : dp ≤ d) {I : (Nat → Nat → Int32)} {L : (Nat → Nat → Int64)} {i1 : Int32} {i2 : Int32} {i3 : Int32} {I1 : (Nat → Nat → Int32)} {L1 : (Nat → Nat → Int64)} {r : Int32} (h : g_89 n dp (z, kd, Rf) 0 I L i1 i2 i3 = some (r, I1, L1)) : Ct X d 89 0 0 [.ref 0, .int i1, .int i2, .int i3] (z, kd, I, L, Rf) (AI (fun x τ => x = r ∧ τ = (z, kd, I1, L1, Rf))) :=
  Ct_of mu_89 (Nat.le_of_ble_eq_true rfl) ((w_89 X hS n dp d hd I L i1 i2 i3 _ _ _) h)

/-! 93 CutFloor$Planner.isPlanned(III)Z -/
set_option maxHeartbeats 4000000 in
set_option maxRecDepth 100000 in
def g_93 : Nat → Nat → EN → Nat → (Nat → Nat → Int32) → (Nat → Nat → Int64) → Int32 → Int32 → Int32 →  Option (Int32 × (Nat → Nat → Int32) × (Nat → Nat → Int64))
  | 0, _, _, _, _, _, _, _, _ => none
  | n + 1, dp, e, lab, I, L, i1, i2, i3 =>
    if lab = 0 then (if i1 = 0 then (g_93 n dp e 1 I L i1 i2 i3) else (if 0 ≤ (0 : Int32) ∧ (Int32.toNatClampNeg (0 : Int32)) < 3 then (e.2.2 25 (Int32.toNatClampNeg (0 : Int32))).bind (fun b_9 => (if b_9 < e.1 ∧ (e.2.1 b_9).1 = 2 then (if (64 : Int32) < (I b_9 4) then (some ((0 : Int32), I, L)) else (g_93 n dp e 1 I L i1 i2 i3)) else none)) else none))
    else if lab = 1 then (if i2 = 0 then (g_93 n dp e 2 I L i1 i2 i3) else (if 0 ≤ (1 : Int32) ∧ (Int32.toNatClampNeg (1 : Int32)) < 3 then (e.2.2 25 (Int32.toNatClampNeg (1 : Int32))).bind (fun b_27 => (if b_27 < e.1 ∧ (e.2.1 b_27).1 = 2 then (if (64 : Int32) < (I b_27 4) then (some ((0 : Int32), I, L)) else (g_93 n dp e 2 I L i1 i2 i3)) else none)) else none))
    else if lab = 2 then (if i3 = 0 then (g_93 n dp e 3 I L i1 i2 i3) else (if 0 ≤ (2 : Int32) ∧ (Int32.toNatClampNeg (2 : Int32)) < 3 then (e.2.2 25 (Int32.toNatClampNeg (2 : Int32))).bind (fun b_45 => (if b_45 < e.1 ∧ (e.2.1 b_45).1 = 2 then (if (64 : Int32) < (I b_45 4) then (some ((0 : Int32), I, L)) else (g_93 n dp e 3 I L i1 i2 i3)) else none)) else none))
    else if lab = 3 then (some ((1 : Int32), I, L))
    else none
set_option maxRecDepth 100000 in
theorem e_93_0 (n dp : Nat) (e : EN) (I : (Nat → Nat → Int32)) (L : (Nat → Nat → Int64)) (i1 : Int32) (i2 : Int32) (i3 : Int32) : g_93 (n + 1) dp e 0 I L i1 i2 i3 = (if i1 = 0 then (g_93 n dp e 1 I L i1 i2 i3) else (if 0 ≤ (0 : Int32) ∧ (Int32.toNatClampNeg (0 : Int32)) < 3 then (e.2.2 25 (Int32.toNatClampNeg (0 : Int32))).bind (fun b_9 => (if b_9 < e.1 ∧ (e.2.1 b_9).1 = 2 then (if (64 : Int32) < (I b_9 4) then (some ((0 : Int32), I, L)) else (g_93 n dp e 1 I L i1 i2 i3)) else none)) else none)) := by rw [g_93.eq_2, if_pos (show (0 : Nat) = 0 from rfl)]
set_option maxRecDepth 100000 in
theorem e_93_1 (n dp : Nat) (e : EN) (I : (Nat → Nat → Int32)) (L : (Nat → Nat → Int64)) (i1 : Int32) (i2 : Int32) (i3 : Int32) : g_93 (n + 1) dp e 1 I L i1 i2 i3 = (if i2 = 0 then (g_93 n dp e 2 I L i1 i2 i3) else (if 0 ≤ (1 : Int32) ∧ (Int32.toNatClampNeg (1 : Int32)) < 3 then (e.2.2 25 (Int32.toNatClampNeg (1 : Int32))).bind (fun b_27 => (if b_27 < e.1 ∧ (e.2.1 b_27).1 = 2 then (if (64 : Int32) < (I b_27 4) then (some ((0 : Int32), I, L)) else (g_93 n dp e 2 I L i1 i2 i3)) else none)) else none)) := by rw [g_93.eq_2, if_neg (show ¬ ((1 : Nat) = 0) by decide), if_pos (show (1 : Nat) = 1 from rfl)]
set_option maxRecDepth 100000 in
theorem e_93_2 (n dp : Nat) (e : EN) (I : (Nat → Nat → Int32)) (L : (Nat → Nat → Int64)) (i1 : Int32) (i2 : Int32) (i3 : Int32) : g_93 (n + 1) dp e 2 I L i1 i2 i3 = (if i3 = 0 then (g_93 n dp e 3 I L i1 i2 i3) else (if 0 ≤ (2 : Int32) ∧ (Int32.toNatClampNeg (2 : Int32)) < 3 then (e.2.2 25 (Int32.toNatClampNeg (2 : Int32))).bind (fun b_45 => (if b_45 < e.1 ∧ (e.2.1 b_45).1 = 2 then (if (64 : Int32) < (I b_45 4) then (some ((0 : Int32), I, L)) else (g_93 n dp e 3 I L i1 i2 i3)) else none)) else none)) := by rw [g_93.eq_2, if_neg (show ¬ ((2 : Nat) = 0) by decide), if_neg (show ¬ ((2 : Nat) = 1) by decide), if_pos (show (2 : Nat) = 2 from rfl)]
set_option maxRecDepth 100000 in
theorem e_93_3 (n dp : Nat) (e : EN) (I : (Nat → Nat → Int32)) (L : (Nat → Nat → Int64)) (i1 : Int32) (i2 : Int32) (i3 : Int32) : g_93 (n + 1) dp e 3 I L i1 i2 i3 = (some ((1 : Int32), I, L)) := by rw [g_93.eq_2, if_neg (show ¬ ((3 : Nat) = 0) by decide), if_neg (show ¬ ((3 : Nat) = 1) by decide), if_neg (show ¬ ((3 : Nat) = 2) by decide), if_pos (show (3 : Nat) = 3 from rfl)]
set_option maxHeartbeats 8000000 in
set_option maxRecDepth 100000 in
theorem w_93 (X : GX) {z : Nat} {kd : Nat → Nat × Nat} {Rf : Nat → Nat → Option Nat} (hS : Sh z kd Rf) : ∀ (n dp d : Nat), dp ≤ d → ∀ (I : (Nat → Nat → Int32)) (L : (Nat → Nat → Int64)) (i1 : Int32) (i2 : Int32) (i3 : Int32) (r : Int32) (I1 : (Nat → Nat → Int32)) (L1 : (Nat → Nat → Int64)), (g_93 n dp (z, kd, Rf) 0 I L i1 i2 i3 = some (r, I1, L1) → K X d 93 0 0 (AI (fun x τ => x = r ∧ τ = (z, kd, I1, L1, Rf))) 0 [some (.ref 24), some (.int i1), some (.int i2), some (.int i3)] [] (z, kd, I, L, Rf) 0 0) ∧
    (g_93 n dp (z, kd, Rf) 1 I L i1 i2 i3 = some (r, I1, L1) → K X d 93 0 0 (AI (fun x τ => x = r ∧ τ = (z, kd, I1, L1, Rf))) 18 [some (.ref 24), some (.int i1), some (.int i2), some (.int i3)] [] (z, kd, I, L, Rf) 0 0) ∧
    (g_93 n dp (z, kd, Rf) 2 I L i1 i2 i3 = some (r, I1, L1) → K X d 93 0 0 (AI (fun x τ => x = r ∧ τ = (z, kd, I1, L1, Rf))) 36 [some (.ref 24), some (.int i1), some (.int i2), some (.int i3)] [] (z, kd, I, L, Rf) 0 0) ∧
    (g_93 n dp (z, kd, Rf) 3 I L i1 i2 i3 = some (r, I1, L1) → K X d 93 0 0 (AI (fun x τ => x = r ∧ τ = (z, kd, I1, L1, Rf))) 54 [some (.ref 24), some (.int i1), some (.int i2), some (.int i3)] [] (z, kd, I, L, Rf) 0 0) := by
  intro n
  induction n with
  | zero => intro dp d hdp I L i1 i2 i3 r I1 L1; exact ⟨(fun h => by cases h), (fun h => by cases h), (fun h => by cases h), (fun h => by cases h)⟩
  | succ n ih =>
    intro dp d hdp I L i1 i2 i3 r I1 L1
    refine ⟨?_, ?_, ?_, ?_⟩
    · intro h
      rw [e_93_0] at h
      refine K_of b_93_0 h_93_0 ?_
      refine q_iload rfl ?_
      refine q_if_eq (fun c_1 => ?_) (fun c_1 => ?_)
      · rw [if_pos c_1] at h
        exact (ih dp d hdp _ _ i1 i2 i3 _ _ _).2.1 h
      · rw [if_neg c_1] at h
        refine q_aload rfl ?_
        refine q_getRs (c0 := 7) (j := 2) rfl rfl (zl hS 24 (by decide)) (sk hS 24 (by decide) rfl) rfl (by decide) (r_24_2 hS) ?_
        refine q_iconst (0) (by decide) ?_
        obtain ⟨⟨u_9, v_9⟩, h⟩ := ite_some h
        obtain ⟨b_9, r_9, h⟩ := Option.bind_eq_some_iff.mp h
        refine q_aald (zl hS 25 (by decide)) (sk hS 25 (by decide) rfl) (by decide) (in_of u_9 v_9) r_9 ?_
        obtain ⟨⟨z_10, k_10⟩, h⟩ := ite_some h
        refine q_getI (c0 := 2) (j := 4) rfl rfl z_10 (fst_eq k_10) (Or.inl rfl) (by decide) ?_
        refine q_iconst (64) (by decide) ?_
        refine q_icmp_gt (fun c_15 => ?_) (fun c_15 => ?_)
        · rw [if_pos c_15] at h
          refine K_of b_93_58 h_93_58 ?_
          refine q_iconst (0) (by decide) ?_
          refine q_end ?_
          refine K_of b_93_59 h_93_59 ?_
          cases h
          exact q_iret rfl (Nat.le_refl _) (Nat.le_refl _) ⟨rfl, rfl⟩
        · rw [if_neg c_15] at h
          refine q_end ?_
          exact (ih dp d hdp _ _ i1 i2 i3 _ _ _).2.1 h
    · intro h
      rw [e_93_1] at h
      refine K_of b_93_18 h_93_18 ?_
      refine q_iload rfl ?_
      refine q_if_eq (fun c_19 => ?_) (fun c_19 => ?_)
      · rw [if_pos c_19] at h
        exact (ih dp d hdp _ _ i1 i2 i3 _ _ _).2.2.1 h
      · rw [if_neg c_19] at h
        refine q_aload rfl ?_
        refine q_getRs (c0 := 7) (j := 2) rfl rfl (zl hS 24 (by decide)) (sk hS 24 (by decide) rfl) rfl (by decide) (r_24_2 hS) ?_
        refine q_iconst (1) (by decide) ?_
        obtain ⟨⟨u_27, v_27⟩, h⟩ := ite_some h
        obtain ⟨b_27, r_27, h⟩ := Option.bind_eq_some_iff.mp h
        refine q_aald (zl hS 25 (by decide)) (sk hS 25 (by decide) rfl) (by decide) (in_of u_27 v_27) r_27 ?_
        obtain ⟨⟨z_28, k_28⟩, h⟩ := ite_some h
        refine q_getI (c0 := 2) (j := 4) rfl rfl z_28 (fst_eq k_28) (Or.inl rfl) (by decide) ?_
        refine q_iconst (64) (by decide) ?_
        refine q_icmp_gt (fun c_33 => ?_) (fun c_33 => ?_)
        · rw [if_pos c_33] at h
          refine K_of b_93_58 h_93_58 ?_
          refine q_iconst (0) (by decide) ?_
          refine q_end ?_
          refine K_of b_93_59 h_93_59 ?_
          cases h
          exact q_iret rfl (Nat.le_refl _) (Nat.le_refl _) ⟨rfl, rfl⟩
        · rw [if_neg c_33] at h
          refine q_end ?_
          exact (ih dp d hdp _ _ i1 i2 i3 _ _ _).2.2.1 h
    · intro h
      rw [e_93_2] at h
      refine K_of b_93_36 h_93_36 ?_
      refine q_iload rfl ?_
      refine q_if_eq (fun c_37 => ?_) (fun c_37 => ?_)
      · rw [if_pos c_37] at h
        exact (ih dp d hdp _ _ i1 i2 i3 _ _ _).2.2.2 h
      · rw [if_neg c_37] at h
        refine q_aload rfl ?_
        refine q_getRs (c0 := 7) (j := 2) rfl rfl (zl hS 24 (by decide)) (sk hS 24 (by decide) rfl) rfl (by decide) (r_24_2 hS) ?_
        refine q_iconst (2) (by decide) ?_
        obtain ⟨⟨u_45, v_45⟩, h⟩ := ite_some h
        obtain ⟨b_45, r_45, h⟩ := Option.bind_eq_some_iff.mp h
        refine q_aald (zl hS 25 (by decide)) (sk hS 25 (by decide) rfl) (by decide) (in_of u_45 v_45) r_45 ?_
        obtain ⟨⟨z_46, k_46⟩, h⟩ := ite_some h
        refine q_getI (c0 := 2) (j := 4) rfl rfl z_46 (fst_eq k_46) (Or.inl rfl) (by decide) ?_
        refine q_iconst (64) (by decide) ?_
        refine q_icmp_gt (fun c_51 => ?_) (fun c_51 => ?_)
        · rw [if_pos c_51] at h
          refine K_of b_93_58 h_93_58 ?_
          refine q_iconst (0) (by decide) ?_
          refine q_end ?_
          refine K_of b_93_59 h_93_59 ?_
          cases h
          exact q_iret rfl (Nat.le_refl _) (Nat.le_refl _) ⟨rfl, rfl⟩
        · rw [if_neg c_51] at h
          refine q_end ?_
          exact (ih dp d hdp _ _ i1 i2 i3 _ _ _).2.2.2 h
    · intro h
      rw [e_93_3] at h
      refine K_of b_93_54 h_93_54 ?_
      refine q_iconst (1) (by decide) ?_
      refine q_goto ?_
      refine K_of b_93_59 h_93_59 ?_
      cases h
      exact q_iret rfl (Nat.le_refl _) (Nat.le_refl _) ⟨rfl, rfl⟩
theorem a_93 (X : GX) {z : Nat} {kd : Nat → Nat × Nat} {Rf : Nat → Nat → Option Nat} (hS : Sh z kd Rf) {n dp d : Nat} (hd : dp ≤ d) {I : (Nat → Nat → Int32)} {L : (Nat → Nat → Int64)} {i1 : Int32} {i2 : Int32} {i3 : Int32} {I1 : (Nat → Nat → Int32)} {L1 : (Nat → Nat → Int64)} {r : Int32} (h : g_93 n dp (z, kd, Rf) 0 I L i1 i2 i3 = some (r, I1, L1)) : Ct X d 93 0 0 [.ref 24, .int i1, .int i2, .int i3] (z, kd, I, L, Rf) (AI (fun x τ => x = r ∧ τ = (z, kd, I1, L1, Rf))) :=
  Ct_of mu_93 (Nat.le_of_ble_eq_true rfl) ((w_93 X hS n dp d hd I L i1 i2 i3 _ _ _).1 h)

/-! 94 CutFloor$Planner.spot(III)I -/
set_option maxHeartbeats 4000000 in
set_option maxRecDepth 100000 in
def g_94 : Nat → Nat → EN → Nat → (Nat → Nat → Int32) → (Nat → Nat → Int64) → Int32 → Int32 → Int32 →  Option (Int32 × (Nat → Nat → Int32) × (Nat → Nat → Int64))
  | 0, _, _, _, _, _, _, _, _ => none
  | n + 1, dp, e, lab, I, L, i0, i1, i2 =>
    if lab = 0 then (some (((((i0 * (9 : Int32)) + i1) * (9 : Int32)) + i2), I, L))
    else none
set_option maxRecDepth 100000 in
theorem e_94_0 (n dp : Nat) (e : EN) (I : (Nat → Nat → Int32)) (L : (Nat → Nat → Int64)) (i0 : Int32) (i1 : Int32) (i2 : Int32) : g_94 (n + 1) dp e 0 I L i0 i1 i2 = (some (((((i0 * (9 : Int32)) + i1) * (9 : Int32)) + i2), I, L)) := by rw [g_94.eq_2, if_pos (show (0 : Nat) = 0 from rfl)]
set_option maxHeartbeats 8000000 in
set_option maxRecDepth 100000 in
theorem w_94 (X : GX) {z : Nat} {kd : Nat → Nat × Nat} {Rf : Nat → Nat → Option Nat} (hS : Sh z kd Rf) : ∀ (n dp d : Nat), dp ≤ d → ∀ (I : (Nat → Nat → Int32)) (L : (Nat → Nat → Int64)) (i0 : Int32) (i1 : Int32) (i2 : Int32) (r : Int32) (I1 : (Nat → Nat → Int32)) (L1 : (Nat → Nat → Int64)), (g_94 n dp (z, kd, Rf) 0 I L i0 i1 i2 = some (r, I1, L1) → K X d 94 0 0 (AI (fun x τ => x = r ∧ τ = (z, kd, I1, L1, Rf))) 0 [some (.int i0), some (.int i1), some (.int i2)] [] (z, kd, I, L, Rf) 0 0) := by
  intro n
  induction n with
  | zero => intro dp d hdp I L i0 i1 i2 r I1 L1; exact fun h => by cases h
  | succ n ih =>
    intro dp d hdp I L i0 i1 i2 r I1 L1
    · intro h
      rw [e_94_0] at h
      refine K_of b_94_0 h_94_0 ?_
      refine q_iload rfl ?_
      refine q_iconst (9) (by decide) ?_
      refine q_imul ?_
      refine q_iload rfl ?_
      refine q_iadd ?_
      refine q_iconst (9) (by decide) ?_
      refine q_imul ?_
      refine q_iload rfl ?_
      refine q_iadd ?_
      cases h
      exact q_iret rfl (Nat.le_refl _) (Nat.le_refl _) ⟨rfl, rfl⟩
theorem a_94 (X : GX) {z : Nat} {kd : Nat → Nat × Nat} {Rf : Nat → Nat → Option Nat} (hS : Sh z kd Rf) {n dp d : Nat} (hd : dp ≤ d) {I : (Nat → Nat → Int32)} {L : (Nat → Nat → Int64)} {i0 : Int32} {i1 : Int32} {i2 : Int32} {I1 : (Nat → Nat → Int32)} {L1 : (Nat → Nat → Int64)} {r : Int32} (h : g_94 n dp (z, kd, Rf) 0 I L i0 i1 i2 = some (r, I1, L1)) : Ct X d 94 0 0 [.int i0, .int i1, .int i2] (z, kd, I, L, Rf) (AI (fun x τ => x = r ∧ τ = (z, kd, I1, L1, Rf))) :=
  Ct_of mu_94 (Nat.le_of_ble_eq_true rfl) ((w_94 X hS n dp d hd I L i0 i1 i2 _ _ _) h)

/-! 97 CutFloor$Offers.rate(LCutFloor$Hall;)V -/
set_option maxHeartbeats 4000000 in
set_option maxRecDepth 100000 in
def g_97 : Nat → Nat → EN → Nat → (Nat → Nat → Int32) → (Nat → Nat → Int64) → Int32 → Int32 → Int32 →  Option ((Nat → Nat → Int32) × (Nat → Nat → Int64))
  | 0, _, _, _, _, _, _, _, _ => none
  | n + 1, dp, e, lab, I, L, i2, i3, i4 =>
    if lab = 0 then (stI (u2 I 26 17 (0 : Int32)) (fun I_2 => (stI (u2 I_2 26 18 (0 : Int32)) (fun I_7 => (stI (u2 I_7 26 19 (1 : Int32)) (fun I_12 => (if 1 ≤ dp then (g_36 n (dp - 1) e 0 I_12 L (0 : Int32) 0 0 35).bind (fun ⟨I0_20, L0_20⟩ => (g_97 n dp e 1 I0_20 L0_20 (0 : Int32) 0 0)) else none)))))))
    else if lab = 1 then (if (10 : Int32) ≤ i2 then (g_97 n dp e 3 I L i2 0 0) else (if (5 : Int32) ≤ (I 26 17) then (g_97 n dp e 3 I L i2 0 0) else (if 0 ≤ ((20 : Int32) + i2) ∧ (Int32.toNatClampNeg ((20 : Int32) + i2)) < 30 then (stI (I 4 (Int32.toNatClampNeg ((20 : Int32) + i2))) (fun v_48 => (if 0 ≤ ((0 : Int32) + i2) ∧ (Int32.toNatClampNeg ((0 : Int32) + i2)) < 30 then (if 0 ≤ ((10 : Int32) + i2) ∧ (Int32.toNatClampNeg ((10 : Int32) + i2)) < 30 then (stI ((I 4 (Int32.toNatClampNeg ((0 : Int32) + i2))) - (I 4 (Int32.toNatClampNeg ((10 : Int32) + i2)))) (fun v_67 => (if v_48 ≤ 0 then (g_97 n dp e 2 I L i2 v_48 v_67) else (if v_67 = 0 then (g_97 n dp e 2 I L i2 v_48 v_67) else (if 0 ≤ (I 26 17) ∧ (Int32.toNatClampNeg (I 26 17)) < 5 then (stI (u2 I 34 (Int32.toNatClampNeg (I 26 17)) i2) (fun I_87 => (if 0 ≤ (I_87 26 17) ∧ (Int32.toNatClampNeg (I_87 26 17)) < 5 then (stI (u2 I_87 35 (Int32.toNatClampNeg (I_87 26 17)) v_48) (fun I_97 => (if 0 ≤ (I_97 26 17) ∧ (Int32.toNatClampNeg (I_97 26 17)) < 5 then (stI (u2 I_97 36 (Int32.toNatClampNeg (I_97 26 17)) (I_97 26 19)) (fun I_110 => (if 0 ≤ (I_110 26 17) ∧ (Int32.toNatClampNeg (I_110 26 17)) < 5 then (stI (u2 I_110 37 (Int32.toNatClampNeg (I_110 26 17)) (v_67 * (16 : Int32))) (fun I_124 => (stI (u2 I_124 26 19 ((I_124 26 19) * (v_48 + (1 : Int32)))) (fun I_134 => (stI (u2 I_134 26 17 ((I_134 26 17) + (1 : Int32))) (fun I_144 => (g_97 n dp e 2 I_144 L i2 v_48 v_67))))))) else none))) else none))) else none))) else none))))) else none) else none))) else none)))
    else if lab = 2 then (g_97 n dp e 1 I L (i2 + Int32.ofInt (1)) 0 0)
    else if lab = 3 then (g_97 n dp e 4 I L (0 : Int32) 0 0)
    else if lab = 4 then (if (5 : Int32) ≤ i2 then (some (I, L)) else (if 0 ≤ i2 ∧ (Int32.toNatClampNeg i2) < 5 then (stI (u2 I 26 18 ((I 26 18) ||| (((15 : Int32) - (I 35 (Int32.toNatClampNeg i2))) <<< (((5 : Int32) * i2) &&& 31)))) (fun I_179 => (g_97 n dp e 4 I_179 L (i2 + Int32.ofInt (1)) 0 0))) else none))
    else none
set_option maxRecDepth 100000 in
theorem e_97_0 (n dp : Nat) (e : EN) (I : (Nat → Nat → Int32)) (L : (Nat → Nat → Int64)) (i2 : Int32) (i3 : Int32) (i4 : Int32) : g_97 (n + 1) dp e 0 I L i2 i3 i4 = (stI (u2 I 26 17 (0 : Int32)) (fun I_2 => (stI (u2 I_2 26 18 (0 : Int32)) (fun I_7 => (stI (u2 I_7 26 19 (1 : Int32)) (fun I_12 => (if 1 ≤ dp then (g_36 n (dp - 1) e 0 I_12 L (0 : Int32) 0 0 35).bind (fun ⟨I0_20, L0_20⟩ => (g_97 n dp e 1 I0_20 L0_20 (0 : Int32) 0 0)) else none))))))) := by rw [g_97.eq_2, if_pos (show (0 : Nat) = 0 from rfl)]
set_option maxRecDepth 100000 in
theorem e_97_1 (n dp : Nat) (e : EN) (I : (Nat → Nat → Int32)) (L : (Nat → Nat → Int64)) (i2 : Int32) (i3 : Int32) (i4 : Int32) : g_97 (n + 1) dp e 1 I L i2 i3 i4 = (if (10 : Int32) ≤ i2 then (g_97 n dp e 3 I L i2 0 0) else (if (5 : Int32) ≤ (I 26 17) then (g_97 n dp e 3 I L i2 0 0) else (if 0 ≤ ((20 : Int32) + i2) ∧ (Int32.toNatClampNeg ((20 : Int32) + i2)) < 30 then (stI (I 4 (Int32.toNatClampNeg ((20 : Int32) + i2))) (fun v_48 => (if 0 ≤ ((0 : Int32) + i2) ∧ (Int32.toNatClampNeg ((0 : Int32) + i2)) < 30 then (if 0 ≤ ((10 : Int32) + i2) ∧ (Int32.toNatClampNeg ((10 : Int32) + i2)) < 30 then (stI ((I 4 (Int32.toNatClampNeg ((0 : Int32) + i2))) - (I 4 (Int32.toNatClampNeg ((10 : Int32) + i2)))) (fun v_67 => (if v_48 ≤ 0 then (g_97 n dp e 2 I L i2 v_48 v_67) else (if v_67 = 0 then (g_97 n dp e 2 I L i2 v_48 v_67) else (if 0 ≤ (I 26 17) ∧ (Int32.toNatClampNeg (I 26 17)) < 5 then (stI (u2 I 34 (Int32.toNatClampNeg (I 26 17)) i2) (fun I_87 => (if 0 ≤ (I_87 26 17) ∧ (Int32.toNatClampNeg (I_87 26 17)) < 5 then (stI (u2 I_87 35 (Int32.toNatClampNeg (I_87 26 17)) v_48) (fun I_97 => (if 0 ≤ (I_97 26 17) ∧ (Int32.toNatClampNeg (I_97 26 17)) < 5 then (stI (u2 I_97 36 (Int32.toNatClampNeg (I_97 26 17)) (I_97 26 19)) (fun I_110 => (if 0 ≤ (I_110 26 17) ∧ (Int32.toNatClampNeg (I_110 26 17)) < 5 then (stI (u2 I_110 37 (Int32.toNatClampNeg (I_110 26 17)) (v_67 * (16 : Int32))) (fun I_124 => (stI (u2 I_124 26 19 ((I_124 26 19) * (v_48 + (1 : Int32)))) (fun I_134 => (stI (u2 I_134 26 17 ((I_134 26 17) + (1 : Int32))) (fun I_144 => (g_97 n dp e 2 I_144 L i2 v_48 v_67))))))) else none))) else none))) else none))) else none))))) else none) else none))) else none))) := by rw [g_97.eq_2, if_neg (show ¬ ((1 : Nat) = 0) by decide), if_pos (show (1 : Nat) = 1 from rfl)]
set_option maxRecDepth 100000 in
theorem e_97_2 (n dp : Nat) (e : EN) (I : (Nat → Nat → Int32)) (L : (Nat → Nat → Int64)) (i2 : Int32) (i3 : Int32) (i4 : Int32) : g_97 (n + 1) dp e 2 I L i2 i3 i4 = (g_97 n dp e 1 I L (i2 + Int32.ofInt (1)) 0 0) := by rw [g_97.eq_2, if_neg (show ¬ ((2 : Nat) = 0) by decide), if_neg (show ¬ ((2 : Nat) = 1) by decide), if_pos (show (2 : Nat) = 2 from rfl)]
set_option maxRecDepth 100000 in
theorem e_97_3 (n dp : Nat) (e : EN) (I : (Nat → Nat → Int32)) (L : (Nat → Nat → Int64)) (i2 : Int32) (i3 : Int32) (i4 : Int32) : g_97 (n + 1) dp e 3 I L i2 i3 i4 = (g_97 n dp e 4 I L (0 : Int32) 0 0) := by rw [g_97.eq_2, if_neg (show ¬ ((3 : Nat) = 0) by decide), if_neg (show ¬ ((3 : Nat) = 1) by decide), if_neg (show ¬ ((3 : Nat) = 2) by decide), if_pos (show (3 : Nat) = 3 from rfl)]
set_option maxRecDepth 100000 in
theorem e_97_4 (n dp : Nat) (e : EN) (I : (Nat → Nat → Int32)) (L : (Nat → Nat → Int64)) (i2 : Int32) (i3 : Int32) (i4 : Int32) : g_97 (n + 1) dp e 4 I L i2 i3 i4 = (if (5 : Int32) ≤ i2 then (some (I, L)) else (if 0 ≤ i2 ∧ (Int32.toNatClampNeg i2) < 5 then (stI (u2 I 26 18 ((I 26 18) ||| (((15 : Int32) - (I 35 (Int32.toNatClampNeg i2))) <<< (((5 : Int32) * i2) &&& 31)))) (fun I_179 => (g_97 n dp e 4 I_179 L (i2 + Int32.ofInt (1)) 0 0))) else none)) := by rw [g_97.eq_2, if_neg (show ¬ ((4 : Nat) = 0) by decide), if_neg (show ¬ ((4 : Nat) = 1) by decide), if_neg (show ¬ ((4 : Nat) = 2) by decide), if_neg (show ¬ ((4 : Nat) = 3) by decide), if_pos (show (4 : Nat) = 4 from rfl)]
set_option maxHeartbeats 8000000 in
set_option maxRecDepth 100000 in
theorem w_97 (X : GX) {z : Nat} {kd : Nat → Nat × Nat} {Rf : Nat → Nat → Option Nat} (hS : Sh z kd Rf) : ∀ (n dp d : Nat), dp ≤ d → ∀ (I : (Nat → Nat → Int32)) (L : (Nat → Nat → Int64)) (i2 : Int32) (i3 : Int32) (i4 : Int32) (I1 : (Nat → Nat → Int32)) (L1 : (Nat → Nat → Int64)), (g_97 n dp (z, kd, Rf) 0 I L i2 i3 i4 = some (I1, L1) → K X d 97 0 0 (AV (fun τ => τ = (z, kd, I1, L1, Rf))) 0 [some (.ref 26), some (.ref 1), none, none, none] [] (z, kd, I, L, Rf) 0 0) ∧
    (g_97 n dp (z, kd, Rf) 1 I L i2 i3 i4 = some (I1, L1) → K X d 97 0 0 (AV (fun τ => τ = (z, kd, I1, L1, Rf))) 25 [some (.ref 26), some (.ref 1), some (.int i2), none, none] [] (z, kd, I, L, Rf) 0 0) ∧
    (g_97 n dp (z, kd, Rf) 2 I L i2 i3 i4 = some (I1, L1) → K X d 97 0 0 (AV (fun τ => τ = (z, kd, I1, L1, Rf))) 147 [some (.ref 26), some (.ref 1), some (.int i2), some (.int i3), some (.int i4)] [] (z, kd, I, L, Rf) 0 0) ∧
    (g_97 n dp (z, kd, Rf) 3 I L i2 i3 i4 = some (I1, L1) → K X d 97 0 0 (AV (fun τ => τ = (z, kd, I1, L1, Rf))) 153 [some (.ref 26), some (.ref 1), some (.int i2), none, none] [] (z, kd, I, L, Rf) 0 0) ∧
    (g_97 n dp (z, kd, Rf) 4 I L i2 i3 i4 = some (I1, L1) → K X d 97 0 0 (AV (fun τ => τ = (z, kd, I1, L1, Rf))) 155 [some (.ref 26), some (.ref 1), some (.int i2), none, none] [] (z, kd, I, L, Rf) 0 0) := by
  intro n
  induction n with
  | zero => intro dp d hdp I L i2 i3 i4 I1 L1; exact ⟨(fun h => by cases h), (fun h => by cases h), (fun h => by cases h), (fun h => by cases h), (fun h => by cases h)⟩
  | succ n ih =>
    intro dp d hdp I L i2 i3 i4 I1 L1
    refine ⟨?_, ?_, ?_, ?_, ?_⟩
    · intro h
      rw [e_97_0] at h
      refine K_of b_97_0 h_97_0 ?_
      refine q_aload rfl ?_
      refine q_iconst (0) (by decide) ?_
      refine q_putI (c0 := 6) (j := 17) rfl rfl (zl hS 26 (by decide)) (sk hS 26 (by decide) rfl) rfl ?_
      obtain ⟨I_2, nI_2, h⟩ := stI_some h
      refine q_nI nI_2 ?_
      refine q_aload rfl ?_
      refine q_iconst (0) (by decide) ?_
      refine q_putI (c0 := 6) (j := 18) rfl rfl (zl hS 26 (by decide)) (sk hS 26 (by decide) rfl) rfl ?_
      obtain ⟨I_7, nI_7, h⟩ := stI_some h
      refine q_nI nI_7 ?_
      refine q_aload rfl ?_
      refine q_iconst (1) (by decide) ?_
      refine q_putI (c0 := 6) (j := 19) rfl rfl (zl hS 26 (by decide)) (sk hS 26 (by decide) rfl) rfl ?_
      obtain ⟨I_12, nI_12, h⟩ := stI_some h
      refine q_nI nI_12 ?_
      refine q_aload rfl ?_
      refine q_getRs (c0 := 6) (j := 8) rfl rfl (zl hS 26 (by decide)) (sk hS 26 (by decide) rfl) rfl (by decide) (r_26_8 hS) ?_
      refine q_iconst (0) (by decide) ?_
      obtain ⟨d_20, h⟩ := ite_some h
      obtain ⟨⟨I0_20, L0_20⟩, e_20, h⟩ := Option.bind_eq_some_iff.mp h
      dsimp only at h
      refine q_fs2V (a_36 X hS (d := d - 1) (by omega) e_20) (by omega) (Nat.le_refl _) (Nat.le_refl _) rfl (Nat.le_of_ble_eq_true rfl) ?_
      refine q_iconst (0) (by decide) ?_
      refine q_istore (ls1 := [some (.ref 26), some (.ref 1), some (.int (0 : Int32)), none, none]) (Nat.le_of_ble_eq_true rfl) rfl ?_
      refine q_end ?_
      exact (ih dp d hdp _ _ (0 : Int32) 0 0 _ _).2.1 h
    · intro h
      rw [e_97_1] at h
      refine K_of b_97_25 h_97_25 ?_
      refine q_iload rfl ?_
      refine q_iconst (10) (by decide) ?_
      refine q_icmp_ge (fun c_28 => ?_) (fun c_28 => ?_)
      · rw [if_pos c_28] at h
        exact (ih dp d hdp _ _ i2 0 0 _ _).2.2.2.1 h
      · rw [if_neg c_28] at h
        refine q_aload rfl ?_
        refine q_getI (c0 := 6) (j := 17) rfl rfl (zl hS 26 (by decide)) (sk hS 26 (by decide) rfl) (Or.inl rfl) (by decide) ?_
        refine q_iconst (5) (by decide) ?_
        refine q_icmp_ge (fun c_36 => ?_) (fun c_36 => ?_)
        · rw [if_pos c_36] at h
          exact (ih dp d hdp _ _ i2 0 0 _ _).2.2.2.1 h
        · rw [if_neg c_36] at h
          refine q_aload rfl ?_
          refine q_getRs (c0 := 3) (j := 2) rfl rfl (zl hS 1 (by decide)) (sk hS 1 (by decide) rfl) rfl (by decide) (r_1_2 hS) ?_
          refine q_iconst (20) (by decide) ?_
          refine q_iload rfl ?_
          refine q_iadd ?_
          obtain ⟨⟨u_47, v_47⟩, h⟩ := ite_some h
          refine q_ialN (Int32.toNatClampNeg ((20 : Int32) + i2)) (nx u_47) (zl hS 4 (by decide)) (sk hS 4 (by decide) rfl) v_47 (by decide) ?_
          obtain ⟨v_48, nv_48, h⟩ := stI_some h
          refine q_eqi nv_48.symm ?_
          refine q_istore (ls1 := [some (.ref 26), some (.ref 1), some (.int i2), some (.int v_48), none]) (Nat.le_of_ble_eq_true rfl) rfl ?_
          refine q_aload rfl ?_
          refine q_getRs (c0 := 3) (j := 2) rfl rfl (zl hS 1 (by decide)) (sk hS 1 (by decide) rfl) rfl (by decide) (r_1_2 hS) ?_
          refine q_iconst (0) (by decide) ?_
          refine q_iload rfl ?_
          refine q_iadd ?_
          obtain ⟨⟨u_56, v_56⟩, h⟩ := ite_some h
          refine q_ialN (Int32.toNatClampNeg ((0 : Int32) + i2)) (nx u_56) (zl hS 4 (by decide)) (sk hS 4 (by decide) rfl) v_56 (by decide) ?_
          refine q_aload rfl ?_
          refine q_getRs (c0 := 3) (j := 2) rfl rfl (zl hS 1 (by decide)) (sk hS 1 (by decide) rfl) rfl (by decide) (r_1_2 hS) ?_
          refine q_iconst (10) (by decide) ?_
          refine q_iload rfl ?_
          refine q_iadd ?_
          obtain ⟨⟨u_65, v_65⟩, h⟩ := ite_some h
          refine q_ialN (Int32.toNatClampNeg ((10 : Int32) + i2)) (nx u_65) (zl hS 4 (by decide)) (sk hS 4 (by decide) rfl) v_65 (by decide) ?_
          refine q_isub ?_
          obtain ⟨v_67, nv_67, h⟩ := stI_some h
          refine q_eqi nv_67.symm ?_
          refine q_istore (ls1 := [some (.ref 26), some (.ref 1), some (.int i2), some (.int v_48), some (.int v_67)]) (Nat.le_of_ble_eq_true rfl) rfl ?_
          refine q_iload rfl ?_
          refine q_if_le (fun c_70 => ?_) (fun c_70 => ?_)
          · rw [if_pos c_70] at h
            exact (ih dp d hdp _ _ i2 v_48 v_67 _ _).2.2.1 h
          · rw [if_neg c_70] at h
            refine q_iload rfl ?_
            refine q_if_eq (fun c_75 => ?_) (fun c_75 => ?_)
            · rw [if_pos c_75] at h
              exact (ih dp d hdp _ _ i2 v_48 v_67 _ _).2.2.1 h
            · rw [if_neg c_75] at h
              refine q_aload rfl ?_
              refine q_getRs (c0 := 6) (j := 7) rfl rfl (zl hS 26 (by decide)) (sk hS 26 (by decide) rfl) rfl (by decide) (r_26_7 hS) ?_
              refine q_aload rfl ?_
              refine q_getI (c0 := 6) (j := 17) rfl rfl (zl hS 26 (by decide)) (sk hS 26 (by decide) rfl) (Or.inl rfl) (by decide) ?_
              refine q_iload rfl ?_
              obtain ⟨⟨u_87, v_87⟩, h⟩ := ite_some h
              refine q_iasN (Int32.toNatClampNeg (I 26 17)) (nx u_87) (zl hS 34 (by decide)) (sk hS 34 (by decide) rfl) v_87 (by decide) ?_
              obtain ⟨I_87, nI_87, h⟩ := stI_some h
              refine q_nI nI_87 ?_
              refine q_aload rfl ?_
              refine q_getRs (c0 := 6) (j := 8) rfl rfl (zl hS 26 (by decide)) (sk hS 26 (by decide) rfl) rfl (by decide) (r_26_8 hS) ?_
              refine q_aload rfl ?_
              refine q_getI (c0 := 6) (j := 17) rfl rfl (zl hS 26 (by decide)) (sk hS 26 (by decide) rfl) (Or.inl rfl) (by decide) ?_
              refine q_iload rfl ?_
              obtain ⟨⟨u_97, v_97⟩, h⟩ := ite_some h
              refine q_iasN (Int32.toNatClampNeg (I_87 26 17)) (nx u_97) (zl hS 35 (by decide)) (sk hS 35 (by decide) rfl) v_97 (by decide) ?_
              obtain ⟨I_97, nI_97, h⟩ := stI_some h
              refine q_nI nI_97 ?_
              refine q_aload rfl ?_
              refine q_getRs (c0 := 6) (j := 9) rfl rfl (zl hS 26 (by decide)) (sk hS 26 (by decide) rfl) rfl (by decide) (r_26_9 hS) ?_
              refine q_aload rfl ?_
              refine q_getI (c0 := 6) (j := 17) rfl rfl (zl hS 26 (by decide)) (sk hS 26 (by decide) rfl) (Or.inl rfl) (by decide) ?_
              refine q_aload rfl ?_
              refine q_getI (c0 := 6) (j := 19) rfl rfl (zl hS 26 (by decide)) (sk hS 26 (by decide) rfl) (Or.inl rfl) (by decide) ?_
              obtain ⟨⟨u_110, v_110⟩, h⟩ := ite_some h
              refine q_iasN (Int32.toNatClampNeg (I_97 26 17)) (nx u_110) (zl hS 36 (by decide)) (sk hS 36 (by decide) rfl) v_110 (by decide) ?_
              obtain ⟨I_110, nI_110, h⟩ := stI_some h
              refine q_nI nI_110 ?_
              refine q_aload rfl ?_
              refine q_getRs (c0 := 6) (j := 10) rfl rfl (zl hS 26 (by decide)) (sk hS 26 (by decide) rfl) rfl (by decide) (r_26_10 hS) ?_
              refine q_aload rfl ?_
              refine q_getI (c0 := 6) (j := 17) rfl rfl (zl hS 26 (by decide)) (sk hS 26 (by decide) rfl) (Or.inl rfl) (by decide) ?_
              refine q_iload rfl ?_
              refine q_iconst (16) (by decide) ?_
              refine q_imul ?_
              obtain ⟨⟨u_124, v_124⟩, h⟩ := ite_some h
              refine q_iasN (Int32.toNatClampNeg (I_110 26 17)) (nx u_124) (zl hS 37 (by decide)) (sk hS 37 (by decide) rfl) v_124 (by decide) ?_
              obtain ⟨I_124, nI_124, h⟩ := stI_some h
              refine q_nI nI_124 ?_
              refine q_aload rfl ?_
              refine q_dup rfl ?_
              refine q_getI (c0 := 6) (j := 19) rfl rfl (zl hS 26 (by decide)) (sk hS 26 (by decide) rfl) (Or.inl rfl) (by decide) ?_
              refine q_iload rfl ?_
              refine q_iconst (1) (by decide) ?_
              refine q_iadd ?_
              refine q_imul ?_
              refine q_putI (c0 := 6) (j := 19) rfl rfl (zl hS 26 (by decide)) (sk hS 26 (by decide) rfl) rfl ?_
              obtain ⟨I_134, nI_134, h⟩ := stI_some h
              refine q_nI nI_134 ?_
              refine q_aload rfl ?_
              refine q_dup rfl ?_
              refine q_getI (c0 := 6) (j := 17) rfl rfl (zl hS 26 (by decide)) (sk hS 26 (by decide) rfl) (Or.inl rfl) (by decide) ?_
              refine q_iconst (1) (by decide) ?_
              refine q_iadd ?_
              refine q_putI (c0 := 6) (j := 17) rfl rfl (zl hS 26 (by decide)) (sk hS 26 (by decide) rfl) rfl ?_
              obtain ⟨I_144, nI_144, h⟩ := stI_some h
              refine q_nI nI_144 ?_
              refine q_end ?_
              exact (ih dp d hdp _ _ i2 v_48 v_67 _ _).2.2.1 h
    · intro h
      rw [e_97_2] at h
      refine K_of b_97_147 h_97_147 ?_
      refine q_iinc (ls1 := [some (.ref 26), some (.ref 1), some (.int (i2 + Int32.ofInt (1))), some (.int i3), some (.int i4)]) rfl rfl ?_
      refine q_goto ?_
      refine K_mask [true, true, true, false, false] (Nat.le_of_ble_eq_true rfl) ?_
      exact (ih dp d hdp _ _ (i2 + Int32.ofInt (1)) 0 0 _ _).2.1 h
    · intro h
      rw [e_97_3] at h
      refine K_of b_97_153 h_97_153 ?_
      refine q_iconst (0) (by decide) ?_
      refine q_istore (ls1 := [some (.ref 26), some (.ref 1), some (.int (0 : Int32)), none, none]) (Nat.le_of_ble_eq_true rfl) rfl ?_
      refine q_end ?_
      exact (ih dp d hdp _ _ (0 : Int32) 0 0 _ _).2.2.2.2 h
    · intro h
      rw [e_97_4] at h
      refine K_of b_97_155 h_97_155 ?_
      refine q_iload rfl ?_
      refine q_iconst (5) (by decide) ?_
      refine q_icmp_ge (fun c_157 => ?_) (fun c_157 => ?_)
      · rw [if_pos c_157] at h
        refine K_of b_97_188 h_97_188 ?_
        cases h
        exact q_vret rfl (Nat.le_refl _) (Nat.le_refl _) rfl
      · rw [if_neg c_157] at h
        refine q_aload rfl ?_
        refine q_dup rfl ?_
        refine q_getI (c0 := 6) (j := 18) rfl rfl (zl hS 26 (by decide)) (sk hS 26 (by decide) rfl) (Or.inl rfl) (by decide) ?_
        refine q_iconst (15) (by decide) ?_
        refine q_aload rfl ?_
        refine q_getRs (c0 := 6) (j := 8) rfl rfl (zl hS 26 (by decide)) (sk hS 26 (by decide) rfl) rfl (by decide) (r_26_8 hS) ?_
        refine q_iload rfl ?_
        obtain ⟨⟨u_172, v_172⟩, h⟩ := ite_some h
        refine q_ialN (Int32.toNatClampNeg i2) (nx u_172) (zl hS 35 (by decide)) (sk hS 35 (by decide) rfl) v_172 (by decide) ?_
        refine q_isub ?_
        refine q_iconst (5) (by decide) ?_
        refine q_iload rfl ?_
        refine q_imul ?_
        refine q_ishl ?_
        refine q_ior ?_
        refine q_putI (c0 := 6) (j := 18) rfl rfl (zl hS 26 (by decide)) (sk hS 26 (by decide) rfl) rfl ?_
        obtain ⟨I_179, nI_179, h⟩ := stI_some h
        refine q_nI nI_179 ?_
        refine q_iinc (ls1 := [some (.ref 26), some (.ref 1), some (.int (i2 + Int32.ofInt (1))), none, none]) rfl rfl ?_
        refine q_goto ?_
        exact (ih dp d hdp _ _ (i2 + Int32.ofInt (1)) 0 0 _ _).2.2.2.2 h
theorem a_97 (X : GX) {z : Nat} {kd : Nat → Nat × Nat} {Rf : Nat → Nat → Option Nat} (hS : Sh z kd Rf) {n dp d : Nat} (hd : dp ≤ d) {I : (Nat → Nat → Int32)} {L : (Nat → Nat → Int64)} {I1 : (Nat → Nat → Int32)} {L1 : (Nat → Nat → Int64)} (h : g_97 n dp (z, kd, Rf) 0 I L 0 0 0 = some (I1, L1)) : Ct X d 97 0 0 [.ref 26, .ref 1] (z, kd, I, L, Rf) (AV (fun τ => τ = (z, kd, I1, L1, Rf))) :=
  Ct_of mu_97 (Nat.le_of_ble_eq_true rfl) ((w_97 X hS n dp d hd I L 0 0 0 _ _).1 h)

/-! 98 CutFloor$Offers.spread(II[I[I)V -/
set_option maxHeartbeats 4000000 in
set_option maxRecDepth 100000 in
def g_98 : Nat → Nat → EN → Nat → (Nat → Nat → Int32) → (Nat → Nat → Int64) → Int32 → Int32 → Int32 → Int32 → Int32 → Int32 → Int32 → Int32 → Int32 → Nat → Nat →  Option ((Nat → Nat → Int32) × (Nat → Nat → Int64))
  | 0, _, _, _, _, _, _, _, _, _, _, _, _, _, _, _, _ => none
  | n + 1, dp, e, lab, I, L, i1, i2, i5, i6, i7, i8, i9, i10, i11, a3, a4 =>
    if lab = 0 then (if i2 = (-1 : Int32) then (if i2 = (-1 : Int32) then (g_98 n dp e 1 I L i1 i2 (0 : Int32) (0 : Int32) (0 : Int32) 0 0 0 0 a3 a4) else (g_98 n dp e 1 I L i1 i2 (0 : Int32) (15 : Int32) (0 : Int32) 0 0 0 0 a3 a4)) else (if 0 ≤ i2 ∧ (Int32.toNatClampNeg i2) < 5 then (stI (I 35 (Int32.toNatClampNeg i2)) (fun v_15 => (if i2 = (-1 : Int32) then (g_98 n dp e 1 I L i1 i2 v_15 (0 : Int32) (0 : Int32) 0 0 0 0 a3 a4) else (g_98 n dp e 1 I L i1 i2 v_15 (15 : Int32) (0 : Int32) 0 0 0 0 a3 a4)))) else none))
    else if lab = 1 then (if i5 < i7 then (some (I, L)) else (if i7 = 0 then (if i7 = 0 then (stI (((i6 - i5) + i7) <<< ((5 : Int32) &&& 31)) (fun v_90 => (g_98 n dp e 2 I L i1 i2 i5 i6 i7 (0 : Int32) (0 : Int32) v_90 (0 : Int32) a3 a4))) else (if 0 ≤ i2 ∧ (Int32.toNatClampNeg i2) < 5 then (stI (i7 * (I 37 (Int32.toNatClampNeg i2))) (fun v_78 => (stI (((i6 - i5) + i7) <<< ((5 : Int32) &&& 31)) (fun v_90 => (g_98 n dp e 2 I L i1 i2 i5 i6 i7 (0 : Int32) v_78 v_90 (0 : Int32) a3 a4))))) else none)) else (if 0 ≤ i2 ∧ (Int32.toNatClampNeg i2) < 5 then (stI (i7 * (I 36 (Int32.toNatClampNeg i2))) (fun v_58 => (if i7 = 0 then (stI (((i6 - i5) + i7) <<< ((5 : Int32) &&& 31)) (fun v_90 => (g_98 n dp e 2 I L i1 i2 i5 i6 i7 v_58 (0 : Int32) v_90 (0 : Int32) a3 a4))) else (if 0 ≤ i2 ∧ (Int32.toNatClampNeg i2) < 5 then (stI (i7 * (I 37 (Int32.toNatClampNeg i2))) (fun v_78 => (stI (((i6 - i5) + i7) <<< ((5 : Int32) &&& 31)) (fun v_90 => (g_98 n dp e 2 I L i1 i2 i5 i6 i7 v_58 v_78 v_90 (0 : Int32) a3 a4))))) else none)))) else none)))
    else if lab = 2 then (if 0 ≤ i1 ∧ (Int32.toNatClampNeg i1) < 5 then (if (I 35 (Int32.toNatClampNeg i1)) < i11 then (g_98 n dp e 1 I L i1 i2 i5 i6 (i7 + Int32.ofInt (1)) 0 0 0 0 a3 a4) else (if 0 ≤ i1 ∧ (Int32.toNatClampNeg i1) < 5 then (if i11 = 0 then (if (a3 < e.1 ∧ (e.2.1 a3).1 = 13 ∧ (e.2.1 a3).2 < 2 ^ 31) ∧ 0 ≤ (((i10 + (15 : Int32)) - (I 35 (Int32.toNatClampNeg i1))) + i11) ∧ (Int32.toNatClampNeg (((i10 + (15 : Int32)) - (I 35 (Int32.toNatClampNeg i1))) + i11)) < (e.2.1 a3).2 then (stI (u2 I a3 (Int32.toNatClampNeg (((i10 + (15 : Int32)) - (I 35 (Int32.toNatClampNeg i1))) + i11)) i8) (fun I_144 => (if 0 ≤ i1 ∧ (Int32.toNatClampNeg i1) < 5 then (if i11 = 0 then (if (a4 < e.1 ∧ (e.2.1 a4).1 = 13 ∧ (e.2.1 a4).2 < 2 ^ 31) ∧ 0 ≤ (((i10 + (15 : Int32)) - (I_144 35 (Int32.toNatClampNeg i1))) + i11) ∧ (Int32.toNatClampNeg (((i10 + (15 : Int32)) - (I_144 35 (Int32.toNatClampNeg i1))) + i11)) < (e.2.1 a4).2 then (stI (u2 I_144 a4 (Int32.toNatClampNeg (((i10 + (15 : Int32)) - (I_144 35 (Int32.toNatClampNeg i1))) + i11)) i9) (fun I_184 => (g_98 n dp e 2 I_184 L i1 i2 i5 i6 i7 i8 i9 i10 (i11 + Int32.ofInt (1)) a3 a4))) else none) else (if 0 ≤ i1 ∧ (Int32.toNatClampNeg i1) < 5 then (if (a4 < e.1 ∧ (e.2.1 a4).1 = 13 ∧ (e.2.1 a4).2 < 2 ^ 31) ∧ 0 ≤ (((i10 + (15 : Int32)) - (I_144 35 (Int32.toNatClampNeg i1))) + i11) ∧ (Int32.toNatClampNeg (((i10 + (15 : Int32)) - (I_144 35 (Int32.toNatClampNeg i1))) + i11)) < (e.2.1 a4).2 then (stI (u2 I_144 a4 (Int32.toNatClampNeg (((i10 + (15 : Int32)) - (I_144 35 (Int32.toNatClampNeg i1))) + i11)) (i9 + (i11 * (I_144 37 (Int32.toNatClampNeg i1))))) (fun I_184 => (g_98 n dp e 2 I_184 L i1 i2 i5 i6 i7 i8 i9 i10 (i11 + Int32.ofInt (1)) a3 a4))) else none) else none)) else none))) else none) else (if 0 ≤ i1 ∧ (Int32.toNatClampNeg i1) < 5 then (if (a3 < e.1 ∧ (e.2.1 a3).1 = 13 ∧ (e.2.1 a3).2 < 2 ^ 31) ∧ 0 ≤ (((i10 + (15 : Int32)) - (I 35 (Int32.toNatClampNeg i1))) + i11) ∧ (Int32.toNatClampNeg (((i10 + (15 : Int32)) - (I 35 (Int32.toNatClampNeg i1))) + i11)) < (e.2.1 a3).2 then (stI (u2 I a3 (Int32.toNatClampNeg (((i10 + (15 : Int32)) - (I 35 (Int32.toNatClampNeg i1))) + i11)) (i8 + (i11 * (I 36 (Int32.toNatClampNeg i1))))) (fun I_144 => (if 0 ≤ i1 ∧ (Int32.toNatClampNeg i1) < 5 then (if i11 = 0 then (if (a4 < e.1 ∧ (e.2.1 a4).1 = 13 ∧ (e.2.1 a4).2 < 2 ^ 31) ∧ 0 ≤ (((i10 + (15 : Int32)) - (I_144 35 (Int32.toNatClampNeg i1))) + i11) ∧ (Int32.toNatClampNeg (((i10 + (15 : Int32)) - (I_144 35 (Int32.toNatClampNeg i1))) + i11)) < (e.2.1 a4).2 then (stI (u2 I_144 a4 (Int32.toNatClampNeg (((i10 + (15 : Int32)) - (I_144 35 (Int32.toNatClampNeg i1))) + i11)) i9) (fun I_184 => (g_98 n dp e 2 I_184 L i1 i2 i5 i6 i7 i8 i9 i10 (i11 + Int32.ofInt (1)) a3 a4))) else none) else (if 0 ≤ i1 ∧ (Int32.toNatClampNeg i1) < 5 then (if (a4 < e.1 ∧ (e.2.1 a4).1 = 13 ∧ (e.2.1 a4).2 < 2 ^ 31) ∧ 0 ≤ (((i10 + (15 : Int32)) - (I_144 35 (Int32.toNatClampNeg i1))) + i11) ∧ (Int32.toNatClampNeg (((i10 + (15 : Int32)) - (I_144 35 (Int32.toNatClampNeg i1))) + i11)) < (e.2.1 a4).2 then (stI (u2 I_144 a4 (Int32.toNatClampNeg (((i10 + (15 : Int32)) - (I_144 35 (Int32.toNatClampNeg i1))) + i11)) (i9 + (i11 * (I_144 37 (Int32.toNatClampNeg i1))))) (fun I_184 => (g_98 n dp e 2 I_184 L i1 i2 i5 i6 i7 i8 i9 i10 (i11 + Int32.ofInt (1)) a3 a4))) else none) else none)) else none))) else none) else none)) else none)) else none)
    else none
set_option maxRecDepth 100000 in
theorem e_98_0 (n dp : Nat) (e : EN) (I : (Nat → Nat → Int32)) (L : (Nat → Nat → Int64)) (i1 : Int32) (i2 : Int32) (i5 : Int32) (i6 : Int32) (i7 : Int32) (i8 : Int32) (i9 : Int32) (i10 : Int32) (i11 : Int32) (a3 : Nat) (a4 : Nat) : g_98 (n + 1) dp e 0 I L i1 i2 i5 i6 i7 i8 i9 i10 i11 a3 a4 = (if i2 = (-1 : Int32) then (if i2 = (-1 : Int32) then (g_98 n dp e 1 I L i1 i2 (0 : Int32) (0 : Int32) (0 : Int32) 0 0 0 0 a3 a4) else (g_98 n dp e 1 I L i1 i2 (0 : Int32) (15 : Int32) (0 : Int32) 0 0 0 0 a3 a4)) else (if 0 ≤ i2 ∧ (Int32.toNatClampNeg i2) < 5 then (stI (I 35 (Int32.toNatClampNeg i2)) (fun v_15 => (if i2 = (-1 : Int32) then (g_98 n dp e 1 I L i1 i2 v_15 (0 : Int32) (0 : Int32) 0 0 0 0 a3 a4) else (g_98 n dp e 1 I L i1 i2 v_15 (15 : Int32) (0 : Int32) 0 0 0 0 a3 a4)))) else none)) := by rw [g_98.eq_2, if_pos (show (0 : Nat) = 0 from rfl)]
set_option maxRecDepth 100000 in
theorem e_98_1 (n dp : Nat) (e : EN) (I : (Nat → Nat → Int32)) (L : (Nat → Nat → Int64)) (i1 : Int32) (i2 : Int32) (i5 : Int32) (i6 : Int32) (i7 : Int32) (i8 : Int32) (i9 : Int32) (i10 : Int32) (i11 : Int32) (a3 : Nat) (a4 : Nat) : g_98 (n + 1) dp e 1 I L i1 i2 i5 i6 i7 i8 i9 i10 i11 a3 a4 = (if i5 < i7 then (some (I, L)) else (if i7 = 0 then (if i7 = 0 then (stI (((i6 - i5) + i7) <<< ((5 : Int32) &&& 31)) (fun v_90 => (g_98 n dp e 2 I L i1 i2 i5 i6 i7 (0 : Int32) (0 : Int32) v_90 (0 : Int32) a3 a4))) else (if 0 ≤ i2 ∧ (Int32.toNatClampNeg i2) < 5 then (stI (i7 * (I 37 (Int32.toNatClampNeg i2))) (fun v_78 => (stI (((i6 - i5) + i7) <<< ((5 : Int32) &&& 31)) (fun v_90 => (g_98 n dp e 2 I L i1 i2 i5 i6 i7 (0 : Int32) v_78 v_90 (0 : Int32) a3 a4))))) else none)) else (if 0 ≤ i2 ∧ (Int32.toNatClampNeg i2) < 5 then (stI (i7 * (I 36 (Int32.toNatClampNeg i2))) (fun v_58 => (if i7 = 0 then (stI (((i6 - i5) + i7) <<< ((5 : Int32) &&& 31)) (fun v_90 => (g_98 n dp e 2 I L i1 i2 i5 i6 i7 v_58 (0 : Int32) v_90 (0 : Int32) a3 a4))) else (if 0 ≤ i2 ∧ (Int32.toNatClampNeg i2) < 5 then (stI (i7 * (I 37 (Int32.toNatClampNeg i2))) (fun v_78 => (stI (((i6 - i5) + i7) <<< ((5 : Int32) &&& 31)) (fun v_90 => (g_98 n dp e 2 I L i1 i2 i5 i6 i7 v_58 v_78 v_90 (0 : Int32) a3 a4))))) else none)))) else none))) := by rw [g_98.eq_2, if_neg (show ¬ ((1 : Nat) = 0) by decide), if_pos (show (1 : Nat) = 1 from rfl)]
set_option maxRecDepth 100000 in
theorem e_98_2 (n dp : Nat) (e : EN) (I : (Nat → Nat → Int32)) (L : (Nat → Nat → Int64)) (i1 : Int32) (i2 : Int32) (i5 : Int32) (i6 : Int32) (i7 : Int32) (i8 : Int32) (i9 : Int32) (i10 : Int32) (i11 : Int32) (a3 : Nat) (a4 : Nat) : g_98 (n + 1) dp e 2 I L i1 i2 i5 i6 i7 i8 i9 i10 i11 a3 a4 = (if 0 ≤ i1 ∧ (Int32.toNatClampNeg i1) < 5 then (if (I 35 (Int32.toNatClampNeg i1)) < i11 then (g_98 n dp e 1 I L i1 i2 i5 i6 (i7 + Int32.ofInt (1)) 0 0 0 0 a3 a4) else (if 0 ≤ i1 ∧ (Int32.toNatClampNeg i1) < 5 then (if i11 = 0 then (if (a3 < e.1 ∧ (e.2.1 a3).1 = 13 ∧ (e.2.1 a3).2 < 2 ^ 31) ∧ 0 ≤ (((i10 + (15 : Int32)) - (I 35 (Int32.toNatClampNeg i1))) + i11) ∧ (Int32.toNatClampNeg (((i10 + (15 : Int32)) - (I 35 (Int32.toNatClampNeg i1))) + i11)) < (e.2.1 a3).2 then (stI (u2 I a3 (Int32.toNatClampNeg (((i10 + (15 : Int32)) - (I 35 (Int32.toNatClampNeg i1))) + i11)) i8) (fun I_144 => (if 0 ≤ i1 ∧ (Int32.toNatClampNeg i1) < 5 then (if i11 = 0 then (if (a4 < e.1 ∧ (e.2.1 a4).1 = 13 ∧ (e.2.1 a4).2 < 2 ^ 31) ∧ 0 ≤ (((i10 + (15 : Int32)) - (I_144 35 (Int32.toNatClampNeg i1))) + i11) ∧ (Int32.toNatClampNeg (((i10 + (15 : Int32)) - (I_144 35 (Int32.toNatClampNeg i1))) + i11)) < (e.2.1 a4).2 then (stI (u2 I_144 a4 (Int32.toNatClampNeg (((i10 + (15 : Int32)) - (I_144 35 (Int32.toNatClampNeg i1))) + i11)) i9) (fun I_184 => (g_98 n dp e 2 I_184 L i1 i2 i5 i6 i7 i8 i9 i10 (i11 + Int32.ofInt (1)) a3 a4))) else none) else (if 0 ≤ i1 ∧ (Int32.toNatClampNeg i1) < 5 then (if (a4 < e.1 ∧ (e.2.1 a4).1 = 13 ∧ (e.2.1 a4).2 < 2 ^ 31) ∧ 0 ≤ (((i10 + (15 : Int32)) - (I_144 35 (Int32.toNatClampNeg i1))) + i11) ∧ (Int32.toNatClampNeg (((i10 + (15 : Int32)) - (I_144 35 (Int32.toNatClampNeg i1))) + i11)) < (e.2.1 a4).2 then (stI (u2 I_144 a4 (Int32.toNatClampNeg (((i10 + (15 : Int32)) - (I_144 35 (Int32.toNatClampNeg i1))) + i11)) (i9 + (i11 * (I_144 37 (Int32.toNatClampNeg i1))))) (fun I_184 => (g_98 n dp e 2 I_184 L i1 i2 i5 i6 i7 i8 i9 i10 (i11 + Int32.ofInt (1)) a3 a4))) else none) else none)) else none))) else none) else (if 0 ≤ i1 ∧ (Int32.toNatClampNeg i1) < 5 then (if (a3 < e.1 ∧ (e.2.1 a3).1 = 13 ∧ (e.2.1 a3).2 < 2 ^ 31) ∧ 0 ≤ (((i10 + (15 : Int32)) - (I 35 (Int32.toNatClampNeg i1))) + i11) ∧ (Int32.toNatClampNeg (((i10 + (15 : Int32)) - (I 35 (Int32.toNatClampNeg i1))) + i11)) < (e.2.1 a3).2 then (stI (u2 I a3 (Int32.toNatClampNeg (((i10 + (15 : Int32)) - (I 35 (Int32.toNatClampNeg i1))) + i11)) (i8 + (i11 * (I 36 (Int32.toNatClampNeg i1))))) (fun I_144 => (if 0 ≤ i1 ∧ (Int32.toNatClampNeg i1) < 5 then (if i11 = 0 then (if (a4 < e.1 ∧ (e.2.1 a4).1 = 13 ∧ (e.2.1 a4).2 < 2 ^ 31) ∧ 0 ≤ (((i10 + (15 : Int32)) - (I_144 35 (Int32.toNatClampNeg i1))) + i11) ∧ (Int32.toNatClampNeg (((i10 + (15 : Int32)) - (I_144 35 (Int32.toNatClampNeg i1))) + i11)) < (e.2.1 a4).2 then (stI (u2 I_144 a4 (Int32.toNatClampNeg (((i10 + (15 : Int32)) - (I_144 35 (Int32.toNatClampNeg i1))) + i11)) i9) (fun I_184 => (g_98 n dp e 2 I_184 L i1 i2 i5 i6 i7 i8 i9 i10 (i11 + Int32.ofInt (1)) a3 a4))) else none) else (if 0 ≤ i1 ∧ (Int32.toNatClampNeg i1) < 5 then (if (a4 < e.1 ∧ (e.2.1 a4).1 = 13 ∧ (e.2.1 a4).2 < 2 ^ 31) ∧ 0 ≤ (((i10 + (15 : Int32)) - (I_144 35 (Int32.toNatClampNeg i1))) + i11) ∧ (Int32.toNatClampNeg (((i10 + (15 : Int32)) - (I_144 35 (Int32.toNatClampNeg i1))) + i11)) < (e.2.1 a4).2 then (stI (u2 I_144 a4 (Int32.toNatClampNeg (((i10 + (15 : Int32)) - (I_144 35 (Int32.toNatClampNeg i1))) + i11)) (i9 + (i11 * (I_144 37 (Int32.toNatClampNeg i1))))) (fun I_184 => (g_98 n dp e 2 I_184 L i1 i2 i5 i6 i7 i8 i9 i10 (i11 + Int32.ofInt (1)) a3 a4))) else none) else none)) else none))) else none) else none)) else none)) else none) := by rw [g_98.eq_2, if_neg (show ¬ ((2 : Nat) = 0) by decide), if_neg (show ¬ ((2 : Nat) = 1) by decide), if_pos (show (2 : Nat) = 2 from rfl)]
set_option maxHeartbeats 8000000 in
set_option maxRecDepth 100000 in
theorem w_98 (X : GX) {z : Nat} {kd : Nat → Nat × Nat} {Rf : Nat → Nat → Option Nat} (hS : Sh z kd Rf) : ∀ (n dp d : Nat), dp ≤ d → ∀ (I : (Nat → Nat → Int32)) (L : (Nat → Nat → Int64)) (i1 : Int32) (i2 : Int32) (i5 : Int32) (i6 : Int32) (i7 : Int32) (i8 : Int32) (i9 : Int32) (i10 : Int32) (i11 : Int32) (a3 : Nat) (a4 : Nat) (I1 : (Nat → Nat → Int32)) (L1 : (Nat → Nat → Int64)), (g_98 n dp (z, kd, Rf) 0 I L i1 i2 i5 i6 i7 i8 i9 i10 i11 a3 a4 = some (I1, L1) → K X d 98 0 0 (AV (fun τ => τ = (z, kd, I1, L1, Rf))) 0 [some (.ref 26), some (.int i1), some (.int i2), some (.ref a3), some (.ref a4), none, none, none, none, none, none, none] [] (z, kd, I, L, Rf) 0 0) ∧
    (g_98 n dp (z, kd, Rf) 1 I L i1 i2 i5 i6 i7 i8 i9 i10 i11 a3 a4 = some (I1, L1) → K X d 98 0 0 (AV (fun τ => τ = (z, kd, I1, L1, Rf))) 33 [some (.ref 26), some (.int i1), some (.int i2), some (.ref a3), some (.ref a4), some (.int i5), some (.int i6), some (.int i7), none, none, none, none] [] (z, kd, I, L, Rf) 0 0) ∧
    (g_98 n dp (z, kd, Rf) 2 I L i1 i2 i5 i6 i7 i8 i9 i10 i11 a3 a4 = some (I1, L1) → K X d 98 0 0 (AV (fun τ => τ = (z, kd, I1, L1, Rf))) 95 [some (.ref 26), some (.int i1), some (.int i2), some (.ref a3), some (.ref a4), some (.int i5), some (.int i6), some (.int i7), some (.int i8), some (.int i9), some (.int i10), some (.int i11)] [] (z, kd, I, L, Rf) 0 0) := by
  intro n
  induction n with
  | zero => intro dp d hdp I L i1 i2 i5 i6 i7 i8 i9 i10 i11 a3 a4 I1 L1; exact ⟨(fun h => by cases h), (fun h => by cases h), (fun h => by cases h)⟩
  | succ n ih =>
    intro dp d hdp I L i1 i2 i5 i6 i7 i8 i9 i10 i11 a3 a4 I1 L1
    refine ⟨?_, ?_, ?_⟩
    · intro h
      rw [e_98_0] at h
      refine K_of b_98_0 h_98_0 ?_
      refine q_iload rfl ?_
      refine q_iconst (-1) (by decide) ?_
      refine q_icmp_ne (fun c_2 => ?_) (fun c_2 => ?_)
      · rw [if_neg c_2] at h
        refine K_of b_98_9 h_98_9 ?_
        refine q_aload rfl ?_
        refine q_getRs (c0 := 6) (j := 8) rfl rfl (zl hS 26 (by decide)) (sk hS 26 (by decide) rfl) rfl (by decide) (r_26_8 hS) ?_
        refine q_iload rfl ?_
        obtain ⟨⟨u_14, v_14⟩, h⟩ := ite_some h
        refine q_ialN (Int32.toNatClampNeg i2) (nx u_14) (zl hS 35 (by decide)) (sk hS 35 (by decide) rfl) v_14 (by decide) ?_
        refine q_end ?_
        refine K_of b_98_15 h_98_15 ?_
        obtain ⟨v_15, nv_15, h⟩ := stI_some h
        refine q_eqi nv_15.symm ?_
        refine q_istore (ls1 := [some (.ref 26), some (.int i1), some (.int i2), some (.ref a3), some (.ref a4), some (.int v_15), none, none, none, none, none, none]) (Nat.le_of_ble_eq_true rfl) rfl ?_
        refine q_iload rfl ?_
        refine q_iconst (-1) (by decide) ?_
        refine q_icmp_ne (fun c_19 => ?_) (fun c_19 => ?_)
        · rw [if_neg c_19] at h
          refine K_of b_98_26 h_98_26 ?_
          refine q_iconst (15) (by decide) ?_
          refine q_end ?_
          refine K_of b_98_28 h_98_28 ?_
          refine q_istore (ls1 := [some (.ref 26), some (.int i1), some (.int i2), some (.ref a3), some (.ref a4), some (.int v_15), some (.int (15 : Int32)), none, none, none, none, none]) (Nat.le_of_ble_eq_true rfl) rfl ?_
          refine q_iconst (0) (by decide) ?_
          refine q_istore (ls1 := [some (.ref 26), some (.int i1), some (.int i2), some (.ref a3), some (.ref a4), some (.int v_15), some (.int (15 : Int32)), some (.int (0 : Int32)), none, none, none, none]) (Nat.le_of_ble_eq_true rfl) rfl ?_
          refine q_end ?_
          exact (ih dp d hdp _ _ i1 i2 v_15 (15 : Int32) (0 : Int32) 0 0 0 0 a3 a4 _ _).2.1 h
        · rw [if_pos c_19] at h
          refine q_iconst (0) (by decide) ?_
          refine q_goto ?_
          refine K_of b_98_28 h_98_28 ?_
          refine q_istore (ls1 := [some (.ref 26), some (.int i1), some (.int i2), some (.ref a3), some (.ref a4), some (.int v_15), some (.int (0 : Int32)), none, none, none, none, none]) (Nat.le_of_ble_eq_true rfl) rfl ?_
          refine q_iconst (0) (by decide) ?_
          refine q_istore (ls1 := [some (.ref 26), some (.int i1), some (.int i2), some (.ref a3), some (.ref a4), some (.int v_15), some (.int (0 : Int32)), some (.int (0 : Int32)), none, none, none, none]) (Nat.le_of_ble_eq_true rfl) rfl ?_
          refine q_end ?_
          exact (ih dp d hdp _ _ i1 i2 v_15 (0 : Int32) (0 : Int32) 0 0 0 0 a3 a4 _ _).2.1 h
      · rw [if_pos c_2] at h
        refine q_iconst (0) (by decide) ?_
        refine q_goto ?_
        refine K_of b_98_15 h_98_15 ?_
        refine q_istore (ls1 := [some (.ref 26), some (.int i1), some (.int i2), some (.ref a3), some (.ref a4), some (.int (0 : Int32)), none, none, none, none, none, none]) (Nat.le_of_ble_eq_true rfl) rfl ?_
        refine q_iload rfl ?_
        refine q_iconst (-1) (by decide) ?_
        refine q_icmp_ne (fun c_19 => ?_) (fun c_19 => ?_)
        · rw [if_neg c_19] at h
          refine K_of b_98_26 h_98_26 ?_
          refine q_iconst (15) (by decide) ?_
          refine q_end ?_
          refine K_of b_98_28 h_98_28 ?_
          refine q_istore (ls1 := [some (.ref 26), some (.int i1), some (.int i2), some (.ref a3), some (.ref a4), some (.int (0 : Int32)), some (.int (15 : Int32)), none, none, none, none, none]) (Nat.le_of_ble_eq_true rfl) rfl ?_
          refine q_iconst (0) (by decide) ?_
          refine q_istore (ls1 := [some (.ref 26), some (.int i1), some (.int i2), some (.ref a3), some (.ref a4), some (.int (0 : Int32)), some (.int (15 : Int32)), some (.int (0 : Int32)), none, none, none, none]) (Nat.le_of_ble_eq_true rfl) rfl ?_
          refine q_end ?_
          exact (ih dp d hdp _ _ i1 i2 (0 : Int32) (15 : Int32) (0 : Int32) 0 0 0 0 a3 a4 _ _).2.1 h
        · rw [if_pos c_19] at h
          refine q_iconst (0) (by decide) ?_
          refine q_goto ?_
          refine K_of b_98_28 h_98_28 ?_
          refine q_istore (ls1 := [some (.ref 26), some (.int i1), some (.int i2), some (.ref a3), some (.ref a4), some (.int (0 : Int32)), some (.int (0 : Int32)), none, none, none, none, none]) (Nat.le_of_ble_eq_true rfl) rfl ?_
          refine q_iconst (0) (by decide) ?_
          refine q_istore (ls1 := [some (.ref 26), some (.int i1), some (.int i2), some (.ref a3), some (.ref a4), some (.int (0 : Int32)), some (.int (0 : Int32)), some (.int (0 : Int32)), none, none, none, none]) (Nat.le_of_ble_eq_true rfl) rfl ?_
          refine q_end ?_
          exact (ih dp d hdp _ _ i1 i2 (0 : Int32) (0 : Int32) (0 : Int32) 0 0 0 0 a3 a4 _ _).2.1 h
    · intro h
      rw [e_98_1] at h
      refine K_of b_98_33 h_98_33 ?_
      refine q_iload rfl ?_
      refine q_iload rfl ?_
      refine q_icmp_gt (fun c_37 => ?_) (fun c_37 => ?_)
      · rw [if_pos c_37] at h
        refine K_of b_98_197 h_98_197 ?_
        cases h
        exact q_vret rfl (Nat.le_refl _) (Nat.le_refl _) rfl
      · rw [if_neg c_37] at h
        refine q_iload rfl ?_
        refine q_if_ne (fun c_42 => ?_) (fun c_42 => ?_)
        · rw [if_neg c_42] at h
          refine K_of b_98_49 h_98_49 ?_
          refine q_iload rfl ?_
          refine q_aload rfl ?_
          refine q_getRs (c0 := 6) (j := 9) rfl rfl (zl hS 26 (by decide)) (sk hS 26 (by decide) rfl) rfl (by decide) (r_26_9 hS) ?_
          refine q_iload rfl ?_
          obtain ⟨⟨u_56, v_56⟩, h⟩ := ite_some h
          refine q_ialN (Int32.toNatClampNeg i2) (nx u_56) (zl hS 36 (by decide)) (sk hS 36 (by decide) rfl) v_56 (by decide) ?_
          refine q_imul ?_
          refine q_end ?_
          refine K_of b_98_58 h_98_58 ?_
          obtain ⟨v_58, nv_58, h⟩ := stI_some h
          refine q_eqi nv_58.symm ?_
          refine q_istore (ls1 := [some (.ref 26), some (.int i1), some (.int i2), some (.ref a3), some (.ref a4), some (.int i5), some (.int i6), some (.int i7), some (.int v_58), none, none, none]) (Nat.le_of_ble_eq_true rfl) rfl ?_
          refine q_iload rfl ?_
          refine q_if_ne (fun c_62 => ?_) (fun c_62 => ?_)
          · rw [if_neg c_62] at h
            refine K_of b_98_69 h_98_69 ?_
            refine q_iload rfl ?_
            refine q_aload rfl ?_
            refine q_getRs (c0 := 6) (j := 10) rfl rfl (zl hS 26 (by decide)) (sk hS 26 (by decide) rfl) rfl (by decide) (r_26_10 hS) ?_
            refine q_iload rfl ?_
            obtain ⟨⟨u_76, v_76⟩, h⟩ := ite_some h
            refine q_ialN (Int32.toNatClampNeg i2) (nx u_76) (zl hS 37 (by decide)) (sk hS 37 (by decide) rfl) v_76 (by decide) ?_
            refine q_imul ?_
            refine q_end ?_
            refine K_of b_98_78 h_98_78 ?_
            obtain ⟨v_78, nv_78, h⟩ := stI_some h
            refine q_eqi nv_78.symm ?_
            refine q_istore (ls1 := [some (.ref 26), some (.int i1), some (.int i2), some (.ref a3), some (.ref a4), some (.int i5), some (.int i6), some (.int i7), some (.int v_58), some (.int v_78), none, none]) (Nat.le_of_ble_eq_true rfl) rfl ?_
            refine q_iload rfl ?_
            refine q_iload rfl ?_
            refine q_isub ?_
            refine q_iload rfl ?_
            refine q_iadd ?_
            refine q_iconst (5) (by decide) ?_
            refine q_ishl ?_
            obtain ⟨v_90, nv_90, h⟩ := stI_some h
            refine q_eqi nv_90.symm ?_
            refine q_istore (ls1 := [some (.ref 26), some (.int i1), some (.int i2), some (.ref a3), some (.ref a4), some (.int i5), some (.int i6), some (.int i7), some (.int v_58), some (.int v_78), some (.int v_90), none]) (Nat.le_of_ble_eq_true rfl) rfl ?_
            refine q_iconst (0) (by decide) ?_
            refine q_istore (ls1 := [some (.ref 26), some (.int i1), some (.int i2), some (.ref a3), some (.ref a4), some (.int i5), some (.int i6), some (.int i7), some (.int v_58), some (.int v_78), some (.int v_90), some (.int (0 : Int32))]) (Nat.le_of_ble_eq_true rfl) rfl ?_
            refine q_end ?_
            exact (ih dp d hdp _ _ i1 i2 i5 i6 i7 v_58 v_78 v_90 (0 : Int32) a3 a4 _ _).2.2 h
          · rw [if_pos c_62] at h
            refine q_iconst (0) (by decide) ?_
            refine q_goto ?_
            refine K_of b_98_78 h_98_78 ?_
            refine q_istore (ls1 := [some (.ref 26), some (.int i1), some (.int i2), some (.ref a3), some (.ref a4), some (.int i5), some (.int i6), some (.int i7), some (.int v_58), some (.int (0 : Int32)), none, none]) (Nat.le_of_ble_eq_true rfl) rfl ?_
            refine q_iload rfl ?_
            refine q_iload rfl ?_
            refine q_isub ?_
            refine q_iload rfl ?_
            refine q_iadd ?_
            refine q_iconst (5) (by decide) ?_
            refine q_ishl ?_
            obtain ⟨v_90, nv_90, h⟩ := stI_some h
            refine q_eqi nv_90.symm ?_
            refine q_istore (ls1 := [some (.ref 26), some (.int i1), some (.int i2), some (.ref a3), some (.ref a4), some (.int i5), some (.int i6), some (.int i7), some (.int v_58), some (.int (0 : Int32)), some (.int v_90), none]) (Nat.le_of_ble_eq_true rfl) rfl ?_
            refine q_iconst (0) (by decide) ?_
            refine q_istore (ls1 := [some (.ref 26), some (.int i1), some (.int i2), some (.ref a3), some (.ref a4), some (.int i5), some (.int i6), some (.int i7), some (.int v_58), some (.int (0 : Int32)), some (.int v_90), some (.int (0 : Int32))]) (Nat.le_of_ble_eq_true rfl) rfl ?_
            refine q_end ?_
            exact (ih dp d hdp _ _ i1 i2 i5 i6 i7 v_58 (0 : Int32) v_90 (0 : Int32) a3 a4 _ _).2.2 h
        · rw [if_pos c_42] at h
          refine q_iconst (0) (by decide) ?_
          refine q_goto ?_
          refine K_of b_98_58 h_98_58 ?_
          refine q_istore (ls1 := [some (.ref 26), some (.int i1), some (.int i2), some (.ref a3), some (.ref a4), some (.int i5), some (.int i6), some (.int i7), some (.int (0 : Int32)), none, none, none]) (Nat.le_of_ble_eq_true rfl) rfl ?_
          refine q_iload rfl ?_
          refine q_if_ne (fun c_62 => ?_) (fun c_62 => ?_)
          · rw [if_neg c_62] at h
            refine K_of b_98_69 h_98_69 ?_
            refine q_iload rfl ?_
            refine q_aload rfl ?_
            refine q_getRs (c0 := 6) (j := 10) rfl rfl (zl hS 26 (by decide)) (sk hS 26 (by decide) rfl) rfl (by decide) (r_26_10 hS) ?_
            refine q_iload rfl ?_
            obtain ⟨⟨u_76, v_76⟩, h⟩ := ite_some h
            refine q_ialN (Int32.toNatClampNeg i2) (nx u_76) (zl hS 37 (by decide)) (sk hS 37 (by decide) rfl) v_76 (by decide) ?_
            refine q_imul ?_
            refine q_end ?_
            refine K_of b_98_78 h_98_78 ?_
            obtain ⟨v_78, nv_78, h⟩ := stI_some h
            refine q_eqi nv_78.symm ?_
            refine q_istore (ls1 := [some (.ref 26), some (.int i1), some (.int i2), some (.ref a3), some (.ref a4), some (.int i5), some (.int i6), some (.int i7), some (.int (0 : Int32)), some (.int v_78), none, none]) (Nat.le_of_ble_eq_true rfl) rfl ?_
            refine q_iload rfl ?_
            refine q_iload rfl ?_
            refine q_isub ?_
            refine q_iload rfl ?_
            refine q_iadd ?_
            refine q_iconst (5) (by decide) ?_
            refine q_ishl ?_
            obtain ⟨v_90, nv_90, h⟩ := stI_some h
            refine q_eqi nv_90.symm ?_
            refine q_istore (ls1 := [some (.ref 26), some (.int i1), some (.int i2), some (.ref a3), some (.ref a4), some (.int i5), some (.int i6), some (.int i7), some (.int (0 : Int32)), some (.int v_78), some (.int v_90), none]) (Nat.le_of_ble_eq_true rfl) rfl ?_
            refine q_iconst (0) (by decide) ?_
            refine q_istore (ls1 := [some (.ref 26), some (.int i1), some (.int i2), some (.ref a3), some (.ref a4), some (.int i5), some (.int i6), some (.int i7), some (.int (0 : Int32)), some (.int v_78), some (.int v_90), some (.int (0 : Int32))]) (Nat.le_of_ble_eq_true rfl) rfl ?_
            refine q_end ?_
            exact (ih dp d hdp _ _ i1 i2 i5 i6 i7 (0 : Int32) v_78 v_90 (0 : Int32) a3 a4 _ _).2.2 h
          · rw [if_pos c_62] at h
            refine q_iconst (0) (by decide) ?_
            refine q_goto ?_
            refine K_of b_98_78 h_98_78 ?_
            refine q_istore (ls1 := [some (.ref 26), some (.int i1), some (.int i2), some (.ref a3), some (.ref a4), some (.int i5), some (.int i6), some (.int i7), some (.int (0 : Int32)), some (.int (0 : Int32)), none, none]) (Nat.le_of_ble_eq_true rfl) rfl ?_
            refine q_iload rfl ?_
            refine q_iload rfl ?_
            refine q_isub ?_
            refine q_iload rfl ?_
            refine q_iadd ?_
            refine q_iconst (5) (by decide) ?_
            refine q_ishl ?_
            obtain ⟨v_90, nv_90, h⟩ := stI_some h
            refine q_eqi nv_90.symm ?_
            refine q_istore (ls1 := [some (.ref 26), some (.int i1), some (.int i2), some (.ref a3), some (.ref a4), some (.int i5), some (.int i6), some (.int i7), some (.int (0 : Int32)), some (.int (0 : Int32)), some (.int v_90), none]) (Nat.le_of_ble_eq_true rfl) rfl ?_
            refine q_iconst (0) (by decide) ?_
            refine q_istore (ls1 := [some (.ref 26), some (.int i1), some (.int i2), some (.ref a3), some (.ref a4), some (.int i5), some (.int i6), some (.int i7), some (.int (0 : Int32)), some (.int (0 : Int32)), some (.int v_90), some (.int (0 : Int32))]) (Nat.le_of_ble_eq_true rfl) rfl ?_
            refine q_end ?_
            exact (ih dp d hdp _ _ i1 i2 i5 i6 i7 (0 : Int32) (0 : Int32) v_90 (0 : Int32) a3 a4 _ _).2.2 h
    · intro h
      rw [e_98_2] at h
      refine K_of b_98_95 h_98_95 ?_
      refine q_iload rfl ?_
      refine q_aload rfl ?_
      refine q_getRs (c0 := 6) (j := 8) rfl rfl (zl hS 26 (by decide)) (sk hS 26 (by decide) rfl) rfl (by decide) (r_26_8 hS) ?_
      refine q_iload rfl ?_
      obtain ⟨⟨u_102, v_102⟩, h⟩ := ite_some h
      refine q_ialN (Int32.toNatClampNeg i1) (nx u_102) (zl hS 35 (by decide)) (sk hS 35 (by decide) rfl) v_102 (by decide) ?_
      refine q_icmp_gt (fun c_103 => ?_) (fun c_103 => ?_)
      · rw [if_pos c_103] at h
        refine K_of b_98_191 h_98_191 ?_
        refine q_iinc (ls1 := [some (.ref 26), some (.int i1), some (.int i2), some (.ref a3), some (.ref a4), some (.int i5), some (.int i6), some (.int (i7 + Int32.ofInt (1))), some (.int i8), some (.int i9), some (.int i10), some (.int i11)]) rfl rfl ?_
        refine q_goto ?_
        refine K_mask [true, true, true, true, true, true, true, true, false, false, false, false] (Nat.le_of_ble_eq_true rfl) ?_
        exact (ih dp d hdp _ _ i1 i2 i5 i6 (i7 + Int32.ofInt (1)) 0 0 0 0 a3 a4 _ _).2.1 h
      · rw [if_neg c_103] at h
        refine q_aload rfl ?_
        refine q_iload rfl ?_
        refine q_iconst (15) (by decide) ?_
        refine q_iadd ?_
        refine q_aload rfl ?_
        refine q_getRs (c0 := 6) (j := 8) rfl rfl (zl hS 26 (by decide)) (sk hS 26 (by decide) rfl) rfl (by decide) (r_26_8 hS) ?_
        refine q_iload rfl ?_
        obtain ⟨⟨u_117, v_117⟩, h⟩ := ite_some h
        refine q_ialN (Int32.toNatClampNeg i1) (nx u_117) (zl hS 35 (by decide)) (sk hS 35 (by decide) rfl) v_117 (by decide) ?_
        refine q_isub ?_
        refine q_iload rfl ?_
        refine q_iadd ?_
        refine q_iload rfl ?_
        refine q_if_ne (fun c_124 => ?_) (fun c_124 => ?_)
        · rw [if_neg c_124] at h
          refine K_of b_98_132 h_98_132 ?_
          refine q_iload rfl ?_
          refine q_iload rfl ?_
          refine q_aload rfl ?_
          refine q_getRs (c0 := 6) (j := 9) rfl rfl (zl hS 26 (by decide)) (sk hS 26 (by decide) rfl) rfl (by decide) (r_26_9 hS) ?_
          refine q_iload rfl ?_
          obtain ⟨⟨u_141, v_141⟩, h⟩ := ite_some h
          refine q_ialN (Int32.toNatClampNeg i1) (nx u_141) (zl hS 36 (by decide)) (sk hS 36 (by decide) rfl) v_141 (by decide) ?_
          refine q_imul ?_
          refine q_iadd ?_
          refine q_end ?_
          refine K_of b_98_144 h_98_144 ?_
          obtain ⟨⟨⟨z_144, k_144, m_144⟩, u_144, v_144⟩, h⟩ := ite_some h
          refine q_iasN (Int32.toNatClampNeg (((i10 + (15 : Int32)) - (I 35 (Int32.toNatClampNeg i1))) + i11)) (nx u_144) z_144 (fst_eq k_144) v_144 m_144 ?_
          obtain ⟨I_144, nI_144, h⟩ := stI_some h
          refine q_nI nI_144 ?_
          refine q_aload rfl ?_
          refine q_iload rfl ?_
          refine q_iconst (15) (by decide) ?_
          refine q_iadd ?_
          refine q_aload rfl ?_
          refine q_getRs (c0 := 6) (j := 8) rfl rfl (zl hS 26 (by decide)) (sk hS 26 (by decide) rfl) rfl (by decide) (r_26_8 hS) ?_
          refine q_iload rfl ?_
          obtain ⟨⟨u_157, v_157⟩, h⟩ := ite_some h
          refine q_ialN (Int32.toNatClampNeg i1) (nx u_157) (zl hS 35 (by decide)) (sk hS 35 (by decide) rfl) v_157 (by decide) ?_
          refine q_isub ?_
          refine q_iload rfl ?_
          refine q_iadd ?_
          refine q_iload rfl ?_
          refine q_if_ne (fun c_164 => ?_) (fun c_164 => ?_)
          · rw [if_neg c_164] at h
            refine K_of b_98_172 h_98_172 ?_
            refine q_iload rfl ?_
            refine q_iload rfl ?_
            refine q_aload rfl ?_
            refine q_getRs (c0 := 6) (j := 10) rfl rfl (zl hS 26 (by decide)) (sk hS 26 (by decide) rfl) rfl (by decide) (r_26_10 hS) ?_
            refine q_iload rfl ?_
            obtain ⟨⟨u_181, v_181⟩, h⟩ := ite_some h
            refine q_ialN (Int32.toNatClampNeg i1) (nx u_181) (zl hS 37 (by decide)) (sk hS 37 (by decide) rfl) v_181 (by decide) ?_
            refine q_imul ?_
            refine q_iadd ?_
            refine q_end ?_
            refine K_of b_98_184 h_98_184 ?_
            obtain ⟨⟨⟨z_184, k_184, m_184⟩, u_184, v_184⟩, h⟩ := ite_some h
            refine q_iasN (Int32.toNatClampNeg (((i10 + (15 : Int32)) - (I_144 35 (Int32.toNatClampNeg i1))) + i11)) (nx u_184) z_184 (fst_eq k_184) v_184 m_184 ?_
            obtain ⟨I_184, nI_184, h⟩ := stI_some h
            refine q_nI nI_184 ?_
            refine q_iinc (ls1 := [some (.ref 26), some (.int i1), some (.int i2), some (.ref a3), some (.ref a4), some (.int i5), some (.int i6), some (.int i7), some (.int i8), some (.int i9), some (.int i10), some (.int (i11 + Int32.ofInt (1)))]) rfl rfl ?_
            refine q_goto ?_
            exact (ih dp d hdp _ _ i1 i2 i5 i6 i7 i8 i9 i10 (i11 + Int32.ofInt (1)) a3 a4 _ _).2.2 h
          · rw [if_pos c_164] at h
            refine q_iload rfl ?_
            refine q_goto ?_
            refine K_of b_98_184 h_98_184 ?_
            obtain ⟨⟨⟨z_184, k_184, m_184⟩, u_184, v_184⟩, h⟩ := ite_some h
            refine q_iasN (Int32.toNatClampNeg (((i10 + (15 : Int32)) - (I_144 35 (Int32.toNatClampNeg i1))) + i11)) (nx u_184) z_184 (fst_eq k_184) v_184 m_184 ?_
            obtain ⟨I_184, nI_184, h⟩ := stI_some h
            refine q_nI nI_184 ?_
            refine q_iinc (ls1 := [some (.ref 26), some (.int i1), some (.int i2), some (.ref a3), some (.ref a4), some (.int i5), some (.int i6), some (.int i7), some (.int i8), some (.int i9), some (.int i10), some (.int (i11 + Int32.ofInt (1)))]) rfl rfl ?_
            refine q_goto ?_
            exact (ih dp d hdp _ _ i1 i2 i5 i6 i7 i8 i9 i10 (i11 + Int32.ofInt (1)) a3 a4 _ _).2.2 h
        · rw [if_pos c_124] at h
          refine q_iload rfl ?_
          refine q_goto ?_
          refine K_of b_98_144 h_98_144 ?_
          obtain ⟨⟨⟨z_144, k_144, m_144⟩, u_144, v_144⟩, h⟩ := ite_some h
          refine q_iasN (Int32.toNatClampNeg (((i10 + (15 : Int32)) - (I 35 (Int32.toNatClampNeg i1))) + i11)) (nx u_144) z_144 (fst_eq k_144) v_144 m_144 ?_
          obtain ⟨I_144, nI_144, h⟩ := stI_some h
          refine q_nI nI_144 ?_
          refine q_aload rfl ?_
          refine q_iload rfl ?_
          refine q_iconst (15) (by decide) ?_
          refine q_iadd ?_
          refine q_aload rfl ?_
          refine q_getRs (c0 := 6) (j := 8) rfl rfl (zl hS 26 (by decide)) (sk hS 26 (by decide) rfl) rfl (by decide) (r_26_8 hS) ?_
          refine q_iload rfl ?_
          obtain ⟨⟨u_157, v_157⟩, h⟩ := ite_some h
          refine q_ialN (Int32.toNatClampNeg i1) (nx u_157) (zl hS 35 (by decide)) (sk hS 35 (by decide) rfl) v_157 (by decide) ?_
          refine q_isub ?_
          refine q_iload rfl ?_
          refine q_iadd ?_
          refine q_iload rfl ?_
          refine q_if_ne (fun c_164 => ?_) (fun c_164 => ?_)
          · rw [if_neg c_164] at h
            refine K_of b_98_172 h_98_172 ?_
            refine q_iload rfl ?_
            refine q_iload rfl ?_
            refine q_aload rfl ?_
            refine q_getRs (c0 := 6) (j := 10) rfl rfl (zl hS 26 (by decide)) (sk hS 26 (by decide) rfl) rfl (by decide) (r_26_10 hS) ?_
            refine q_iload rfl ?_
            obtain ⟨⟨u_181, v_181⟩, h⟩ := ite_some h
            refine q_ialN (Int32.toNatClampNeg i1) (nx u_181) (zl hS 37 (by decide)) (sk hS 37 (by decide) rfl) v_181 (by decide) ?_
            refine q_imul ?_
            refine q_iadd ?_
            refine q_end ?_
            refine K_of b_98_184 h_98_184 ?_
            obtain ⟨⟨⟨z_184, k_184, m_184⟩, u_184, v_184⟩, h⟩ := ite_some h
            refine q_iasN (Int32.toNatClampNeg (((i10 + (15 : Int32)) - (I_144 35 (Int32.toNatClampNeg i1))) + i11)) (nx u_184) z_184 (fst_eq k_184) v_184 m_184 ?_
            obtain ⟨I_184, nI_184, h⟩ := stI_some h
            refine q_nI nI_184 ?_
            refine q_iinc (ls1 := [some (.ref 26), some (.int i1), some (.int i2), some (.ref a3), some (.ref a4), some (.int i5), some (.int i6), some (.int i7), some (.int i8), some (.int i9), some (.int i10), some (.int (i11 + Int32.ofInt (1)))]) rfl rfl ?_
            refine q_goto ?_
            exact (ih dp d hdp _ _ i1 i2 i5 i6 i7 i8 i9 i10 (i11 + Int32.ofInt (1)) a3 a4 _ _).2.2 h
          · rw [if_pos c_164] at h
            refine q_iload rfl ?_
            refine q_goto ?_
            refine K_of b_98_184 h_98_184 ?_
            obtain ⟨⟨⟨z_184, k_184, m_184⟩, u_184, v_184⟩, h⟩ := ite_some h
            refine q_iasN (Int32.toNatClampNeg (((i10 + (15 : Int32)) - (I_144 35 (Int32.toNatClampNeg i1))) + i11)) (nx u_184) z_184 (fst_eq k_184) v_184 m_184 ?_
            obtain ⟨I_184, nI_184, h⟩ := stI_some h
            refine q_nI nI_184 ?_
            refine q_iinc (ls1 := [some (.ref 26), some (.int i1), some (.int i2), some (.ref a3), some (.ref a4), some (.int i5), some (.int i6), some (.int i7), some (.int i8), some (.int i9), some (.int i10), some (.int (i11 + Int32.ofInt (1)))]) rfl rfl ?_
            refine q_goto ?_
            exact (ih dp d hdp _ _ i1 i2 i5 i6 i7 i8 i9 i10 (i11 + Int32.ofInt (1)) a3 a4 _ _).2.2 h
theorem a_98 (X : GX) {z : Nat} {kd : Nat → Nat × Nat} {Rf : Nat → Nat → Option Nat} (hS : Sh z kd Rf) {n dp d : Nat} (hd : dp ≤ d) {I : (Nat → Nat → Int32)} {L : (Nat → Nat → Int64)} {i1 : Int32} {i2 : Int32} {a3 : Nat} {a4 : Nat} {I1 : (Nat → Nat → Int32)} {L1 : (Nat → Nat → Int64)} (h : g_98 n dp (z, kd, Rf) 0 I L i1 i2 0 0 0 0 0 0 0 a3 a4 = some (I1, L1)) : Ct X d 98 0 0 [.ref 26, .int i1, .int i2, .ref a3, .ref a4] (z, kd, I, L, Rf) (AV (fun τ => τ = (z, kd, I1, L1, Rf))) :=
  Ct_of mu_98 (Nat.le_of_ble_eq_true rfl) ((w_98 X hS n dp d hd I L i1 i2 0 0 0 0 0 0 0 a3 a4 _ _).1 h)

