/-! 100 CutFloor$Offers.fillOf(LCutFloor$Cuttings;I)I -/
set_option maxHeartbeats 4000000 in
set_option maxRecDepth 100000 in
def g_100 : Nat → Nat → EN → Nat → (Nat → Nat → Int32) → (Nat → Nat → Int64) → Int32 → Int32 → Int32 → Nat →  Option (Int32 × (Nat → Nat → Int32) × (Nat → Nat → Int64))
  | 0, _, _, _, _, _, _, _, _, _ => none
  | n + 1, dp, e, lab, I, L, i2, i3, i4, a1 =>
    if lab = 0 then (g_100 n dp e 1 I L i2 (0 : Int32) (0 : Int32) a1)
    else if lab = 1 then (if (I 26 17) ≤ i4 then (some (i3, I, L)) else (if a1 < e.1 ∧ (e.2.1 a1).1 = 2 then ((e.2.2 a1 1).bind (fun b_15 => (if 0 ≤ i4 ∧ (Int32.toNatClampNeg i4) < 5 then (if (b_15 < e.1 ∧ (e.2.1 b_15).1 = 13 ∧ (e.2.1 b_15).2 < 2 ^ 31) ∧ 0 ≤ ((i2 * (10 : Int32)) + (I 34 (Int32.toNatClampNeg i4))) ∧ (Int32.toNatClampNeg ((i2 * (10 : Int32)) + (I 34 (Int32.toNatClampNeg i4)))) < (e.2.1 b_15).2 then (stI (I b_15 (Int32.toNatClampNeg ((i2 * (10 : Int32)) + (I 34 (Int32.toNatClampNeg i4))))) (fun v_31 => (if 0 ≤ i4 ∧ (Int32.toNatClampNeg i4) < 5 then (if 1 ≤ dp then (stI (i3 ||| ((if (I 35 (Int32.toNatClampNeg i4)) < v_31 then (I 35 (Int32.toNatClampNeg i4)) else v_31) <<< (((5 : Int32) * i4) &&& 31))) (fun v_52 => (g_100 n dp e 1 I L i2 v_52 (i4 + Int32.ofInt (1)) a1))) else none) else none))) else none) else none))) else none))
    else none
set_option maxRecDepth 100000 in
theorem e_100_0 (n dp : Nat) (e : EN) (I : (Nat → Nat → Int32)) (L : (Nat → Nat → Int64)) (i2 : Int32) (i3 : Int32) (i4 : Int32) (a1 : Nat) : g_100 (n + 1) dp e 0 I L i2 i3 i4 a1 = (g_100 n dp e 1 I L i2 (0 : Int32) (0 : Int32) a1) := by rw [g_100.eq_2, if_pos (show (0 : Nat) = 0 from rfl)]
set_option maxRecDepth 100000 in
theorem e_100_1 (n dp : Nat) (e : EN) (I : (Nat → Nat → Int32)) (L : (Nat → Nat → Int64)) (i2 : Int32) (i3 : Int32) (i4 : Int32) (a1 : Nat) : g_100 (n + 1) dp e 1 I L i2 i3 i4 a1 = (if (I 26 17) ≤ i4 then (some (i3, I, L)) else (if a1 < e.1 ∧ (e.2.1 a1).1 = 2 then ((e.2.2 a1 1).bind (fun b_15 => (if 0 ≤ i4 ∧ (Int32.toNatClampNeg i4) < 5 then (if (b_15 < e.1 ∧ (e.2.1 b_15).1 = 13 ∧ (e.2.1 b_15).2 < 2 ^ 31) ∧ 0 ≤ ((i2 * (10 : Int32)) + (I 34 (Int32.toNatClampNeg i4))) ∧ (Int32.toNatClampNeg ((i2 * (10 : Int32)) + (I 34 (Int32.toNatClampNeg i4)))) < (e.2.1 b_15).2 then (stI (I b_15 (Int32.toNatClampNeg ((i2 * (10 : Int32)) + (I 34 (Int32.toNatClampNeg i4))))) (fun v_31 => (if 0 ≤ i4 ∧ (Int32.toNatClampNeg i4) < 5 then (if 1 ≤ dp then (stI (i3 ||| ((if (I 35 (Int32.toNatClampNeg i4)) < v_31 then (I 35 (Int32.toNatClampNeg i4)) else v_31) <<< (((5 : Int32) * i4) &&& 31))) (fun v_52 => (g_100 n dp e 1 I L i2 v_52 (i4 + Int32.ofInt (1)) a1))) else none) else none))) else none) else none))) else none)) := by rw [g_100.eq_2, if_neg (show ¬ ((1 : Nat) = 0) by decide), if_pos (show (1 : Nat) = 1 from rfl)]
set_option maxHeartbeats 8000000 in
set_option maxRecDepth 100000 in
theorem w_100 (X : GX) {z : Nat} {kd : Nat → Nat × Nat} {Rf : Nat → Nat → Option Nat} (hS : Sh z kd Rf) : ∀ (n dp d : Nat), dp ≤ d → ∀ (I : (Nat → Nat → Int32)) (L : (Nat → Nat → Int64)) (i2 : Int32) (i3 : Int32) (i4 : Int32) (a1 : Nat) (r : Int32) (I1 : (Nat → Nat → Int32)) (L1 : (Nat → Nat → Int64)), (g_100 n dp (z, kd, Rf) 0 I L i2 i3 i4 a1 = some (r, I1, L1) → K X d 100 0 0 (AI (fun x τ => x = r ∧ τ = (z, kd, I1, L1, Rf))) 0 [some (.ref 26), some (.ref a1), some (.int i2), none, none, none] [] (z, kd, I, L, Rf) 0 0) ∧
    (g_100 n dp (z, kd, Rf) 1 I L i2 i3 i4 a1 = some (r, I1, L1) → K X d 100 0 0 (AI (fun x τ => x = r ∧ τ = (z, kd, I1, L1, Rf))) 5 [some (.ref 26), some (.ref a1), some (.int i2), some (.int i3), some (.int i4), none] [] (z, kd, I, L, Rf) 0 0) := by
  intro n
  induction n with
  | zero => intro dp d hdp I L i2 i3 i4 a1 r I1 L1; exact ⟨(fun h => by cases h), (fun h => by cases h)⟩
  | succ n ih =>
    intro dp d hdp I L i2 i3 i4 a1 r I1 L1
    refine ⟨?_, ?_⟩
    · intro h
      rw [e_100_0] at h
      refine K_of b_100_0 h_100_0 ?_
      refine q_iconst (0) (by decide) ?_
      refine q_istore (ls1 := [some (.ref 26), some (.ref a1), some (.int i2), some (.int (0 : Int32)), none, none]) (Nat.le_of_ble_eq_true rfl) rfl ?_
      refine q_iconst (0) (by decide) ?_
      refine q_istore (ls1 := [some (.ref 26), some (.ref a1), some (.int i2), some (.int (0 : Int32)), some (.int (0 : Int32)), none]) (Nat.le_of_ble_eq_true rfl) rfl ?_
      refine q_end ?_
      exact (ih dp d hdp _ _ i2 (0 : Int32) (0 : Int32) a1 _ _ _).2 h
    · intro h
      rw [e_100_1] at h
      refine K_of b_100_5 h_100_5 ?_
      refine q_iload rfl ?_
      refine q_aload rfl ?_
      refine q_getI (c0 := 6) (j := 17) rfl rfl (zl hS 26 (by decide)) (sk hS 26 (by decide) rfl) (Or.inl rfl) (by decide) ?_
      refine q_icmp_ge (fun c_11 => ?_) (fun c_11 => ?_)
      · rw [if_pos c_11] at h
        refine K_of b_100_59 h_100_59 ?_
        refine q_iload rfl ?_
        cases h
        exact q_iret rfl (Nat.le_refl _) (Nat.le_refl _) ⟨rfl, rfl⟩
      · rw [if_neg c_11] at h
        refine q_aload rfl ?_
        obtain ⟨⟨z_15, k_15⟩, h⟩ := ite_some h
        obtain ⟨b_15, r_15, h⟩ := Option.bind_eq_some_iff.mp h
        refine q_getRs (c0 := 2) (j := 1) rfl rfl z_15 (fst_eq k_15) rfl (by decide) r_15 ?_
        refine q_iload rfl ?_
        refine q_iconst (10) (by decide) ?_
        refine q_imul ?_
        refine q_aload rfl ?_
        refine q_getRs (c0 := 6) (j := 7) rfl rfl (zl hS 26 (by decide)) (sk hS 26 (by decide) rfl) rfl (by decide) (r_26_7 hS) ?_
        refine q_iload rfl ?_
        obtain ⟨⟨u_28, v_28⟩, h⟩ := ite_some h
        refine q_ialN (Int32.toNatClampNeg i4) (nx u_28) (zl hS 34 (by decide)) (sk hS 34 (by decide) rfl) v_28 (by decide) ?_
        refine q_iadd ?_
        obtain ⟨⟨⟨z_30, k_30, m_30⟩, u_30, v_30⟩, h⟩ := ite_some h
        refine q_ialN (Int32.toNatClampNeg ((i2 * (10 : Int32)) + (I 34 (Int32.toNatClampNeg i4)))) (nx u_30) z_30 (fst_eq k_30) v_30 m_30 ?_
        obtain ⟨v_31, nv_31, h⟩ := stI_some h
        refine q_eqi nv_31.symm ?_
        refine q_istore (ls1 := [some (.ref 26), some (.ref a1), some (.int i2), some (.int i3), some (.int i4), some (.int v_31)]) (Nat.le_of_ble_eq_true rfl) rfl ?_
        refine q_iload rfl ?_
        refine q_iload rfl ?_
        refine q_aload rfl ?_
        refine q_getRs (c0 := 6) (j := 8) rfl rfl (zl hS 26 (by decide)) (sk hS 26 (by decide) rfl) rfl (by decide) (r_26_8 hS) ?_
        refine q_iload rfl ?_
        obtain ⟨⟨u_42, v_42⟩, h⟩ := ite_some h
        refine q_ialN (Int32.toNatClampNeg i4) (nx u_42) (zl hS 35 (by decide)) (sk hS 35 (by decide) rfl) v_42 (by decide) ?_
        obtain ⟨d_43, h⟩ := ite_some h
        refine q_min (Nat.le_of_ble_eq_true rfl) (Nat.le_trans d_43 hdp) (Nat.le_refl _) (Nat.le_refl _) ?_
        refine q_iconst (5) (by decide) ?_
        refine q_iload rfl ?_
        refine q_imul ?_
        refine q_ishl ?_
        refine q_ior ?_
        obtain ⟨v_52, nv_52, h⟩ := stI_some h
        refine q_eqi nv_52.symm ?_
        refine q_istore (ls1 := [some (.ref 26), some (.ref a1), some (.int i2), some (.int v_52), some (.int i4), some (.int v_31)]) (Nat.le_of_ble_eq_true rfl) rfl ?_
        refine q_iinc (ls1 := [some (.ref 26), some (.ref a1), some (.int i2), some (.int v_52), some (.int (i4 + Int32.ofInt (1))), some (.int v_31)]) rfl rfl ?_
        refine q_goto ?_
        refine K_mask [true, true, true, true, true, false] (Nat.le_of_ble_eq_true rfl) ?_
        exact (ih dp d hdp _ _ i2 v_52 (i4 + Int32.ofInt (1)) a1 _ _ _).2 h
theorem a_100 (X : GX) {z : Nat} {kd : Nat → Nat × Nat} {Rf : Nat → Nat → Option Nat} (hS : Sh z kd Rf) {n dp d : Nat} (hd : dp ≤ d) {I : (Nat → Nat → Int32)} {L : (Nat → Nat → Int64)} {a1 : Nat} {i2 : Int32} {I1 : (Nat → Nat → Int32)} {L1 : (Nat → Nat → Int64)} {r : Int32} (h : g_100 n dp (z, kd, Rf) 0 I L i2 0 0 a1 = some (r, I1, L1)) : Ct X d 100 0 0 [.ref 26, .ref a1, .int i2] (z, kd, I, L, Rf) (AI (fun x τ => x = r ∧ τ = (z, kd, I1, L1, Rf))) :=
  Ct_of mu_100 (Nat.le_of_ble_eq_true rfl) ((w_100 X hS n dp d hd I L i2 0 0 a1 _ _ _).1 h)

/-! 101 CutFloor$Offers.gainOf(LCutFloor$Hall;LCutFloor$Cuttings;I)I -/
set_option maxHeartbeats 4000000 in
set_option maxRecDepth 100000 in
def g_101 : Nat → Nat → EN → Nat → (Nat → Nat → Int32) → (Nat → Nat → Int64) → Int32 → Int32 → Int32 → Nat →  Option (Int32 × (Nat → Nat → Int32) × (Nat → Nat → Int64))
  | 0, _, _, _, _, _, _, _, _, _ => none
  | n + 1, dp, e, lab, I, L, i2, i3, i4, a1 =>
    if lab = 0 then (g_101 n dp e 1 I L i2 (0 : Int32) (0 : Int32) a1)
    else if lab = 1 then (if (10 : Int32) ≤ i4 then (some ((i3 * (16 : Int32)), I, L)) else (if a1 < e.1 ∧ (e.2.1 a1).1 = 2 then ((e.2.2 a1 1).bind (fun b_14 => (if (b_14 < e.1 ∧ (e.2.1 b_14).1 = 13 ∧ (e.2.1 b_14).2 < 2 ^ 31) ∧ 0 ≤ ((i2 * (10 : Int32)) + i4) ∧ (Int32.toNatClampNeg ((i2 * (10 : Int32)) + i4)) < (e.2.1 b_14).2 then (if 0 ≤ ((10 : Int32) + i4) ∧ (Int32.toNatClampNeg ((10 : Int32) + i4)) < 30 then (stI (i3 + ((I b_14 (Int32.toNatClampNeg ((i2 * (10 : Int32)) + i4))) * (I 4 (Int32.toNatClampNeg ((10 : Int32) + i4))))) (fun v_37 => (g_101 n dp e 1 I L i2 v_37 (i4 + Int32.ofInt (1)) a1))) else none) else none))) else none))
    else none
set_option maxRecDepth 100000 in
theorem e_101_0 (n dp : Nat) (e : EN) (I : (Nat → Nat → Int32)) (L : (Nat → Nat → Int64)) (i2 : Int32) (i3 : Int32) (i4 : Int32) (a1 : Nat) : g_101 (n + 1) dp e 0 I L i2 i3 i4 a1 = (g_101 n dp e 1 I L i2 (0 : Int32) (0 : Int32) a1) := by rw [g_101.eq_2, if_pos (show (0 : Nat) = 0 from rfl)]
set_option maxRecDepth 100000 in
theorem e_101_1 (n dp : Nat) (e : EN) (I : (Nat → Nat → Int32)) (L : (Nat → Nat → Int64)) (i2 : Int32) (i3 : Int32) (i4 : Int32) (a1 : Nat) : g_101 (n + 1) dp e 1 I L i2 i3 i4 a1 = (if (10 : Int32) ≤ i4 then (some ((i3 * (16 : Int32)), I, L)) else (if a1 < e.1 ∧ (e.2.1 a1).1 = 2 then ((e.2.2 a1 1).bind (fun b_14 => (if (b_14 < e.1 ∧ (e.2.1 b_14).1 = 13 ∧ (e.2.1 b_14).2 < 2 ^ 31) ∧ 0 ≤ ((i2 * (10 : Int32)) + i4) ∧ (Int32.toNatClampNeg ((i2 * (10 : Int32)) + i4)) < (e.2.1 b_14).2 then (if 0 ≤ ((10 : Int32) + i4) ∧ (Int32.toNatClampNeg ((10 : Int32) + i4)) < 30 then (stI (i3 + ((I b_14 (Int32.toNatClampNeg ((i2 * (10 : Int32)) + i4))) * (I 4 (Int32.toNatClampNeg ((10 : Int32) + i4))))) (fun v_37 => (g_101 n dp e 1 I L i2 v_37 (i4 + Int32.ofInt (1)) a1))) else none) else none))) else none)) := by rw [g_101.eq_2, if_neg (show ¬ ((1 : Nat) = 0) by decide), if_pos (show (1 : Nat) = 1 from rfl)]
set_option maxHeartbeats 8000000 in
set_option maxRecDepth 100000 in
theorem w_101 (X : GX) {z : Nat} {kd : Nat → Nat × Nat} {Rf : Nat → Nat → Option Nat} (hS : Sh z kd Rf) : ∀ (n dp d : Nat), dp ≤ d → ∀ (I : (Nat → Nat → Int32)) (L : (Nat → Nat → Int64)) (i2 : Int32) (i3 : Int32) (i4 : Int32) (a1 : Nat) (r : Int32) (I1 : (Nat → Nat → Int32)) (L1 : (Nat → Nat → Int64)), (g_101 n dp (z, kd, Rf) 0 I L i2 i3 i4 a1 = some (r, I1, L1) → K X d 101 0 0 (AI (fun x τ => x = r ∧ τ = (z, kd, I1, L1, Rf))) 0 [some (.ref 1), some (.ref a1), some (.int i2), none, none] [] (z, kd, I, L, Rf) 0 0) ∧
    (g_101 n dp (z, kd, Rf) 1 I L i2 i3 i4 a1 = some (r, I1, L1) → K X d 101 0 0 (AI (fun x τ => x = r ∧ τ = (z, kd, I1, L1, Rf))) 5 [some (.ref 1), some (.ref a1), some (.int i2), some (.int i3), some (.int i4)] [] (z, kd, I, L, Rf) 0 0) := by
  intro n
  induction n with
  | zero => intro dp d hdp I L i2 i3 i4 a1 r I1 L1; exact ⟨(fun h => by cases h), (fun h => by cases h)⟩
  | succ n ih =>
    intro dp d hdp I L i2 i3 i4 a1 r I1 L1
    refine ⟨?_, ?_⟩
    · intro h
      rw [e_101_0] at h
      refine K_of b_101_0 h_101_0 ?_
      refine q_iconst (0) (by decide) ?_
      refine q_istore (ls1 := [some (.ref 1), some (.ref a1), some (.int i2), some (.int (0 : Int32)), none]) (Nat.le_of_ble_eq_true rfl) rfl ?_
      refine q_iconst (0) (by decide) ?_
      refine q_istore (ls1 := [some (.ref 1), some (.ref a1), some (.int i2), some (.int (0 : Int32)), some (.int (0 : Int32))]) (Nat.le_of_ble_eq_true rfl) rfl ?_
      refine q_end ?_
      exact (ih dp d hdp _ _ i2 (0 : Int32) (0 : Int32) a1 _ _ _).2 h
    · intro h
      rw [e_101_1] at h
      refine K_of b_101_5 h_101_5 ?_
      refine q_iload rfl ?_
      refine q_iconst (10) (by decide) ?_
      refine q_icmp_ge (fun c_9 => ?_) (fun c_9 => ?_)
      · rw [if_pos c_9] at h
        refine K_of b_101_44 h_101_44 ?_
        refine q_iload rfl ?_
        refine q_iconst (16) (by decide) ?_
        refine q_imul ?_
        cases h
        exact q_iret rfl (Nat.le_refl _) (Nat.le_refl _) ⟨rfl, rfl⟩
      · rw [if_neg c_9] at h
        refine q_iload rfl ?_
        refine q_aload rfl ?_
        obtain ⟨⟨z_14, k_14⟩, h⟩ := ite_some h
        obtain ⟨b_14, r_14, h⟩ := Option.bind_eq_some_iff.mp h
        refine q_getRs (c0 := 2) (j := 1) rfl rfl z_14 (fst_eq k_14) rfl (by decide) r_14 ?_
        refine q_iload rfl ?_
        refine q_iconst (10) (by decide) ?_
        refine q_imul ?_
        refine q_iload rfl ?_
        refine q_iadd ?_
        obtain ⟨⟨⟨z_24, k_24, m_24⟩, u_24, v_24⟩, h⟩ := ite_some h
        refine q_ialN (Int32.toNatClampNeg ((i2 * (10 : Int32)) + i4)) (nx u_24) z_24 (fst_eq k_24) v_24 m_24 ?_
        refine q_aload rfl ?_
        refine q_getRs (c0 := 3) (j := 2) rfl rfl (zl hS 1 (by decide)) (sk hS 1 (by decide) rfl) rfl (by decide) (r_1_2 hS) ?_
        refine q_iconst (10) (by decide) ?_
        refine q_iload rfl ?_
        refine q_iadd ?_
        obtain ⟨⟨u_34, v_34⟩, h⟩ := ite_some h
        refine q_ialN (Int32.toNatClampNeg ((10 : Int32) + i4)) (nx u_34) (zl hS 4 (by decide)) (sk hS 4 (by decide) rfl) v_34 (by decide) ?_
        refine q_imul ?_
        refine q_iadd ?_
        obtain ⟨v_37, nv_37, h⟩ := stI_some h
        refine q_eqi nv_37.symm ?_
        refine q_istore (ls1 := [some (.ref 1), some (.ref a1), some (.int i2), some (.int v_37), some (.int i4)]) (Nat.le_of_ble_eq_true rfl) rfl ?_
        refine q_iinc (ls1 := [some (.ref 1), some (.ref a1), some (.int i2), some (.int v_37), some (.int (i4 + Int32.ofInt (1)))]) rfl rfl ?_
        refine q_goto ?_
        exact (ih dp d hdp _ _ i2 v_37 (i4 + Int32.ofInt (1)) a1 _ _ _).2 h
theorem a_101 (X : GX) {z : Nat} {kd : Nat → Nat × Nat} {Rf : Nat → Nat → Option Nat} (hS : Sh z kd Rf) {n dp d : Nat} (hd : dp ≤ d) {I : (Nat → Nat → Int32)} {L : (Nat → Nat → Int64)} {a1 : Nat} {i2 : Int32} {I1 : (Nat → Nat → Int32)} {L1 : (Nat → Nat → Int64)} {r : Int32} (h : g_101 n dp (z, kd, Rf) 0 I L i2 0 0 a1 = some (r, I1, L1)) : Ct X d 101 0 0 [.ref 1, .ref a1, .int i2] (z, kd, I, L, Rf) (AI (fun x τ => x = r ∧ τ = (z, kd, I1, L1, Rf))) :=
  Ct_of mu_101 (Nat.le_of_ble_eq_true rfl) ((w_101 X hS n dp d hd I L i2 0 0 a1 _ _ _).1 h)

/-! 102 CutFloor$Offers.mostBonus(I)I -/
set_option maxHeartbeats 4000000 in
set_option maxRecDepth 100000 in
def g_102 : Nat → Nat → EN → Nat → (Nat → Nat → Int32) → (Nat → Nat → Int64) → Int32 → Int32 → Int32 →  Option (Int32 × (Nat → Nat → Int32) × (Nat → Nat → Int64))
  | 0, _, _, _, _, _, _, _, _ => none
  | n + 1, dp, e, lab, I, L, i1, i2, i3 =>
    if lab = 0 then (g_102 n dp e 1 I L i1 (0 : Int32) (0 : Int32))
    else if lab = 1 then (if (I 26 17) ≤ i3 then (some (i2, I, L)) else (if 0 ≤ i3 ∧ (Int32.toNatClampNeg i3) < 5 then (if 1 ≤ dp then (stI (i2 + ((if (0 : Int32) < (I 37 (Int32.toNatClampNeg i3)) then (I 37 (Int32.toNatClampNeg i3)) else (0 : Int32)) * ((Int32.toUInt32 i1 >>> (Int32.toUInt32 ((5 : Int32) * i3) &&& Int32.toUInt32 31)).toInt32 &&& (15 : Int32)))) (fun v_33 => (g_102 n dp e 1 I L i1 v_33 (i3 + Int32.ofInt (1))))) else none) else none))
    else none
set_option maxRecDepth 100000 in
theorem e_102_0 (n dp : Nat) (e : EN) (I : (Nat → Nat → Int32)) (L : (Nat → Nat → Int64)) (i1 : Int32) (i2 : Int32) (i3 : Int32) : g_102 (n + 1) dp e 0 I L i1 i2 i3 = (g_102 n dp e 1 I L i1 (0 : Int32) (0 : Int32)) := by rw [g_102.eq_2, if_pos (show (0 : Nat) = 0 from rfl)]
set_option maxRecDepth 100000 in
theorem e_102_1 (n dp : Nat) (e : EN) (I : (Nat → Nat → Int32)) (L : (Nat → Nat → Int64)) (i1 : Int32) (i2 : Int32) (i3 : Int32) : g_102 (n + 1) dp e 1 I L i1 i2 i3 = (if (I 26 17) ≤ i3 then (some (i2, I, L)) else (if 0 ≤ i3 ∧ (Int32.toNatClampNeg i3) < 5 then (if 1 ≤ dp then (stI (i2 + ((if (0 : Int32) < (I 37 (Int32.toNatClampNeg i3)) then (I 37 (Int32.toNatClampNeg i3)) else (0 : Int32)) * ((Int32.toUInt32 i1 >>> (Int32.toUInt32 ((5 : Int32) * i3) &&& Int32.toUInt32 31)).toInt32 &&& (15 : Int32)))) (fun v_33 => (g_102 n dp e 1 I L i1 v_33 (i3 + Int32.ofInt (1))))) else none) else none)) := by rw [g_102.eq_2, if_neg (show ¬ ((1 : Nat) = 0) by decide), if_pos (show (1 : Nat) = 1 from rfl)]
set_option maxHeartbeats 8000000 in
set_option maxRecDepth 100000 in
theorem w_102 (X : GX) {z : Nat} {kd : Nat → Nat × Nat} {Rf : Nat → Nat → Option Nat} (hS : Sh z kd Rf) : ∀ (n dp d : Nat), dp ≤ d → ∀ (I : (Nat → Nat → Int32)) (L : (Nat → Nat → Int64)) (i1 : Int32) (i2 : Int32) (i3 : Int32) (r : Int32) (I1 : (Nat → Nat → Int32)) (L1 : (Nat → Nat → Int64)), (g_102 n dp (z, kd, Rf) 0 I L i1 i2 i3 = some (r, I1, L1) → K X d 102 0 0 (AI (fun x τ => x = r ∧ τ = (z, kd, I1, L1, Rf))) 0 [some (.ref 26), some (.int i1), none, none] [] (z, kd, I, L, Rf) 0 0) ∧
    (g_102 n dp (z, kd, Rf) 1 I L i1 i2 i3 = some (r, I1, L1) → K X d 102 0 0 (AI (fun x τ => x = r ∧ τ = (z, kd, I1, L1, Rf))) 4 [some (.ref 26), some (.int i1), some (.int i2), some (.int i3)] [] (z, kd, I, L, Rf) 0 0) := by
  intro n
  induction n with
  | zero => intro dp d hdp I L i1 i2 i3 r I1 L1; exact ⟨(fun h => by cases h), (fun h => by cases h)⟩
  | succ n ih =>
    intro dp d hdp I L i1 i2 i3 r I1 L1
    refine ⟨?_, ?_⟩
    · intro h
      rw [e_102_0] at h
      refine K_of b_102_0 h_102_0 ?_
      refine q_iconst (0) (by decide) ?_
      refine q_istore (ls1 := [some (.ref 26), some (.int i1), some (.int (0 : Int32)), none]) (Nat.le_of_ble_eq_true rfl) rfl ?_
      refine q_iconst (0) (by decide) ?_
      refine q_istore (ls1 := [some (.ref 26), some (.int i1), some (.int (0 : Int32)), some (.int (0 : Int32))]) (Nat.le_of_ble_eq_true rfl) rfl ?_
      refine q_end ?_
      exact (ih dp d hdp _ _ i1 (0 : Int32) (0 : Int32) _ _ _).2 h
    · intro h
      rw [e_102_1] at h
      refine K_of b_102_4 h_102_4 ?_
      refine q_iload rfl ?_
      refine q_aload rfl ?_
      refine q_getI (c0 := 6) (j := 17) rfl rfl (zl hS 26 (by decide)) (sk hS 26 (by decide) rfl) (Or.inl rfl) (by decide) ?_
      refine q_icmp_ge (fun c_9 => ?_) (fun c_9 => ?_)
      · rw [if_pos c_9] at h
        refine K_of b_102_40 h_102_40 ?_
        refine q_iload rfl ?_
        cases h
        exact q_iret rfl (Nat.le_refl _) (Nat.le_refl _) ⟨rfl, rfl⟩
      · rw [if_neg c_9] at h
        refine q_iload rfl ?_
        refine q_iconst (0) (by decide) ?_
        refine q_aload rfl ?_
        refine q_getRs (c0 := 6) (j := 10) rfl rfl (zl hS 26 (by decide)) (sk hS 26 (by decide) rfl) rfl (by decide) (r_26_10 hS) ?_
        refine q_iload rfl ?_
        obtain ⟨⟨u_19, v_19⟩, h⟩ := ite_some h
        refine q_ialN (Int32.toNatClampNeg i3) (nx u_19) (zl hS 37 (by decide)) (sk hS 37 (by decide) rfl) v_19 (by decide) ?_
        obtain ⟨d_20, h⟩ := ite_some h
        refine q_max (Nat.le_of_ble_eq_true rfl) (Nat.le_trans d_20 hdp) (Nat.le_refl _) (Nat.le_refl _) ?_
        refine q_iload rfl ?_
        refine q_iconst (5) (by decide) ?_
        refine q_iload rfl ?_
        refine q_imul ?_
        refine q_iushr ?_
        refine q_iconst (15) (by decide) ?_
        refine q_iand ?_
        refine q_imul ?_
        refine q_iadd ?_
        obtain ⟨v_33, nv_33, h⟩ := stI_some h
        refine q_eqi nv_33.symm ?_
        refine q_istore (ls1 := [some (.ref 26), some (.int i1), some (.int v_33), some (.int i3)]) (Nat.le_of_ble_eq_true rfl) rfl ?_
        refine q_iinc (ls1 := [some (.ref 26), some (.int i1), some (.int v_33), some (.int (i3 + Int32.ofInt (1)))]) rfl rfl ?_
        refine q_goto ?_
        exact (ih dp d hdp _ _ i1 v_33 (i3 + Int32.ofInt (1)) _ _ _).2 h
theorem a_102 (X : GX) {z : Nat} {kd : Nat → Nat × Nat} {Rf : Nat → Nat → Option Nat} (hS : Sh z kd Rf) {n dp d : Nat} (hd : dp ≤ d) {I : (Nat → Nat → Int32)} {L : (Nat → Nat → Int64)} {i1 : Int32} {I1 : (Nat → Nat → Int32)} {L1 : (Nat → Nat → Int64)} {r : Int32} (h : g_102 n dp (z, kd, Rf) 0 I L i1 0 0 = some (r, I1, L1)) : Ct X d 102 0 0 [.ref 26, .int i1] (z, kd, I, L, Rf) (AI (fun x τ => x = r ∧ τ = (z, kd, I1, L1, Rf))) :=
  Ct_of mu_102 (Nat.le_of_ble_eq_true rfl) ((w_102 X hS n dp d hd I L i1 0 0 _ _ _).1 h)

/-! 99 CutFloor$Offers.group(LCutFloor$Hall;ILCutFloor$Cuttings;)V -/
set_option maxHeartbeats 4000000 in
set_option maxRecDepth 100000 in
def g_99 : Nat → Nat → EN → Nat → (Nat → Nat → Int32) → (Nat → Nat → Int64) → Int32 → Int32 → Int32 → Int32 → Int32 → Int32 → Int32 → Nat →  Option ((Nat → Nat → Int32) × (Nat → Nat → Int64))
  | 0, _, _, _, _, _, _, _, _, _, _, _, _, _ => none
  | n + 1, dp, e, lab, I, L, i2, i4, i5, i6, i7, i8, i9, a3 =>
    if lab = 0 then (g_99 n dp e 1 I L i2 (i2 * (64 : Int32)) (0 : Int32) 0 0 0 0 a3)
    else if lab = 1 then (if a3 < e.1 ∧ (e.2.1 a3).1 = 2 then (if (I a3 4) ≤ i5 then (some (I, L)) else (if 1 ≤ dp then (g_100 n (dp - 1) e 0 I L i5 0 0 a3).bind (fun ⟨x0_22, I0_22, L0_22⟩ => (if 1 ≤ dp then (g_101 n (dp - 1) e 0 I0_22 L0_22 i5 0 0 a3).bind (fun ⟨x1_31, I1_31, L1_31⟩ => (if 0 ≤ i2 ∧ (Int32.toNatClampNeg i2) < 3 then (if 1 ≤ dp then (g_102 n (dp - 1) e 0 I1_31 L1_31 x0_22 0 0).bind (fun ⟨x2_52, I2_52, L2_52⟩ => (if 1 ≤ dp then (if 0 ≤ i2 ∧ (Int32.toNatClampNeg i2) < 3 then (stI (u2 I2_52 33 (Int32.toNatClampNeg i2) (if (I1_31 33 (Int32.toNatClampNeg i2)) < (x1_31 + x2_52) then (x1_31 + x2_52) else (I1_31 33 (Int32.toNatClampNeg i2)))) (fun I_59 => (if 0 ≤ i2 ∧ (Int32.toNatClampNeg i2) < 3 then (stI (i4 + (I_59 32 (Int32.toNatClampNeg i2))) (fun v_73 => (g_99 n dp e 2 I_59 L2_52 i2 i4 i5 x0_22 x1_31 i4 v_73 a3))) else none))) else none) else none)) else none) else none)) else none)) else none)) else none)
    else if lab = 2 then (if i9 ≤ i8 then (g_99 n dp e 3 I L i2 i4 i5 i6 i7 i8 i9 a3) else (if 0 ≤ i8 ∧ (Int32.toNatClampNeg i8) < 192 then (if (I 27 (Int32.toNatClampNeg i8)) = i6 then (g_99 n dp e 3 I L i2 i4 i5 i6 i7 i8 i9 a3) else (g_99 n dp e 2 I L i2 i4 i5 i6 i7 (i8 + Int32.ofInt (1)) i9 a3)) else none))
    else if lab = 3 then (if 0 ≤ (i4 + i5) ∧ (Int32.toNatClampNeg (i4 + i5)) < 192 then (stI (u2 I 31 (Int32.toNatClampNeg (i4 + i5)) i8) (fun I_111 => (if i8 = i9 then (if 0 ≤ i2 ∧ (Int32.toNatClampNeg i2) < 3 then (if 0 ≤ i2 ∧ (Int32.toNatClampNeg i2) < 3 then (stI (u2 I_111 32 (Int32.toNatClampNeg i2) ((I_111 32 (Int32.toNatClampNeg i2)) + (1 : Int32))) (fun I_128 => (if 0 ≤ i8 ∧ (Int32.toNatClampNeg i8) < 192 then (stI (u2 I_128 27 (Int32.toNatClampNeg i8) i6) (fun I_137 => (g_99 n dp e 4 I_137 L i2 i4 i5 i6 i7 i8 i9 a3))) else none))) else none) else none) else (g_99 n dp e 4 I_111 L i2 i4 i5 i6 i7 i8 i9 a3)))) else none)
    else if lab = 4 then (if i8 = i9 then (g_99 n dp e 5 I L i2 i4 i5 i6 i7 i8 i9 a3) else (if 0 ≤ i8 ∧ (Int32.toNatClampNeg i8) < 192 then (if i7 ≤ (I 28 (Int32.toNatClampNeg i8)) then (if 0 ≤ i8 ∧ (Int32.toNatClampNeg i8) < 192 then (if i7 = (I 28 (Int32.toNatClampNeg i8)) then (if 0 ≤ i8 ∧ (Int32.toNatClampNeg i8) < 192 then (if 0 ≤ i8 ∧ (Int32.toNatClampNeg i8) < 192 then (stI (u2 I 29 (Int32.toNatClampNeg i8) ((I 29 (Int32.toNatClampNeg i8)) + (1 : Int32))) (fun I_208 => (g_99 n dp e 6 I_208 L i2 i4 i5 i6 i7 i8 i9 a3))) else none) else none) else (g_99 n dp e 6 I L i2 i4 i5 i6 i7 i8 i9 a3)) else none) else (g_99 n dp e 5 I L i2 i4 i5 i6 i7 i8 i9 a3)) else none))
    else if lab = 5 then (if 0 ≤ i8 ∧ (Int32.toNatClampNeg i8) < 192 then (stI (u2 I 28 (Int32.toNatClampNeg i8) i7) (fun I_165 => (if 0 ≤ i8 ∧ (Int32.toNatClampNeg i8) < 192 then (stI (u2 I_165 29 (Int32.toNatClampNeg i8) (1 : Int32)) (fun I_173 => (if 0 ≤ i8 ∧ (Int32.toNatClampNeg i8) < 192 then (stI (u2 I_173 30 (Int32.toNatClampNeg i8) i5) (fun I_182 => (g_99 n dp e 6 I_182 L i2 i4 i5 i6 i7 i8 i9 a3))) else none))) else none))) else none)
    else if lab = 6 then (g_99 n dp e 1 I L i2 i4 (i5 + Int32.ofInt (1)) 0 0 0 0 a3)
    else none
set_option maxRecDepth 100000 in
theorem e_99_0 (n dp : Nat) (e : EN) (I : (Nat → Nat → Int32)) (L : (Nat → Nat → Int64)) (i2 : Int32) (i4 : Int32) (i5 : Int32) (i6 : Int32) (i7 : Int32) (i8 : Int32) (i9 : Int32) (a3 : Nat) : g_99 (n + 1) dp e 0 I L i2 i4 i5 i6 i7 i8 i9 a3 = (g_99 n dp e 1 I L i2 (i2 * (64 : Int32)) (0 : Int32) 0 0 0 0 a3) := by rw [g_99.eq_2, if_pos (show (0 : Nat) = 0 from rfl)]
set_option maxRecDepth 100000 in
theorem e_99_1 (n dp : Nat) (e : EN) (I : (Nat → Nat → Int32)) (L : (Nat → Nat → Int64)) (i2 : Int32) (i4 : Int32) (i5 : Int32) (i6 : Int32) (i7 : Int32) (i8 : Int32) (i9 : Int32) (a3 : Nat) : g_99 (n + 1) dp e 1 I L i2 i4 i5 i6 i7 i8 i9 a3 = (if a3 < e.1 ∧ (e.2.1 a3).1 = 2 then (if (I a3 4) ≤ i5 then (some (I, L)) else (if 1 ≤ dp then (g_100 n (dp - 1) e 0 I L i5 0 0 a3).bind (fun ⟨x0_22, I0_22, L0_22⟩ => (if 1 ≤ dp then (g_101 n (dp - 1) e 0 I0_22 L0_22 i5 0 0 a3).bind (fun ⟨x1_31, I1_31, L1_31⟩ => (if 0 ≤ i2 ∧ (Int32.toNatClampNeg i2) < 3 then (if 1 ≤ dp then (g_102 n (dp - 1) e 0 I1_31 L1_31 x0_22 0 0).bind (fun ⟨x2_52, I2_52, L2_52⟩ => (if 1 ≤ dp then (if 0 ≤ i2 ∧ (Int32.toNatClampNeg i2) < 3 then (stI (u2 I2_52 33 (Int32.toNatClampNeg i2) (if (I1_31 33 (Int32.toNatClampNeg i2)) < (x1_31 + x2_52) then (x1_31 + x2_52) else (I1_31 33 (Int32.toNatClampNeg i2)))) (fun I_59 => (if 0 ≤ i2 ∧ (Int32.toNatClampNeg i2) < 3 then (stI (i4 + (I_59 32 (Int32.toNatClampNeg i2))) (fun v_73 => (g_99 n dp e 2 I_59 L2_52 i2 i4 i5 x0_22 x1_31 i4 v_73 a3))) else none))) else none) else none)) else none) else none)) else none)) else none)) else none) := by rw [g_99.eq_2, if_neg (show ¬ ((1 : Nat) = 0) by decide), if_pos (show (1 : Nat) = 1 from rfl)]
set_option maxRecDepth 100000 in
theorem e_99_2 (n dp : Nat) (e : EN) (I : (Nat → Nat → Int32)) (L : (Nat → Nat → Int64)) (i2 : Int32) (i4 : Int32) (i5 : Int32) (i6 : Int32) (i7 : Int32) (i8 : Int32) (i9 : Int32) (a3 : Nat) : g_99 (n + 1) dp e 2 I L i2 i4 i5 i6 i7 i8 i9 a3 = (if i9 ≤ i8 then (g_99 n dp e 3 I L i2 i4 i5 i6 i7 i8 i9 a3) else (if 0 ≤ i8 ∧ (Int32.toNatClampNeg i8) < 192 then (if (I 27 (Int32.toNatClampNeg i8)) = i6 then (g_99 n dp e 3 I L i2 i4 i5 i6 i7 i8 i9 a3) else (g_99 n dp e 2 I L i2 i4 i5 i6 i7 (i8 + Int32.ofInt (1)) i9 a3)) else none)) := by rw [g_99.eq_2, if_neg (show ¬ ((2 : Nat) = 0) by decide), if_neg (show ¬ ((2 : Nat) = 1) by decide), if_pos (show (2 : Nat) = 2 from rfl)]
set_option maxRecDepth 100000 in
theorem e_99_3 (n dp : Nat) (e : EN) (I : (Nat → Nat → Int32)) (L : (Nat → Nat → Int64)) (i2 : Int32) (i4 : Int32) (i5 : Int32) (i6 : Int32) (i7 : Int32) (i8 : Int32) (i9 : Int32) (a3 : Nat) : g_99 (n + 1) dp e 3 I L i2 i4 i5 i6 i7 i8 i9 a3 = (if 0 ≤ (i4 + i5) ∧ (Int32.toNatClampNeg (i4 + i5)) < 192 then (stI (u2 I 31 (Int32.toNatClampNeg (i4 + i5)) i8) (fun I_111 => (if i8 = i9 then (if 0 ≤ i2 ∧ (Int32.toNatClampNeg i2) < 3 then (if 0 ≤ i2 ∧ (Int32.toNatClampNeg i2) < 3 then (stI (u2 I_111 32 (Int32.toNatClampNeg i2) ((I_111 32 (Int32.toNatClampNeg i2)) + (1 : Int32))) (fun I_128 => (if 0 ≤ i8 ∧ (Int32.toNatClampNeg i8) < 192 then (stI (u2 I_128 27 (Int32.toNatClampNeg i8) i6) (fun I_137 => (g_99 n dp e 4 I_137 L i2 i4 i5 i6 i7 i8 i9 a3))) else none))) else none) else none) else (g_99 n dp e 4 I_111 L i2 i4 i5 i6 i7 i8 i9 a3)))) else none) := by rw [g_99.eq_2, if_neg (show ¬ ((3 : Nat) = 0) by decide), if_neg (show ¬ ((3 : Nat) = 1) by decide), if_neg (show ¬ ((3 : Nat) = 2) by decide), if_pos (show (3 : Nat) = 3 from rfl)]
set_option maxRecDepth 100000 in
theorem e_99_4 (n dp : Nat) (e : EN) (I : (Nat → Nat → Int32)) (L : (Nat → Nat → Int64)) (i2 : Int32) (i4 : Int32) (i5 : Int32) (i6 : Int32) (i7 : Int32) (i8 : Int32) (i9 : Int32) (a3 : Nat) : g_99 (n + 1) dp e 4 I L i2 i4 i5 i6 i7 i8 i9 a3 = (if i8 = i9 then (g_99 n dp e 5 I L i2 i4 i5 i6 i7 i8 i9 a3) else (if 0 ≤ i8 ∧ (Int32.toNatClampNeg i8) < 192 then (if i7 ≤ (I 28 (Int32.toNatClampNeg i8)) then (if 0 ≤ i8 ∧ (Int32.toNatClampNeg i8) < 192 then (if i7 = (I 28 (Int32.toNatClampNeg i8)) then (if 0 ≤ i8 ∧ (Int32.toNatClampNeg i8) < 192 then (if 0 ≤ i8 ∧ (Int32.toNatClampNeg i8) < 192 then (stI (u2 I 29 (Int32.toNatClampNeg i8) ((I 29 (Int32.toNatClampNeg i8)) + (1 : Int32))) (fun I_208 => (g_99 n dp e 6 I_208 L i2 i4 i5 i6 i7 i8 i9 a3))) else none) else none) else (g_99 n dp e 6 I L i2 i4 i5 i6 i7 i8 i9 a3)) else none) else (g_99 n dp e 5 I L i2 i4 i5 i6 i7 i8 i9 a3)) else none)) := by rw [g_99.eq_2, if_neg (show ¬ ((4 : Nat) = 0) by decide), if_neg (show ¬ ((4 : Nat) = 1) by decide), if_neg (show ¬ ((4 : Nat) = 2) by decide), if_neg (show ¬ ((4 : Nat) = 3) by decide), if_pos (show (4 : Nat) = 4 from rfl)]
set_option maxRecDepth 100000 in
theorem e_99_5 (n dp : Nat) (e : EN) (I : (Nat → Nat → Int32)) (L : (Nat → Nat → Int64)) (i2 : Int32) (i4 : Int32) (i5 : Int32) (i6 : Int32) (i7 : Int32) (i8 : Int32) (i9 : Int32) (a3 : Nat) : g_99 (n + 1) dp e 5 I L i2 i4 i5 i6 i7 i8 i9 a3 = (if 0 ≤ i8 ∧ (Int32.toNatClampNeg i8) < 192 then (stI (u2 I 28 (Int32.toNatClampNeg i8) i7) (fun I_165 => (if 0 ≤ i8 ∧ (Int32.toNatClampNeg i8) < 192 then (stI (u2 I_165 29 (Int32.toNatClampNeg i8) (1 : Int32)) (fun I_173 => (if 0 ≤ i8 ∧ (Int32.toNatClampNeg i8) < 192 then (stI (u2 I_173 30 (Int32.toNatClampNeg i8) i5) (fun I_182 => (g_99 n dp e 6 I_182 L i2 i4 i5 i6 i7 i8 i9 a3))) else none))) else none))) else none) := by rw [g_99.eq_2, if_neg (show ¬ ((5 : Nat) = 0) by decide), if_neg (show ¬ ((5 : Nat) = 1) by decide), if_neg (show ¬ ((5 : Nat) = 2) by decide), if_neg (show ¬ ((5 : Nat) = 3) by decide), if_neg (show ¬ ((5 : Nat) = 4) by decide), if_pos (show (5 : Nat) = 5 from rfl)]
set_option maxRecDepth 100000 in
theorem e_99_6 (n dp : Nat) (e : EN) (I : (Nat → Nat → Int32)) (L : (Nat → Nat → Int64)) (i2 : Int32) (i4 : Int32) (i5 : Int32) (i6 : Int32) (i7 : Int32) (i8 : Int32) (i9 : Int32) (a3 : Nat) : g_99 (n + 1) dp e 6 I L i2 i4 i5 i6 i7 i8 i9 a3 = (g_99 n dp e 1 I L i2 i4 (i5 + Int32.ofInt (1)) 0 0 0 0 a3) := by rw [g_99.eq_2, if_neg (show ¬ ((6 : Nat) = 0) by decide), if_neg (show ¬ ((6 : Nat) = 1) by decide), if_neg (show ¬ ((6 : Nat) = 2) by decide), if_neg (show ¬ ((6 : Nat) = 3) by decide), if_neg (show ¬ ((6 : Nat) = 4) by decide), if_neg (show ¬ ((6 : Nat) = 5) by decide), if_pos (show (6 : Nat) = 6 from rfl)]
set_option maxHeartbeats 8000000 in
set_option maxRecDepth 100000 in
theorem w_99 (X : GX) {z : Nat} {kd : Nat → Nat × Nat} {Rf : Nat → Nat → Option Nat} (hS : Sh z kd Rf) : ∀ (n dp d : Nat), dp ≤ d → ∀ (I : (Nat → Nat → Int32)) (L : (Nat → Nat → Int64)) (i2 : Int32) (i4 : Int32) (i5 : Int32) (i6 : Int32) (i7 : Int32) (i8 : Int32) (i9 : Int32) (a3 : Nat) (I1 : (Nat → Nat → Int32)) (L1 : (Nat → Nat → Int64)), (g_99 n dp (z, kd, Rf) 0 I L i2 i4 i5 i6 i7 i8 i9 a3 = some (I1, L1) → K X d 99 0 0 (AV (fun τ => τ = (z, kd, I1, L1, Rf))) 0 [some (.ref 26), some (.ref 1), some (.int i2), some (.ref a3), none, none, none, none, none, none] [] (z, kd, I, L, Rf) 0 0) ∧
    (g_99 n dp (z, kd, Rf) 1 I L i2 i4 i5 i6 i7 i8 i9 a3 = some (I1, L1) → K X d 99 0 0 (AV (fun τ => τ = (z, kd, I1, L1, Rf))) 9 [some (.ref 26), some (.ref 1), some (.int i2), some (.ref a3), some (.int i4), some (.int i5), none, none, none, none] [] (z, kd, I, L, Rf) 0 0) ∧
    (g_99 n dp (z, kd, Rf) 2 I L i2 i4 i5 i6 i7 i8 i9 a3 = some (I1, L1) → K X d 99 0 0 (AV (fun τ => τ = (z, kd, I1, L1, Rf))) 75 [some (.ref 26), some (.ref 1), some (.int i2), some (.ref a3), some (.int i4), some (.int i5), some (.int i6), some (.int i7), some (.int i8), some (.int i9)] [] (z, kd, I, L, Rf) 0 0) ∧
    (g_99 n dp (z, kd, Rf) 3 I L i2 i4 i5 i6 i7 i8 i9 a3 = some (I1, L1) → K X d 99 0 0 (AV (fun τ => τ = (z, kd, I1, L1, Rf))) 100 [some (.ref 26), some (.ref 1), some (.int i2), some (.ref a3), some (.int i4), some (.int i5), some (.int i6), some (.int i7), some (.int i8), some (.int i9)] [] (z, kd, I, L, Rf) 0 0) ∧
    (g_99 n dp (z, kd, Rf) 4 I L i2 i4 i5 i6 i7 i8 i9 a3 = some (I1, L1) → K X d 99 0 0 (AV (fun τ => τ = (z, kd, I1, L1, Rf))) 138 [some (.ref 26), some (.ref 1), some (.int i2), some (.ref a3), some (.int i4), some (.int i5), some (.int i6), some (.int i7), some (.int i8), some (.int i9)] [] (z, kd, I, L, Rf) 0 0) ∧
    (g_99 n dp (z, kd, Rf) 5 I L i2 i4 i5 i6 i7 i8 i9 a3 = some (I1, L1) → K X d 99 0 0 (AV (fun τ => τ = (z, kd, I1, L1, Rf))) 157 [some (.ref 26), some (.ref 1), some (.int i2), some (.ref a3), some (.int i4), some (.int i5), some (.int i6), some (.int i7), some (.int i8), some (.int i9)] [] (z, kd, I, L, Rf) 0 0) ∧
    (g_99 n dp (z, kd, Rf) 6 I L i2 i4 i5 i6 i7 i8 i9 a3 = some (I1, L1) → K X d 99 0 0 (AV (fun τ => τ = (z, kd, I1, L1, Rf))) 209 [some (.ref 26), some (.ref 1), some (.int i2), some (.ref a3), some (.int i4), some (.int i5), some (.int i6), some (.int i7), some (.int i8), some (.int i9)] [] (z, kd, I, L, Rf) 0 0) := by
  intro n
  induction n with
  | zero => intro dp d hdp I L i2 i4 i5 i6 i7 i8 i9 a3 I1 L1; exact ⟨(fun h => by cases h), (fun h => by cases h), (fun h => by cases h), (fun h => by cases h), (fun h => by cases h), (fun h => by cases h), (fun h => by cases h)⟩
  | succ n ih =>
    intro dp d hdp I L i2 i4 i5 i6 i7 i8 i9 a3 I1 L1
    refine ⟨?_, ?_, ?_, ?_, ?_, ?_, ?_⟩
    · intro h
      rw [e_99_0] at h
      refine K_of b_99_0 h_99_0 ?_
      refine q_iload rfl ?_
      refine q_iconst (64) (by decide) ?_
      refine q_imul ?_
      refine q_istore (ls1 := [some (.ref 26), some (.ref 1), some (.int i2), some (.ref a3), some (.int (i2 * (64 : Int32))), none, none, none, none, none]) (Nat.le_of_ble_eq_true rfl) rfl ?_
      refine q_iconst (0) (by decide) ?_
      refine q_istore (ls1 := [some (.ref 26), some (.ref 1), some (.int i2), some (.ref a3), some (.int (i2 * (64 : Int32))), some (.int (0 : Int32)), none, none, none, none]) (Nat.le_of_ble_eq_true rfl) rfl ?_
      refine q_end ?_
      exact (ih dp d hdp _ _ i2 (i2 * (64 : Int32)) (0 : Int32) 0 0 0 0 a3 _ _).2.1 h
    · intro h
      rw [e_99_1] at h
      refine K_of b_99_9 h_99_9 ?_
      refine q_iload rfl ?_
      refine q_aload rfl ?_
      obtain ⟨⟨z_12, k_12⟩, h⟩ := ite_some h
      refine q_getI (c0 := 2) (j := 4) rfl rfl z_12 (fst_eq k_12) (Or.inl rfl) (by decide) ?_
      refine q_icmp_ge (fun c_15 => ?_) (fun c_15 => ?_)
      · rw [if_pos c_15] at h
        refine K_of b_99_215 h_99_215 ?_
        cases h
        exact q_vret rfl (Nat.le_refl _) (Nat.le_refl _) rfl
      · rw [if_neg c_15] at h
        refine q_aload rfl ?_
        refine q_aload rfl ?_
        refine q_iload rfl ?_
        obtain ⟨d_22, h⟩ := ite_some h
        obtain ⟨⟨x0_22, I0_22, L0_22⟩, e_22, h⟩ := Option.bind_eq_some_iff.mp h
        dsimp only at h
        refine q_fv3I (a_100 X hS (d := d - 1) (by omega) e_22) (by omega) (Nat.le_refl _) (Nat.le_refl _) rfl (Nat.le_of_ble_eq_true rfl) ⟨(zl hS 26 (by decide)), congrArg Prod.fst (sk hS 26 (by decide) rfl), by decide⟩ ?_
        refine q_istore (ls1 := [some (.ref 26), some (.ref 1), some (.int i2), some (.ref a3), some (.int i4), some (.int i5), some (.int x0_22), none, none, none]) (Nat.le_of_ble_eq_true rfl) rfl ?_
        refine q_aload rfl ?_
        refine q_aload rfl ?_
        refine q_iload rfl ?_
        obtain ⟨d_31, h⟩ := ite_some h
        obtain ⟨⟨x1_31, I1_31, L1_31⟩, e_31, h⟩ := Option.bind_eq_some_iff.mp h
        dsimp only at h
        refine q_fs3I (a_101 X hS (d := d - 1) (by omega) e_31) (by omega) (Nat.le_refl _) (Nat.le_refl _) rfl (Nat.le_of_ble_eq_true rfl) ?_
        refine q_istore (ls1 := [some (.ref 26), some (.ref 1), some (.int i2), some (.ref a3), some (.int i4), some (.int i5), some (.int x0_22), some (.int x1_31), none, none]) (Nat.le_of_ble_eq_true rfl) rfl ?_
        refine q_aload rfl ?_
        refine q_getRs (c0 := 6) (j := 6) rfl rfl (zl hS 26 (by decide)) (sk hS 26 (by decide) rfl) rfl (by decide) (r_26_6 hS) ?_
        refine q_iload rfl ?_
        refine q_aload rfl ?_
        refine q_getRs (c0 := 6) (j := 6) rfl rfl (zl hS 26 (by decide)) (sk hS 26 (by decide) rfl) rfl (by decide) (r_26_6 hS) ?_
        refine q_iload rfl ?_
        obtain ⟨⟨u_46, v_46⟩, h⟩ := ite_some h
        refine q_ialN (Int32.toNatClampNeg i2) (nx u_46) (zl hS 33 (by decide)) (sk hS 33 (by decide) rfl) v_46 (by decide) ?_
        refine q_iload rfl ?_
        refine q_aload rfl ?_
        refine q_iload rfl ?_
        obtain ⟨d_52, h⟩ := ite_some h
        obtain ⟨⟨x2_52, I2_52, L2_52⟩, e_52, h⟩ := Option.bind_eq_some_iff.mp h
        dsimp only at h
        refine q_fv2I (a_102 X hS (d := d - 1) (by omega) e_52) (by omega) (Nat.le_refl _) (Nat.le_refl _) rfl (Nat.le_of_ble_eq_true rfl) ⟨(zl hS 26 (by decide)), congrArg Prod.fst (sk hS 26 (by decide) rfl), by decide⟩ ?_
        refine q_iadd ?_
        obtain ⟨d_56, h⟩ := ite_some h
        refine q_max (Nat.le_of_ble_eq_true rfl) (Nat.le_trans d_56 hdp) (Nat.le_refl _) (Nat.le_refl _) ?_
        obtain ⟨⟨u_59, v_59⟩, h⟩ := ite_some h
        refine q_iasN (Int32.toNatClampNeg i2) (nx u_59) (zl hS 33 (by decide)) (sk hS 33 (by decide) rfl) v_59 (by decide) ?_
        obtain ⟨I_59, nI_59, h⟩ := stI_some h
        refine q_nI nI_59 ?_
        refine q_iload rfl ?_
        refine q_istore (ls1 := [some (.ref 26), some (.ref 1), some (.int i2), some (.ref a3), some (.int i4), some (.int i5), some (.int x0_22), some (.int x1_31), some (.int i4), none]) (Nat.le_of_ble_eq_true rfl) rfl ?_
        refine q_iload rfl ?_
        refine q_aload rfl ?_
        refine q_getRs (c0 := 6) (j := 5) rfl rfl (zl hS 26 (by decide)) (sk hS 26 (by decide) rfl) rfl (by decide) (r_26_5 hS) ?_
        refine q_iload rfl ?_
        obtain ⟨⟨u_71, v_71⟩, h⟩ := ite_some h
        refine q_ialN (Int32.toNatClampNeg i2) (nx u_71) (zl hS 32 (by decide)) (sk hS 32 (by decide) rfl) v_71 (by decide) ?_
        refine q_iadd ?_
        obtain ⟨v_73, nv_73, h⟩ := stI_some h
        refine q_eqi nv_73.symm ?_
        refine q_istore (ls1 := [some (.ref 26), some (.ref 1), some (.int i2), some (.ref a3), some (.int i4), some (.int i5), some (.int x0_22), some (.int x1_31), some (.int i4), some (.int v_73)]) (Nat.le_of_ble_eq_true rfl) rfl ?_
        refine q_end ?_
        exact (ih dp d hdp _ _ i2 i4 i5 x0_22 x1_31 i4 v_73 a3 _ _).2.2.1 h
    · intro h
      rw [e_99_2] at h
      refine K_of b_99_75 h_99_75 ?_
      refine q_iload rfl ?_
      refine q_iload rfl ?_
      refine q_icmp_ge (fun c_79 => ?_) (fun c_79 => ?_)
      · rw [if_pos c_79] at h
        exact (ih dp d hdp _ _ i2 i4 i5 i6 i7 i8 i9 a3 _ _).2.2.2.1 h
      · rw [if_neg c_79] at h
        refine q_aload rfl ?_
        refine q_getRs (c0 := 6) (j := 0) rfl rfl (zl hS 26 (by decide)) (sk hS 26 (by decide) rfl) rfl (by decide) (r_26_0 hS) ?_
        refine q_iload rfl ?_
        obtain ⟨⟨u_88, v_88⟩, h⟩ := ite_some h
        refine q_ialN (Int32.toNatClampNeg i8) (nx u_88) (zl hS 27 (by decide)) (sk hS 27 (by decide) rfl) v_88 (by decide) ?_
        refine q_iload rfl ?_
        refine q_icmp_eq (fun c_91 => ?_) (fun c_91 => ?_)
        · rw [if_pos c_91] at h
          exact (ih dp d hdp _ _ i2 i4 i5 i6 i7 i8 i9 a3 _ _).2.2.2.1 h
        · rw [if_neg c_91] at h
          refine q_iinc (ls1 := [some (.ref 26), some (.ref 1), some (.int i2), some (.ref a3), some (.int i4), some (.int i5), some (.int i6), some (.int i7), some (.int (i8 + Int32.ofInt (1))), some (.int i9)]) rfl rfl ?_
          refine q_goto ?_
          exact (ih dp d hdp _ _ i2 i4 i5 i6 i7 (i8 + Int32.ofInt (1)) i9 a3 _ _).2.2.1 h
    · intro h
      rw [e_99_3] at h
      refine K_of b_99_100 h_99_100 ?_
      refine q_aload rfl ?_
      refine q_getRs (c0 := 6) (j := 4) rfl rfl (zl hS 26 (by decide)) (sk hS 26 (by decide) rfl) rfl (by decide) (r_26_4 hS) ?_
      refine q_iload rfl ?_
      refine q_iload rfl ?_
      refine q_iadd ?_
      refine q_iload rfl ?_
      obtain ⟨⟨u_111, v_111⟩, h⟩ := ite_some h
      refine q_iasN (Int32.toNatClampNeg (i4 + i5)) (nx u_111) (zl hS 31 (by decide)) (sk hS 31 (by decide) rfl) v_111 (by decide) ?_
      obtain ⟨I_111, nI_111, h⟩ := stI_some h
      refine q_nI nI_111 ?_
      refine q_iload rfl ?_
      refine q_iload rfl ?_
      refine q_icmp_ne (fun c_116 => ?_) (fun c_116 => ?_)
      · rw [if_neg c_116] at h
        exact (ih dp d hdp _ _ i2 i4 i5 i6 i7 i8 i9 a3 _ _).2.2.2.2.1 h
      · rw [if_pos c_116] at h
        refine q_aload rfl ?_
        refine q_getRs (c0 := 6) (j := 5) rfl rfl (zl hS 26 (by decide)) (sk hS 26 (by decide) rfl) rfl (by decide) (r_26_5 hS) ?_
        refine q_iload rfl ?_
        refine q_dup2 rfl rfl ?_
        obtain ⟨⟨u_125, v_125⟩, h⟩ := ite_some h
        refine q_ialN (Int32.toNatClampNeg i2) (nx u_125) (zl hS 32 (by decide)) (sk hS 32 (by decide) rfl) v_125 (by decide) ?_
        refine q_iconst (1) (by decide) ?_
        refine q_iadd ?_
        obtain ⟨⟨u_128, v_128⟩, h⟩ := ite_some h
        refine q_iasN (Int32.toNatClampNeg i2) (nx u_128) (zl hS 32 (by decide)) (sk hS 32 (by decide) rfl) v_128 (by decide) ?_
        obtain ⟨I_128, nI_128, h⟩ := stI_some h
        refine q_nI nI_128 ?_
        refine q_aload rfl ?_
        refine q_getRs (c0 := 6) (j := 0) rfl rfl (zl hS 26 (by decide)) (sk hS 26 (by decide) rfl) rfl (by decide) (r_26_0 hS) ?_
        refine q_iload rfl ?_
        refine q_iload rfl ?_
        obtain ⟨⟨u_137, v_137⟩, h⟩ := ite_some h
        refine q_iasN (Int32.toNatClampNeg i8) (nx u_137) (zl hS 27 (by decide)) (sk hS 27 (by decide) rfl) v_137 (by decide) ?_
        obtain ⟨I_137, nI_137, h⟩ := stI_some h
        refine q_nI nI_137 ?_
        refine q_end ?_
        exact (ih dp d hdp _ _ i2 i4 i5 i6 i7 i8 i9 a3 _ _).2.2.2.2.1 h
    · intro h
      rw [e_99_4] at h
      refine K_of b_99_138 h_99_138 ?_
      refine q_iload rfl ?_
      refine q_iload rfl ?_
      refine q_icmp_eq (fun c_142 => ?_) (fun c_142 => ?_)
      · rw [if_pos c_142] at h
        exact (ih dp d hdp _ _ i2 i4 i5 i6 i7 i8 i9 a3 _ _).2.2.2.2.2.1 h
      · rw [if_neg c_142] at h
        refine q_iload rfl ?_
        refine q_aload rfl ?_
        refine q_getRs (c0 := 6) (j := 1) rfl rfl (zl hS 26 (by decide)) (sk hS 26 (by decide) rfl) rfl (by decide) (r_26_1 hS) ?_
        refine q_iload rfl ?_
        obtain ⟨⟨u_153, v_153⟩, h⟩ := ite_some h
        refine q_ialN (Int32.toNatClampNeg i8) (nx u_153) (zl hS 28 (by decide)) (sk hS 28 (by decide) rfl) v_153 (by decide) ?_
        refine q_icmp_le (fun c_154 => ?_) (fun c_154 => ?_)
        · rw [if_pos c_154] at h
          refine K_of b_99_186 h_99_186 ?_
          refine q_iload rfl ?_
          refine q_aload rfl ?_
          refine q_getRs (c0 := 6) (j := 1) rfl rfl (zl hS 26 (by decide)) (sk hS 26 (by decide) rfl) rfl (by decide) (r_26_1 hS) ?_
          refine q_iload rfl ?_
          obtain ⟨⟨u_194, v_194⟩, h⟩ := ite_some h
          refine q_ialN (Int32.toNatClampNeg i8) (nx u_194) (zl hS 28 (by decide)) (sk hS 28 (by decide) rfl) v_194 (by decide) ?_
          refine q_icmp_ne (fun c_195 => ?_) (fun c_195 => ?_)
          · rw [if_neg c_195] at h
            exact (ih dp d hdp _ _ i2 i4 i5 i6 i7 i8 i9 a3 _ _).2.2.2.2.2.2 h
          · rw [if_pos c_195] at h
            refine q_aload rfl ?_
            refine q_getRs (c0 := 6) (j := 2) rfl rfl (zl hS 26 (by decide)) (sk hS 26 (by decide) rfl) rfl (by decide) (r_26_2 hS) ?_
            refine q_iload rfl ?_
            refine q_dup2 rfl rfl ?_
            obtain ⟨⟨u_205, v_205⟩, h⟩ := ite_some h
            refine q_ialN (Int32.toNatClampNeg i8) (nx u_205) (zl hS 29 (by decide)) (sk hS 29 (by decide) rfl) v_205 (by decide) ?_
            refine q_iconst (1) (by decide) ?_
            refine q_iadd ?_
            obtain ⟨⟨u_208, v_208⟩, h⟩ := ite_some h
            refine q_iasN (Int32.toNatClampNeg i8) (nx u_208) (zl hS 29 (by decide)) (sk hS 29 (by decide) rfl) v_208 (by decide) ?_
            obtain ⟨I_208, nI_208, h⟩ := stI_some h
            refine q_nI nI_208 ?_
            refine q_end ?_
            exact (ih dp d hdp _ _ i2 i4 i5 i6 i7 i8 i9 a3 _ _).2.2.2.2.2.2 h
        · rw [if_neg c_154] at h
          refine q_end ?_
          exact (ih dp d hdp _ _ i2 i4 i5 i6 i7 i8 i9 a3 _ _).2.2.2.2.2.1 h
    · intro h
      rw [e_99_5] at h
      refine K_of b_99_157 h_99_157 ?_
      refine q_aload rfl ?_
      refine q_getRs (c0 := 6) (j := 1) rfl rfl (zl hS 26 (by decide)) (sk hS 26 (by decide) rfl) rfl (by decide) (r_26_1 hS) ?_
      refine q_iload rfl ?_
      refine q_iload rfl ?_
      obtain ⟨⟨u_165, v_165⟩, h⟩ := ite_some h
      refine q_iasN (Int32.toNatClampNeg i8) (nx u_165) (zl hS 28 (by decide)) (sk hS 28 (by decide) rfl) v_165 (by decide) ?_
      obtain ⟨I_165, nI_165, h⟩ := stI_some h
      refine q_nI nI_165 ?_
      refine q_aload rfl ?_
      refine q_getRs (c0 := 6) (j := 2) rfl rfl (zl hS 26 (by decide)) (sk hS 26 (by decide) rfl) rfl (by decide) (r_26_2 hS) ?_
      refine q_iload rfl ?_
      refine q_iconst (1) (by decide) ?_
      obtain ⟨⟨u_173, v_173⟩, h⟩ := ite_some h
      refine q_iasN (Int32.toNatClampNeg i8) (nx u_173) (zl hS 29 (by decide)) (sk hS 29 (by decide) rfl) v_173 (by decide) ?_
      obtain ⟨I_173, nI_173, h⟩ := stI_some h
      refine q_nI nI_173 ?_
      refine q_aload rfl ?_
      refine q_getRs (c0 := 6) (j := 3) rfl rfl (zl hS 26 (by decide)) (sk hS 26 (by decide) rfl) rfl (by decide) (r_26_3 hS) ?_
      refine q_iload rfl ?_
      refine q_iload rfl ?_
      obtain ⟨⟨u_182, v_182⟩, h⟩ := ite_some h
      refine q_iasN (Int32.toNatClampNeg i8) (nx u_182) (zl hS 30 (by decide)) (sk hS 30 (by decide) rfl) v_182 (by decide) ?_
      obtain ⟨I_182, nI_182, h⟩ := stI_some h
      refine q_nI nI_182 ?_
      refine q_goto ?_
      exact (ih dp d hdp _ _ i2 i4 i5 i6 i7 i8 i9 a3 _ _).2.2.2.2.2.2 h
    · intro h
      rw [e_99_6] at h
      refine K_of b_99_209 h_99_209 ?_
      refine q_iinc (ls1 := [some (.ref 26), some (.ref 1), some (.int i2), some (.ref a3), some (.int i4), some (.int (i5 + Int32.ofInt (1))), some (.int i6), some (.int i7), some (.int i8), some (.int i9)]) rfl rfl ?_
      refine q_goto ?_
      refine K_mask [true, true, true, true, true, true, false, false, false, false] (Nat.le_of_ble_eq_true rfl) ?_
      exact (ih dp d hdp _ _ i2 i4 (i5 + Int32.ofInt (1)) 0 0 0 0 a3 _ _).2.1 h
theorem a_99 (X : GX) {z : Nat} {kd : Nat → Nat × Nat} {Rf : Nat → Nat → Option Nat} (hS : Sh z kd Rf) {n dp d : Nat} (hd : dp ≤ d) {I : (Nat → Nat → Int32)} {L : (Nat → Nat → Int64)} {i2 : Int32} {a3 : Nat} {I1 : (Nat → Nat → Int32)} {L1 : (Nat → Nat → Int64)} (h : g_99 n dp (z, kd, Rf) 0 I L i2 0 0 0 0 0 0 a3 = some (I1, L1)) : Ct X d 99 0 0 [.ref 26, .ref 1, .int i2, .ref a3] (z, kd, I, L, Rf) (AV (fun τ => τ = (z, kd, I1, L1, Rf))) :=
  Ct_of mu_99 (Nat.le_of_ble_eq_true rfl) ((w_99 X hS n dp d hd I L i2 0 0 0 0 0 0 a3 _ _).1 h)

/-! 96 CutFloor$Offers.load(LCutFloor$Hall;[LCutFloor$Cuttings;)V -/
set_option maxHeartbeats 4000000 in
set_option maxRecDepth 100000 in
def g_96 : Nat → Nat → EN → Nat → (Nat → Nat → Int32) → (Nat → Nat → Int64) → Int32 →  Option ((Nat → Nat → Int32) × (Nat → Nat → Int64))
  | 0, _, _, _, _, _, _ => none
  | n + 1, dp, e, lab, I, L, i3 =>
    if lab = 0 then (if 1 ≤ dp then (g_97 n (dp - 1) e 0 I L 0 0 0).bind (fun ⟨I0_2, L0_2⟩ => (if 1 ≤ dp then (g_98 n (dp - 1) e 0 I0_2 L0_2 (0 : Int32) (1 : Int32) 0 0 0 0 0 0 0 38 41).bind (fun ⟨I1_16, L1_16⟩ => (if 1 ≤ dp then (g_98 n (dp - 1) e 0 I1_16 L1_16 (2 : Int32) (3 : Int32) 0 0 0 0 0 0 0 39 42).bind (fun ⟨I2_30, L2_30⟩ => (if 1 ≤ dp then (g_98 n (dp - 1) e 0 I2_30 L2_30 (4 : Int32) (-1 : Int32) 0 0 0 0 0 0 0 40 43).bind (fun ⟨I3_44, L3_44⟩ => (g_96 n dp e 1 I3_44 L3_44 (0 : Int32))) else none)) else none)) else none)) else none)
    else if lab = 1 then (if (3 : Int32) ≤ i3 then (some (I, L)) else (if 0 ≤ i3 ∧ (Int32.toNatClampNeg i3) < 3 then (stI (u2 I 32 (Int32.toNatClampNeg i3) (0 : Int32)) (fun I_60 => (if 0 ≤ i3 ∧ (Int32.toNatClampNeg i3) < 3 then (stI (u2 I_60 33 (Int32.toNatClampNeg i3) (0 : Int32)) (fun I_67 => (if 0 ≤ i3 ∧ (Int32.toNatClampNeg i3) < 3 then (e.2.2 25 (Int32.toNatClampNeg i3)).bind (fun b_70 => (if b_70 < e.1 ∧ (e.2.1 b_70).1 = 2 then (if (64 : Int32) < (I_67 b_70 4) then (g_96 n dp e 2 I_67 L i3) else (if 0 ≤ i3 ∧ (Int32.toNatClampNeg i3) < 3 then (e.2.2 25 (Int32.toNatClampNeg i3)).bind (fun b_84 => (if 1 ≤ dp then (g_99 n (dp - 1) e 0 I_67 L i3 0 0 0 0 0 0 b_84).bind (fun ⟨I0_85, L0_85⟩ => (g_96 n dp e 2 I0_85 L0_85 i3)) else none)) else none)) else none)) else none))) else none))) else none))
    else if lab = 2 then (g_96 n dp e 1 I L (i3 + Int32.ofInt (1)))
    else none
set_option maxRecDepth 100000 in
theorem e_96_0 (n dp : Nat) (e : EN) (I : (Nat → Nat → Int32)) (L : (Nat → Nat → Int64)) (i3 : Int32) : g_96 (n + 1) dp e 0 I L i3 = (if 1 ≤ dp then (g_97 n (dp - 1) e 0 I L 0 0 0).bind (fun ⟨I0_2, L0_2⟩ => (if 1 ≤ dp then (g_98 n (dp - 1) e 0 I0_2 L0_2 (0 : Int32) (1 : Int32) 0 0 0 0 0 0 0 38 41).bind (fun ⟨I1_16, L1_16⟩ => (if 1 ≤ dp then (g_98 n (dp - 1) e 0 I1_16 L1_16 (2 : Int32) (3 : Int32) 0 0 0 0 0 0 0 39 42).bind (fun ⟨I2_30, L2_30⟩ => (if 1 ≤ dp then (g_98 n (dp - 1) e 0 I2_30 L2_30 (4 : Int32) (-1 : Int32) 0 0 0 0 0 0 0 40 43).bind (fun ⟨I3_44, L3_44⟩ => (g_96 n dp e 1 I3_44 L3_44 (0 : Int32))) else none)) else none)) else none)) else none) := by rw [g_96.eq_2, if_pos (show (0 : Nat) = 0 from rfl)]
set_option maxRecDepth 100000 in
theorem e_96_1 (n dp : Nat) (e : EN) (I : (Nat → Nat → Int32)) (L : (Nat → Nat → Int64)) (i3 : Int32) : g_96 (n + 1) dp e 1 I L i3 = (if (3 : Int32) ≤ i3 then (some (I, L)) else (if 0 ≤ i3 ∧ (Int32.toNatClampNeg i3) < 3 then (stI (u2 I 32 (Int32.toNatClampNeg i3) (0 : Int32)) (fun I_60 => (if 0 ≤ i3 ∧ (Int32.toNatClampNeg i3) < 3 then (stI (u2 I_60 33 (Int32.toNatClampNeg i3) (0 : Int32)) (fun I_67 => (if 0 ≤ i3 ∧ (Int32.toNatClampNeg i3) < 3 then (e.2.2 25 (Int32.toNatClampNeg i3)).bind (fun b_70 => (if b_70 < e.1 ∧ (e.2.1 b_70).1 = 2 then (if (64 : Int32) < (I_67 b_70 4) then (g_96 n dp e 2 I_67 L i3) else (if 0 ≤ i3 ∧ (Int32.toNatClampNeg i3) < 3 then (e.2.2 25 (Int32.toNatClampNeg i3)).bind (fun b_84 => (if 1 ≤ dp then (g_99 n (dp - 1) e 0 I_67 L i3 0 0 0 0 0 0 b_84).bind (fun ⟨I0_85, L0_85⟩ => (g_96 n dp e 2 I0_85 L0_85 i3)) else none)) else none)) else none)) else none))) else none))) else none)) := by rw [g_96.eq_2, if_neg (show ¬ ((1 : Nat) = 0) by decide), if_pos (show (1 : Nat) = 1 from rfl)]
set_option maxRecDepth 100000 in
theorem e_96_2 (n dp : Nat) (e : EN) (I : (Nat → Nat → Int32)) (L : (Nat → Nat → Int64)) (i3 : Int32) : g_96 (n + 1) dp e 2 I L i3 = (g_96 n dp e 1 I L (i3 + Int32.ofInt (1))) := by rw [g_96.eq_2, if_neg (show ¬ ((2 : Nat) = 0) by decide), if_neg (show ¬ ((2 : Nat) = 1) by decide), if_pos (show (2 : Nat) = 2 from rfl)]
set_option maxHeartbeats 8000000 in
set_option maxRecDepth 100000 in
theorem w_96 (X : GX) {z : Nat} {kd : Nat → Nat × Nat} {Rf : Nat → Nat → Option Nat} (hS : Sh z kd Rf) : ∀ (n dp d : Nat), dp ≤ d → ∀ (I : (Nat → Nat → Int32)) (L : (Nat → Nat → Int64)) (i3 : Int32) (I1 : (Nat → Nat → Int32)) (L1 : (Nat → Nat → Int64)), (g_96 n dp (z, kd, Rf) 0 I L i3 = some (I1, L1) → K X d 96 0 0 (AV (fun τ => τ = (z, kd, I1, L1, Rf))) 0 [some (.ref 26), some (.ref 1), some (.ref 25), none] [] (z, kd, I, L, Rf) 0 0) ∧
    (g_96 n dp (z, kd, Rf) 1 I L i3 = some (I1, L1) → K X d 96 0 0 (AV (fun τ => τ = (z, kd, I1, L1, Rf))) 49 [some (.ref 26), some (.ref 1), some (.ref 25), some (.int i3)] [] (z, kd, I, L, Rf) 0 0) ∧
    (g_96 n dp (z, kd, Rf) 2 I L i3 = some (I1, L1) → K X d 96 0 0 (AV (fun τ => τ = (z, kd, I1, L1, Rf))) 88 [some (.ref 26), some (.ref 1), some (.ref 25), some (.int i3)] [] (z, kd, I, L, Rf) 0 0) := by
  intro n
  induction n with
  | zero => intro dp d hdp I L i3 I1 L1; exact ⟨(fun h => by cases h), (fun h => by cases h), (fun h => by cases h)⟩
  | succ n ih =>
    intro dp d hdp I L i3 I1 L1
    refine ⟨?_, ?_, ?_⟩
    · intro h
      rw [e_96_0] at h
      refine K_of b_96_0 h_96_0 ?_
      refine q_aload rfl ?_
      refine q_aload rfl ?_
      obtain ⟨d_2, h⟩ := ite_some h
      obtain ⟨⟨I0_2, L0_2⟩, e_2, h⟩ := Option.bind_eq_some_iff.mp h
      dsimp only at h
      refine q_fv2V (a_97 X hS (d := d - 1) (by omega) e_2) (by omega) (Nat.le_refl _) (Nat.le_refl _) rfl (Nat.le_of_ble_eq_true rfl) ⟨(zl hS 26 (by decide)), congrArg Prod.fst (sk hS 26 (by decide) rfl), by decide⟩ ?_
      refine q_aload rfl ?_
      refine q_iconst (0) (by decide) ?_
      refine q_iconst (1) (by decide) ?_
      refine q_aload rfl ?_
      refine q_getRs (c0 := 6) (j := 11) rfl rfl (zl hS 26 (by decide)) (sk hS 26 (by decide) rfl) rfl (by decide) (r_26_11 hS) ?_
      refine q_aload rfl ?_
      refine q_getRs (c0 := 6) (j := 14) rfl rfl (zl hS 26 (by decide)) (sk hS 26 (by decide) rfl) rfl (by decide) (r_26_14 hS) ?_
      obtain ⟨d_16, h⟩ := ite_some h
      obtain ⟨⟨I1_16, L1_16⟩, e_16, h⟩ := Option.bind_eq_some_iff.mp h
      dsimp only at h
      refine q_fv5V (a_98 X hS (d := d - 1) (by omega) e_16) (by omega) (Nat.le_refl _) (Nat.le_refl _) rfl (Nat.le_of_ble_eq_true rfl) ⟨(zl hS 26 (by decide)), congrArg Prod.fst (sk hS 26 (by decide) rfl), by decide⟩ ?_
      refine q_aload rfl ?_
      refine q_iconst (2) (by decide) ?_
      refine q_iconst (3) (by decide) ?_
      refine q_aload rfl ?_
      refine q_getRs (c0 := 6) (j := 12) rfl rfl (zl hS 26 (by decide)) (sk hS 26 (by decide) rfl) rfl (by decide) (r_26_12 hS) ?_
      refine q_aload rfl ?_
      refine q_getRs (c0 := 6) (j := 15) rfl rfl (zl hS 26 (by decide)) (sk hS 26 (by decide) rfl) rfl (by decide) (r_26_15 hS) ?_
      obtain ⟨d_30, h⟩ := ite_some h
      obtain ⟨⟨I2_30, L2_30⟩, e_30, h⟩ := Option.bind_eq_some_iff.mp h
      dsimp only at h
      refine q_fv5V (a_98 X hS (d := d - 1) (by omega) e_30) (by omega) (Nat.le_refl _) (Nat.le_refl _) rfl (Nat.le_of_ble_eq_true rfl) ⟨(zl hS 26 (by decide)), congrArg Prod.fst (sk hS 26 (by decide) rfl), by decide⟩ ?_
      refine q_aload rfl ?_
      refine q_iconst (4) (by decide) ?_
      refine q_iconst (-1) (by decide) ?_
      refine q_aload rfl ?_
      refine q_getRs (c0 := 6) (j := 13) rfl rfl (zl hS 26 (by decide)) (sk hS 26 (by decide) rfl) rfl (by decide) (r_26_13 hS) ?_
      refine q_aload rfl ?_
      refine q_getRs (c0 := 6) (j := 16) rfl rfl (zl hS 26 (by decide)) (sk hS 26 (by decide) rfl) rfl (by decide) (r_26_16 hS) ?_
      obtain ⟨d_44, h⟩ := ite_some h
      obtain ⟨⟨I3_44, L3_44⟩, e_44, h⟩ := Option.bind_eq_some_iff.mp h
      dsimp only at h
      refine q_fv5V (a_98 X hS (d := d - 1) (by omega) e_44) (by omega) (Nat.le_refl _) (Nat.le_refl _) rfl (Nat.le_of_ble_eq_true rfl) ⟨(zl hS 26 (by decide)), congrArg Prod.fst (sk hS 26 (by decide) rfl), by decide⟩ ?_
      refine q_iconst (0) (by decide) ?_
      refine q_istore (ls1 := [some (.ref 26), some (.ref 1), some (.ref 25), some (.int (0 : Int32))]) (Nat.le_of_ble_eq_true rfl) rfl ?_
      refine q_end ?_
      exact (ih dp d hdp _ _ (0 : Int32) _ _).2.1 h
    · intro h
      rw [e_96_1] at h
      refine K_of b_96_49 h_96_49 ?_
      refine q_iload rfl ?_
      refine q_iconst (3) (by decide) ?_
      refine q_icmp_ge (fun c_51 => ?_) (fun c_51 => ?_)
      · rw [if_pos c_51] at h
        refine K_of b_96_94 h_96_94 ?_
        cases h
        exact q_vret rfl (Nat.le_refl _) (Nat.le_refl _) rfl
      · rw [if_neg c_51] at h
        refine q_aload rfl ?_
        refine q_getRs (c0 := 6) (j := 5) rfl rfl (zl hS 26 (by decide)) (sk hS 26 (by decide) rfl) rfl (by decide) (r_26_5 hS) ?_
        refine q_iload rfl ?_
        refine q_iconst (0) (by decide) ?_
        obtain ⟨⟨u_60, v_60⟩, h⟩ := ite_some h
        refine q_iasN (Int32.toNatClampNeg i3) (nx u_60) (zl hS 32 (by decide)) (sk hS 32 (by decide) rfl) v_60 (by decide) ?_
        obtain ⟨I_60, nI_60, h⟩ := stI_some h
        refine q_nI nI_60 ?_
        refine q_aload rfl ?_
        refine q_getRs (c0 := 6) (j := 6) rfl rfl (zl hS 26 (by decide)) (sk hS 26 (by decide) rfl) rfl (by decide) (r_26_6 hS) ?_
        refine q_iload rfl ?_
        refine q_iconst (0) (by decide) ?_
        obtain ⟨⟨u_67, v_67⟩, h⟩ := ite_some h
        refine q_iasN (Int32.toNatClampNeg i3) (nx u_67) (zl hS 33 (by decide)) (sk hS 33 (by decide) rfl) v_67 (by decide) ?_
        obtain ⟨I_67, nI_67, h⟩ := stI_some h
        refine q_nI nI_67 ?_
        refine q_aload rfl ?_
        refine q_iload rfl ?_
        obtain ⟨⟨u_70, v_70⟩, h⟩ := ite_some h
        obtain ⟨b_70, r_70, h⟩ := Option.bind_eq_some_iff.mp h
        refine q_aald (zl hS 25 (by decide)) (sk hS 25 (by decide) rfl) (by decide) (in_of u_70 v_70) r_70 ?_
        obtain ⟨⟨z_71, k_71⟩, h⟩ := ite_some h
        refine q_getI (c0 := 2) (j := 4) rfl rfl z_71 (fst_eq k_71) (Or.inl rfl) (by decide) ?_
        refine q_iconst (64) (by decide) ?_
        refine q_icmp_gt (fun c_76 => ?_) (fun c_76 => ?_)
        · rw [if_pos c_76] at h
          exact (ih dp d hdp _ _ i3 _ _).2.2 h
        · rw [if_neg c_76] at h
          refine q_aload rfl ?_
          refine q_aload rfl ?_
          refine q_iload rfl ?_
          refine q_aload rfl ?_
          refine q_iload rfl ?_
          obtain ⟨⟨u_84, v_84⟩, h⟩ := ite_some h
          obtain ⟨b_84, r_84, h⟩ := Option.bind_eq_some_iff.mp h
          refine q_aald (zl hS 25 (by decide)) (sk hS 25 (by decide) rfl) (by decide) (in_of u_84 v_84) r_84 ?_
          obtain ⟨d_85, h⟩ := ite_some h
          obtain ⟨⟨I0_85, L0_85⟩, e_85, h⟩ := Option.bind_eq_some_iff.mp h
          dsimp only at h
          refine q_fv4V (a_99 X hS (d := d - 1) (by omega) e_85) (by omega) (Nat.le_refl _) (Nat.le_refl _) rfl (Nat.le_of_ble_eq_true rfl) ⟨(zl hS 26 (by decide)), congrArg Prod.fst (sk hS 26 (by decide) rfl), by decide⟩ ?_
          refine q_end ?_
          exact (ih dp d hdp _ _ i3 _ _).2.2 h
    · intro h
      rw [e_96_2] at h
      refine K_of b_96_88 h_96_88 ?_
      refine q_iinc (ls1 := [some (.ref 26), some (.ref 1), some (.ref 25), some (.int (i3 + Int32.ofInt (1)))]) rfl rfl ?_
      refine q_goto ?_
      exact (ih dp d hdp _ _ (i3 + Int32.ofInt (1)) _ _).2.1 h
theorem a_96 (X : GX) {z : Nat} {kd : Nat → Nat × Nat} {Rf : Nat → Nat → Option Nat} (hS : Sh z kd Rf) {n dp d : Nat} (hd : dp ≤ d) {I : (Nat → Nat → Int32)} {L : (Nat → Nat → Int64)} {I1 : (Nat → Nat → Int32)} {L1 : (Nat → Nat → Int64)} (h : g_96 n dp (z, kd, Rf) 0 I L 0 = some (I1, L1)) : Ct X d 96 0 0 [.ref 26, .ref 1, .ref 25] (z, kd, I, L, Rf) (AV (fun τ => τ = (z, kd, I1, L1, Rf))) :=
  Ct_of mu_96 (Nat.le_of_ble_eq_true rfl) ((w_96 X hS n dp d hd I L 0 _ _).1 h)

/-! 105 CutFloor$Planner.layOut(III)I -/
set_option maxHeartbeats 4000000 in
set_option maxRecDepth 100000 in
def g_105 : Nat → Nat → EN → Nat → (Nat → Nat → Int32) → (Nat → Nat → Int64) → Int32 → Int32 → Int32 → Int32 → Int32 →  Option (Int32 × (Nat → Nat → Int32) × (Nat → Nat → Int64))
  | 0, _, _, _, _, _, _, _, _, _, _ => none
  | n + 1, dp, e, lab, I, L, i1, i2, i3, i4, i5 =>
    if lab = 0 then (if 1 ≤ dp then (stI (if (8 : Int32) < ((i1 + i2) + i3) then (8 : Int32) else ((i1 + i2) + i3)) (fun v_10 => (g_105 n dp e 1 I L i1 i2 i3 v_10 (0 : Int32)))) else none)
    else if lab = 1 then (if i4 ≤ i5 then (some (i4, I, L)) else (if i3 ≤ i5 then (if (i3 + i2) ≤ i5 then (if 0 ≤ i5 ∧ (Int32.toNatClampNeg i5) < 8 then (stI (u2 I 54 (Int32.toNatClampNeg i5) (0 : Int32)) (fun I_51 => (g_105 n dp e 1 I_51 L i1 i2 i3 i4 (i5 + Int32.ofInt (1))))) else none) else (if 0 ≤ i5 ∧ (Int32.toNatClampNeg i5) < 8 then (stI (u2 I 54 (Int32.toNatClampNeg i5) (1 : Int32)) (fun I_51 => (g_105 n dp e 1 I_51 L i1 i2 i3 i4 (i5 + Int32.ofInt (1))))) else none)) else (if 0 ≤ i5 ∧ (Int32.toNatClampNeg i5) < 8 then (stI (u2 I 54 (Int32.toNatClampNeg i5) (2 : Int32)) (fun I_51 => (g_105 n dp e 1 I_51 L i1 i2 i3 i4 (i5 + Int32.ofInt (1))))) else none)))
    else none
set_option maxRecDepth 100000 in
theorem e_105_0 (n dp : Nat) (e : EN) (I : (Nat → Nat → Int32)) (L : (Nat → Nat → Int64)) (i1 : Int32) (i2 : Int32) (i3 : Int32) (i4 : Int32) (i5 : Int32) : g_105 (n + 1) dp e 0 I L i1 i2 i3 i4 i5 = (if 1 ≤ dp then (stI (if (8 : Int32) < ((i1 + i2) + i3) then (8 : Int32) else ((i1 + i2) + i3)) (fun v_10 => (g_105 n dp e 1 I L i1 i2 i3 v_10 (0 : Int32)))) else none) := by rw [g_105.eq_2, if_pos (show (0 : Nat) = 0 from rfl)]
set_option maxRecDepth 100000 in
theorem e_105_1 (n dp : Nat) (e : EN) (I : (Nat → Nat → Int32)) (L : (Nat → Nat → Int64)) (i1 : Int32) (i2 : Int32) (i3 : Int32) (i4 : Int32) (i5 : Int32) : g_105 (n + 1) dp e 1 I L i1 i2 i3 i4 i5 = (if i4 ≤ i5 then (some (i4, I, L)) else (if i3 ≤ i5 then (if (i3 + i2) ≤ i5 then (if 0 ≤ i5 ∧ (Int32.toNatClampNeg i5) < 8 then (stI (u2 I 54 (Int32.toNatClampNeg i5) (0 : Int32)) (fun I_51 => (g_105 n dp e 1 I_51 L i1 i2 i3 i4 (i5 + Int32.ofInt (1))))) else none) else (if 0 ≤ i5 ∧ (Int32.toNatClampNeg i5) < 8 then (stI (u2 I 54 (Int32.toNatClampNeg i5) (1 : Int32)) (fun I_51 => (g_105 n dp e 1 I_51 L i1 i2 i3 i4 (i5 + Int32.ofInt (1))))) else none)) else (if 0 ≤ i5 ∧ (Int32.toNatClampNeg i5) < 8 then (stI (u2 I 54 (Int32.toNatClampNeg i5) (2 : Int32)) (fun I_51 => (g_105 n dp e 1 I_51 L i1 i2 i3 i4 (i5 + Int32.ofInt (1))))) else none))) := by rw [g_105.eq_2, if_neg (show ¬ ((1 : Nat) = 0) by decide), if_pos (show (1 : Nat) = 1 from rfl)]
set_option maxHeartbeats 8000000 in
set_option maxRecDepth 100000 in
theorem w_105 (X : GX) {z : Nat} {kd : Nat → Nat × Nat} {Rf : Nat → Nat → Option Nat} (hS : Sh z kd Rf) : ∀ (n dp d : Nat), dp ≤ d → ∀ (I : (Nat → Nat → Int32)) (L : (Nat → Nat → Int64)) (i1 : Int32) (i2 : Int32) (i3 : Int32) (i4 : Int32) (i5 : Int32) (r : Int32) (I1 : (Nat → Nat → Int32)) (L1 : (Nat → Nat → Int64)), (g_105 n dp (z, kd, Rf) 0 I L i1 i2 i3 i4 i5 = some (r, I1, L1) → K X d 105 0 0 (AI (fun x τ => x = r ∧ τ = (z, kd, I1, L1, Rf))) 0 [some (.ref 24), some (.int i1), some (.int i2), some (.int i3), none, none] [] (z, kd, I, L, Rf) 0 0) ∧
    (g_105 n dp (z, kd, Rf) 1 I L i1 i2 i3 i4 i5 = some (r, I1, L1) → K X d 105 0 0 (AI (fun x τ => x = r ∧ τ = (z, kd, I1, L1, Rf))) 15 [some (.ref 24), some (.int i1), some (.int i2), some (.int i3), some (.int i4), some (.int i5)] [] (z, kd, I, L, Rf) 0 0) := by
  intro n
  induction n with
  | zero => intro dp d hdp I L i1 i2 i3 i4 i5 r I1 L1; exact ⟨(fun h => by cases h), (fun h => by cases h)⟩
  | succ n ih =>
    intro dp d hdp I L i1 i2 i3 i4 i5 r I1 L1
    refine ⟨?_, ?_⟩
    · intro h
      rw [e_105_0] at h
      refine K_of b_105_0 h_105_0 ?_
      refine q_iload rfl ?_
      refine q_iload rfl ?_
      refine q_iadd ?_
      refine q_iload rfl ?_
      refine q_iadd ?_
      refine q_iconst (8) (by decide) ?_
      obtain ⟨d_7, h⟩ := ite_some h
      refine q_min (Nat.le_of_ble_eq_true rfl) (Nat.le_trans d_7 hdp) (Nat.le_refl _) (Nat.le_refl _) ?_
      obtain ⟨v_10, nv_10, h⟩ := stI_some h
      refine q_eqi nv_10.symm ?_
      refine q_istore (ls1 := [some (.ref 24), some (.int i1), some (.int i2), some (.int i3), some (.int v_10), none]) (Nat.le_of_ble_eq_true rfl) rfl ?_
      refine q_iconst (0) (by decide) ?_
      refine q_istore (ls1 := [some (.ref 24), some (.int i1), some (.int i2), some (.int i3), some (.int v_10), some (.int (0 : Int32))]) (Nat.le_of_ble_eq_true rfl) rfl ?_
      refine q_end ?_
      exact (ih dp d hdp _ _ i1 i2 i3 v_10 (0 : Int32) _ _ _).2 h
    · intro h
      rw [e_105_1] at h
      refine K_of b_105_15 h_105_15 ?_
      refine q_iload rfl ?_
      refine q_iload rfl ?_
      refine q_icmp_ge (fun c_19 => ?_) (fun c_19 => ?_)
      · rw [if_pos c_19] at h
        refine K_of b_105_58 h_105_58 ?_
        refine q_iload rfl ?_
        cases h
        exact q_iret rfl (Nat.le_refl _) (Nat.le_refl _) ⟨rfl, rfl⟩
      · rw [if_neg c_19] at h
        refine q_aload rfl ?_
        refine q_getRs (c0 := 7) (j := 8) rfl rfl (zl hS 24 (by decide)) (sk hS 24 (by decide) rfl) rfl (by decide) (r_24_8 hS) ?_
        refine q_iload rfl ?_
        refine q_iload rfl ?_
        refine q_iload rfl ?_
        refine q_icmp_ge (fun c_31 => ?_) (fun c_31 => ?_)
        · rw [if_pos c_31] at h
          refine K_of b_105_38 h_105_38 ?_
          refine q_iload rfl ?_
          refine q_iload rfl ?_
          refine q_iload rfl ?_
          refine q_iadd ?_
          refine q_icmp_ge (fun c_43 => ?_) (fun c_43 => ?_)
          · rw [if_pos c_43] at h
            refine K_of b_105_50 h_105_50 ?_
            refine q_iconst (0) (by decide) ?_
            refine q_end ?_
            refine K_of b_105_51 h_105_51 ?_
            obtain ⟨⟨u_51, v_51⟩, h⟩ := ite_some h
            refine q_iasN (Int32.toNatClampNeg i5) (nx u_51) (zl hS 54 (by decide)) (sk hS 54 (by decide) rfl) v_51 (by decide) ?_
            obtain ⟨I_51, nI_51, h⟩ := stI_some h
            refine q_nI nI_51 ?_
            refine q_iinc (ls1 := [some (.ref 24), some (.int i1), some (.int i2), some (.int i3), some (.int i4), some (.int (i5 + Int32.ofInt (1)))]) rfl rfl ?_
            refine q_goto ?_
            exact (ih dp d hdp _ _ i1 i2 i3 i4 (i5 + Int32.ofInt (1)) _ _ _).2 h
          · rw [if_neg c_43] at h
            refine q_iconst (1) (by decide) ?_
            refine q_goto ?_
            refine K_of b_105_51 h_105_51 ?_
            obtain ⟨⟨u_51, v_51⟩, h⟩ := ite_some h
            refine q_iasN (Int32.toNatClampNeg i5) (nx u_51) (zl hS 54 (by decide)) (sk hS 54 (by decide) rfl) v_51 (by decide) ?_
            obtain ⟨I_51, nI_51, h⟩ := stI_some h
            refine q_nI nI_51 ?_
            refine q_iinc (ls1 := [some (.ref 24), some (.int i1), some (.int i2), some (.int i3), some (.int i4), some (.int (i5 + Int32.ofInt (1)))]) rfl rfl ?_
            refine q_goto ?_
            exact (ih dp d hdp _ _ i1 i2 i3 i4 (i5 + Int32.ofInt (1)) _ _ _).2 h
        · rw [if_neg c_31] at h
          refine q_iconst (2) (by decide) ?_
          refine q_goto ?_
          refine K_of b_105_51 h_105_51 ?_
          obtain ⟨⟨u_51, v_51⟩, h⟩ := ite_some h
          refine q_iasN (Int32.toNatClampNeg i5) (nx u_51) (zl hS 54 (by decide)) (sk hS 54 (by decide) rfl) v_51 (by decide) ?_
          obtain ⟨I_51, nI_51, h⟩ := stI_some h
          refine q_nI nI_51 ?_
          refine q_iinc (ls1 := [some (.ref 24), some (.int i1), some (.int i2), some (.int i3), some (.int i4), some (.int (i5 + Int32.ofInt (1)))]) rfl rfl ?_
          refine q_goto ?_
          exact (ih dp d hdp _ _ i1 i2 i3 i4 (i5 + Int32.ofInt (1)) _ _ _).2 h
theorem a_105 (X : GX) {z : Nat} {kd : Nat → Nat × Nat} {Rf : Nat → Nat → Option Nat} (hS : Sh z kd Rf) {n dp d : Nat} (hd : dp ≤ d) {I : (Nat → Nat → Int32)} {L : (Nat → Nat → Int64)} {i1 : Int32} {i2 : Int32} {i3 : Int32} {I1 : (Nat → Nat → Int32)} {L1 : (Nat → Nat → Int64)} {r : Int32} (h : g_105 n dp (z, kd, Rf) 0 I L i1 i2 i3 0 0 = some (r, I1, L1)) : Ct X d 105 0 0 [.ref 24, .int i1, .int i2, .int i3] (z, kd, I, L, Rf) (AI (fun x τ => x = r ∧ τ = (z, kd, I1, L1, Rf))) :=
  Ct_of mu_105 (Nat.le_of_ble_eq_true rfl) ((w_105 X hS n dp d hd I L i1 i2 i3 0 0 _ _ _).1 h)

/-! 111 CutFloor$Offers.join(II)I -/
set_option maxHeartbeats 4000000 in
set_option maxRecDepth 100000 in
def g_111 : Nat → Nat → EN → Nat → (Nat → Nat → Int32) → (Nat → Nat → Int64) → Int32 → Int32 →  Option (Int32 × (Nat → Nat → Int32) × (Nat → Nat → Int64))
  | 0, _, _, _, _, _, _, _ => none
  | n + 1, dp, e, lab, I, L, i0, i1 =>
    if lab = 0 then (stI ((i0 + i1) &&& (17318416 : Int32)) (fun v_8 => (some ((((i0 + i1) ||| (v_8 - (Int32.toUInt32 v_8 >>> (Int32.toUInt32 (4 : Int32) &&& Int32.toUInt32 31)).toInt32)) &&& (16236015 : Int32)), I, L))))
    else none
set_option maxRecDepth 100000 in
theorem e_111_0 (n dp : Nat) (e : EN) (I : (Nat → Nat → Int32)) (L : (Nat → Nat → Int64)) (i0 : Int32) (i1 : Int32) : g_111 (n + 1) dp e 0 I L i0 i1 = (stI ((i0 + i1) &&& (17318416 : Int32)) (fun v_8 => (some ((((i0 + i1) ||| (v_8 - (Int32.toUInt32 v_8 >>> (Int32.toUInt32 (4 : Int32) &&& Int32.toUInt32 31)).toInt32)) &&& (16236015 : Int32)), I, L)))) := by rw [g_111.eq_2, if_pos (show (0 : Nat) = 0 from rfl)]
set_option maxHeartbeats 8000000 in
set_option maxRecDepth 100000 in
theorem w_111 (X : GX) {z : Nat} {kd : Nat → Nat × Nat} {Rf : Nat → Nat → Option Nat} (hS : Sh z kd Rf) : ∀ (n dp d : Nat), dp ≤ d → ∀ (I : (Nat → Nat → Int32)) (L : (Nat → Nat → Int64)) (i0 : Int32) (i1 : Int32) (r : Int32) (I1 : (Nat → Nat → Int32)) (L1 : (Nat → Nat → Int64)), (g_111 n dp (z, kd, Rf) 0 I L i0 i1 = some (r, I1, L1) → K X d 111 0 0 (AI (fun x τ => x = r ∧ τ = (z, kd, I1, L1, Rf))) 0 [some (.int i0), some (.int i1), none, none] [] (z, kd, I, L, Rf) 0 0) := by
  intro n
  induction n with
  | zero => intro dp d hdp I L i0 i1 r I1 L1; exact fun h => by cases h
  | succ n ih =>
    intro dp d hdp I L i0 i1 r I1 L1
    · intro h
      rw [e_111_0] at h
      refine K_of b_111_0 h_111_0 ?_
      refine q_iload rfl ?_
      refine q_iload rfl ?_
      refine q_iadd ?_
      refine q_istore (ls1 := [some (.int i0), some (.int i1), some (.int (i0 + i1)), none]) (Nat.le_of_ble_eq_true rfl) rfl ?_
      refine q_iload rfl ?_
      refine q_iconst (17318416) (by decide) ?_
      refine q_iand ?_
      obtain ⟨v_8, nv_8, h⟩ := stI_some h
      refine q_eqi nv_8.symm ?_
      refine q_istore (ls1 := [some (.int i0), some (.int i1), some (.int (i0 + i1)), some (.int v_8)]) (Nat.le_of_ble_eq_true rfl) rfl ?_
      refine q_iload rfl ?_
      refine q_iload rfl ?_
      refine q_iload rfl ?_
      refine q_iconst (4) (by decide) ?_
      refine q_iushr ?_
      refine q_isub ?_
      refine q_ior ?_
      refine q_iconst (16236015) (by decide) ?_
      refine q_iand ?_
      cases h
      exact q_iret rfl (Nat.le_refl _) (Nat.le_refl _) ⟨rfl, rfl⟩
theorem a_111 (X : GX) {z : Nat} {kd : Nat → Nat × Nat} {Rf : Nat → Nat → Option Nat} (hS : Sh z kd Rf) {n dp d : Nat} (hd : dp ≤ d) {I : (Nat → Nat → Int32)} {L : (Nat → Nat → Int64)} {i0 : Int32} {i1 : Int32} {I1 : (Nat → Nat → Int32)} {L1 : (Nat → Nat → Int64)} {r : Int32} (h : g_111 n dp (z, kd, Rf) 0 I L i0 i1 = some (r, I1, L1)) : Ct X d 111 0 0 [.int i0, .int i1] (z, kd, I, L, Rf) (AI (fun x τ => x = r ∧ τ = (z, kd, I1, L1, Rf))) :=
  Ct_of mu_111 (Nat.le_of_ble_eq_true rfl) ((w_111 X hS n dp d hd I L i0 i1 _ _ _) h)

/-! 112 CutFloor$Offers.placeOf(I)I -/
set_option maxHeartbeats 4000000 in
set_option maxRecDepth 100000 in
def g_112 : Nat → Nat → EN → Nat → (Nat → Nat → Int32) → (Nat → Nat → Int64) → Int32 →  Option (Int32 × (Nat → Nat → Int32) × (Nat → Nat → Int64))
  | 0, _, _, _, _, _, _ => none
  | n + 1, dp, e, lab, I, L, i1 =>
    if lab = 0 then (if 0 ≤ (i1 &&& (1023 : Int32)) ∧ (Int32.toNatClampNeg (i1 &&& (1023 : Int32))) < 1024 then (if 0 ≤ ((Int32.toUInt32 i1 >>> (Int32.toUInt32 (10 : Int32) &&& Int32.toUInt32 31)).toInt32 &&& (1023 : Int32)) ∧ (Int32.toNatClampNeg ((Int32.toUInt32 i1 >>> (Int32.toUInt32 (10 : Int32) &&& Int32.toUInt32 31)).toInt32 &&& (1023 : Int32))) < 1024 then (if 0 ≤ ((Int32.toUInt32 i1 >>> (Int32.toUInt32 (20 : Int32) &&& Int32.toUInt32 31)).toInt32 &&& (31 : Int32)) ∧ (Int32.toNatClampNeg ((Int32.toUInt32 i1 >>> (Int32.toUInt32 (20 : Int32) &&& Int32.toUInt32 31)).toInt32 &&& (31 : Int32))) < 32 then (some ((((I 38 (Int32.toNatClampNeg (i1 &&& (1023 : Int32)))) + (I 39 (Int32.toNatClampNeg ((Int32.toUInt32 i1 >>> (Int32.toUInt32 (10 : Int32) &&& Int32.toUInt32 31)).toInt32 &&& (1023 : Int32))))) + (I 40 (Int32.toNatClampNeg ((Int32.toUInt32 i1 >>> (Int32.toUInt32 (20 : Int32) &&& Int32.toUInt32 31)).toInt32 &&& (31 : Int32))))), I, L)) else none) else none) else none)
    else none
set_option maxRecDepth 100000 in
theorem e_112_0 (n dp : Nat) (e : EN) (I : (Nat → Nat → Int32)) (L : (Nat → Nat → Int64)) (i1 : Int32) : g_112 (n + 1) dp e 0 I L i1 = (if 0 ≤ (i1 &&& (1023 : Int32)) ∧ (Int32.toNatClampNeg (i1 &&& (1023 : Int32))) < 1024 then (if 0 ≤ ((Int32.toUInt32 i1 >>> (Int32.toUInt32 (10 : Int32) &&& Int32.toUInt32 31)).toInt32 &&& (1023 : Int32)) ∧ (Int32.toNatClampNeg ((Int32.toUInt32 i1 >>> (Int32.toUInt32 (10 : Int32) &&& Int32.toUInt32 31)).toInt32 &&& (1023 : Int32))) < 1024 then (if 0 ≤ ((Int32.toUInt32 i1 >>> (Int32.toUInt32 (20 : Int32) &&& Int32.toUInt32 31)).toInt32 &&& (31 : Int32)) ∧ (Int32.toNatClampNeg ((Int32.toUInt32 i1 >>> (Int32.toUInt32 (20 : Int32) &&& Int32.toUInt32 31)).toInt32 &&& (31 : Int32))) < 32 then (some ((((I 38 (Int32.toNatClampNeg (i1 &&& (1023 : Int32)))) + (I 39 (Int32.toNatClampNeg ((Int32.toUInt32 i1 >>> (Int32.toUInt32 (10 : Int32) &&& Int32.toUInt32 31)).toInt32 &&& (1023 : Int32))))) + (I 40 (Int32.toNatClampNeg ((Int32.toUInt32 i1 >>> (Int32.toUInt32 (20 : Int32) &&& Int32.toUInt32 31)).toInt32 &&& (31 : Int32))))), I, L)) else none) else none) else none) := by rw [g_112.eq_2, if_pos (show (0 : Nat) = 0 from rfl)]
set_option maxHeartbeats 8000000 in
set_option maxRecDepth 100000 in
theorem w_112 (X : GX) {z : Nat} {kd : Nat → Nat × Nat} {Rf : Nat → Nat → Option Nat} (hS : Sh z kd Rf) : ∀ (n dp d : Nat), dp ≤ d → ∀ (I : (Nat → Nat → Int32)) (L : (Nat → Nat → Int64)) (i1 : Int32) (r : Int32) (I1 : (Nat → Nat → Int32)) (L1 : (Nat → Nat → Int64)), (g_112 n dp (z, kd, Rf) 0 I L i1 = some (r, I1, L1) → K X d 112 0 0 (AI (fun x τ => x = r ∧ τ = (z, kd, I1, L1, Rf))) 0 [some (.ref 26), some (.int i1)] [] (z, kd, I, L, Rf) 0 0) := by
  intro n
  induction n with
  | zero => intro dp d hdp I L i1 r I1 L1; exact fun h => by cases h
  | succ n ih =>
    intro dp d hdp I L i1 r I1 L1
    · intro h
      rw [e_112_0] at h
      refine K_of b_112_0 h_112_0 ?_
      refine q_aload rfl ?_
      refine q_getRs (c0 := 6) (j := 11) rfl rfl (zl hS 26 (by decide)) (sk hS 26 (by decide) rfl) rfl (by decide) (r_26_11 hS) ?_
      refine q_iload rfl ?_
      refine q_iconst (1023) (by decide) ?_
      refine q_iand ?_
      obtain ⟨⟨u_9, v_9⟩, h⟩ := ite_some h
      refine q_ialN (Int32.toNatClampNeg (i1 &&& (1023 : Int32))) (nx u_9) (zl hS 38 (by decide)) (sk hS 38 (by decide) rfl) v_9 (by decide) ?_
      refine q_aload rfl ?_
      refine q_getRs (c0 := 6) (j := 12) rfl rfl (zl hS 26 (by decide)) (sk hS 26 (by decide) rfl) rfl (by decide) (r_26_12 hS) ?_
      refine q_iload rfl ?_
      refine q_iconst (10) (by decide) ?_
      refine q_iushr ?_
      refine q_iconst (1023) (by decide) ?_
      refine q_iand ?_
      obtain ⟨⟨u_22, v_22⟩, h⟩ := ite_some h
      refine q_ialN (Int32.toNatClampNeg ((Int32.toUInt32 i1 >>> (Int32.toUInt32 (10 : Int32) &&& Int32.toUInt32 31)).toInt32 &&& (1023 : Int32))) (nx u_22) (zl hS 39 (by decide)) (sk hS 39 (by decide) rfl) v_22 (by decide) ?_
      refine q_iadd ?_
      refine q_aload rfl ?_
      refine q_getRs (c0 := 6) (j := 13) rfl rfl (zl hS 26 (by decide)) (sk hS 26 (by decide) rfl) rfl (by decide) (r_26_13 hS) ?_
      refine q_iload rfl ?_
      refine q_iconst (20) (by decide) ?_
      refine q_iushr ?_
      refine q_iconst (31) (by decide) ?_
      refine q_iand ?_
      obtain ⟨⟨u_35, v_35⟩, h⟩ := ite_some h
      refine q_ialN (Int32.toNatClampNeg ((Int32.toUInt32 i1 >>> (Int32.toUInt32 (20 : Int32) &&& Int32.toUInt32 31)).toInt32 &&& (31 : Int32))) (nx u_35) (zl hS 40 (by decide)) (sk hS 40 (by decide) rfl) v_35 (by decide) ?_
      refine q_iadd ?_
      cases h
      exact q_iret rfl (Nat.le_refl _) (Nat.le_refl _) ⟨rfl, rfl⟩
theorem a_112 (X : GX) {z : Nat} {kd : Nat → Nat × Nat} {Rf : Nat → Nat → Option Nat} (hS : Sh z kd Rf) {n dp d : Nat} (hd : dp ≤ d) {I : (Nat → Nat → Int32)} {L : (Nat → Nat → Int64)} {i1 : Int32} {I1 : (Nat → Nat → Int32)} {L1 : (Nat → Nat → Int64)} {r : Int32} (h : g_112 n dp (z, kd, Rf) 0 I L i1 = some (r, I1, L1)) : Ct X d 112 0 0 [.ref 26, .int i1] (z, kd, I, L, Rf) (AI (fun x τ => x = r ∧ τ = (z, kd, I1, L1, Rf))) :=
  Ct_of mu_112 (Nat.le_of_ble_eq_true rfl) ((w_112 X hS n dp d hd I L i1 _ _ _) h)

/-! 113 CutFloor$Layers.together(III)I -/
set_option maxHeartbeats 4000000 in
set_option maxRecDepth 100000 in
def g_113 : Nat → Nat → EN → Nat → (Nat → Nat → Int32) → (Nat → Nat → Int64) → Int32 → Int32 → Int32 →  Option (Int32 × (Nat → Nat → Int32) × (Nat → Nat → Int64))
  | 0, _, _, _, _, _, _, _, _ => none
  | n + 1, dp, e, lab, I, L, i0, i1, i2 =>
    if lab = 0 then (stI ((Int32.toInt64 i0) + ((Int32.toInt64 i1) * (Int32.toInt64 i2))) (fun v_8 => (if 0 ≤ (lg_cmp v_8 (1000000000 : Int64)) then (some ((1000000000 : Int32), I, L)) else (some ((Int64.toInt32 v_8), I, L)))))
    else none
set_option maxRecDepth 100000 in
theorem e_113_0 (n dp : Nat) (e : EN) (I : (Nat → Nat → Int32)) (L : (Nat → Nat → Int64)) (i0 : Int32) (i1 : Int32) (i2 : Int32) : g_113 (n + 1) dp e 0 I L i0 i1 i2 = (stI ((Int32.toInt64 i0) + ((Int32.toInt64 i1) * (Int32.toInt64 i2))) (fun v_8 => (if 0 ≤ (lg_cmp v_8 (1000000000 : Int64)) then (some ((1000000000 : Int32), I, L)) else (some ((Int64.toInt32 v_8), I, L))))) := by rw [g_113.eq_2, if_pos (show (0 : Nat) = 0 from rfl)]
set_option maxHeartbeats 8000000 in
set_option maxRecDepth 100000 in
theorem w_113 (X : GX) {z : Nat} {kd : Nat → Nat × Nat} {Rf : Nat → Nat → Option Nat} (hS : Sh z kd Rf) : ∀ (n dp d : Nat), dp ≤ d → ∀ (I : (Nat → Nat → Int32)) (L : (Nat → Nat → Int64)) (i0 : Int32) (i1 : Int32) (i2 : Int32) (r : Int32) (I1 : (Nat → Nat → Int32)) (L1 : (Nat → Nat → Int64)), (g_113 n dp (z, kd, Rf) 0 I L i0 i1 i2 = some (r, I1, L1) → K X d 113 0 0 (AI (fun x τ => x = r ∧ τ = (z, kd, I1, L1, Rf))) 0 [some (.int i0), some (.int i1), some (.int i2), none, none] [] (z, kd, I, L, Rf) 0 0) := by
  intro n
  induction n with
  | zero => intro dp d hdp I L i0 i1 i2 r I1 L1; exact fun h => by cases h
  | succ n ih =>
    intro dp d hdp I L i0 i1 i2 r I1 L1
    · intro h
      rw [e_113_0] at h
      refine K_of b_113_0 h_113_0 ?_
      refine q_iload rfl ?_
      refine q_i2l ?_
      refine q_iload rfl ?_
      refine q_i2l ?_
      refine q_iload rfl ?_
      refine q_i2l ?_
      refine q_lmul ?_
      refine q_ladd ?_
      obtain ⟨v_8, nv_8, h⟩ := stI_some h
      refine q_eql nv_8.symm ?_
      refine q_lstore (ls1 := [some (.int i0), some (.int i1), some (.int i2), some (.long v_8), none]) (Nat.le_of_ble_eq_true rfl) rfl ?_
      refine q_lload rfl ?_
      refine q_lconst (1000000000) (by decide) ?_
      refine q_lcmp ?_
      refine q_if_ge (fun c_14 => ?_) (fun c_14 => ?_)
      · rw [if_pos c_14] at h
        refine K_of b_113_22 h_113_22 ?_
        refine q_iconst (1000000000) (by decide) ?_
        refine q_end ?_
        refine K_of b_113_24 h_113_24 ?_
        cases h
        exact q_iret rfl (Nat.le_refl _) (Nat.le_refl _) ⟨rfl, rfl⟩
      · rw [if_neg c_14] at h
        refine q_lload rfl ?_
        refine q_l2i ?_
        refine q_goto ?_
        refine K_of b_113_24 h_113_24 ?_
        cases h
        exact q_iret rfl (Nat.le_refl _) (Nat.le_refl _) ⟨rfl, rfl⟩
theorem a_113 (X : GX) {z : Nat} {kd : Nat → Nat × Nat} {Rf : Nat → Nat → Option Nat} (hS : Sh z kd Rf) {n dp d : Nat} (hd : dp ≤ d) {I : (Nat → Nat → Int32)} {L : (Nat → Nat → Int64)} {i0 : Int32} {i1 : Int32} {i2 : Int32} {I1 : (Nat → Nat → Int32)} {L1 : (Nat → Nat → Int64)} {r : Int32} (h : g_113 n dp (z, kd, Rf) 0 I L i0 i1 i2 = some (r, I1, L1)) : Ct X d 113 0 0 [.int i0, .int i1, .int i2] (z, kd, I, L, Rf) (AI (fun x τ => x = r ∧ τ = (z, kd, I1, L1, Rf))) :=
  Ct_of mu_113 (Nat.le_of_ble_eq_true rfl) ((w_113 X hS n dp d hd I L i0 i1 i2 _ _ _) h)

/-! 110 CutFloor$Layers.extend(IIII)I -/
set_option maxHeartbeats 4000000 in
set_option maxRecDepth 100000 in
def g_110 : Nat → Nat → EN → Nat → (Nat → Nat → Int32) → (Nat → Nat → Int64) → Int32 → Int32 → Int32 → Int32 → Int32 → Int32 → Int32 → Int32 → Int32 → Int32 → Int32 → Int32 → Int32 →  Option (Int32 × (Nat → Nat → Int32) × (Nat → Nat → Int64))
  | 0, _, _, _, _, _, _, _, _, _, _, _, _, _, _, _, _, _, _ => none
  | n + 1, dp, e, lab, I, L, i1, i2, i3, i4, i7, i8, i9, i10, i11, i12, i13, i14, i15 =>
    if lab = 0 then ((e.2.2 44 4).bind (fun b_19 => (if (b_19 < e.1 ∧ (e.2.1 b_19).1 = 13 ∧ (e.2.1 b_19).2 < 2 ^ 31) ∧ 0 ≤ i1 ∧ (Int32.toNatClampNeg i1) < (e.2.1 b_19).2 then (stI (I b_19 (Int32.toNatClampNeg i1)) (fun v_24 => ((e.2.2 44 5).bind (fun b_27 => (if (b_27 < e.1 ∧ (e.2.1 b_27).1 = 13 ∧ (e.2.1 b_27).2 < 2 ^ 31) ∧ 0 ≤ i1 ∧ (Int32.toNatClampNeg i1) < (e.2.1 b_27).2 then (stI (I b_27 (Int32.toNatClampNeg i1)) (fun v_32 => (if 0 ≤ i2 ∧ (Int32.toNatClampNeg i2) < 3 then (stI ((i2 * (64 : Int32)) + (I 32 (Int32.toNatClampNeg i2))) (fun v_52 => (g_110 n dp e 1 I L i1 i2 i3 i4 v_24 v_32 i4 v_52 (i2 * (64 : Int32)) 0 0 0 0))) else none))) else none))))) else none)))
    else if lab = 1 then (if i10 ≤ i11 then (some (i9, I, L)) else (if 0 ≤ i11 ∧ (Int32.toNatClampNeg i11) < 192 then (if 1 ≤ dp then (g_111 n (dp - 1) e 0 I L i7 (I 27 (Int32.toNatClampNeg i11))).bind (fun ⟨x0_74, I0_74, L0_74⟩ => (if 0 ≤ i11 ∧ (Int32.toNatClampNeg i11) < 192 then (if i11 = i3 then (stI ((i8 + (I0_74 28 (Int32.toNatClampNeg i11))) + (1 : Int32)) (fun v_99 => (if 1 ≤ dp then (g_112 n (dp - 1) e 0 I0_74 L0_74 x0_74).bind (fun ⟨x1_107, I1_107, L1_107⟩ => ((e.2.2 44 7).bind (fun b_113 => (if (b_113 < e.1 ∧ (e.2.1 b_113).1 = 13 ∧ (e.2.1 b_113).2 < 2 ^ 31) ∧ 0 ≤ x1_107 ∧ (Int32.toNatClampNeg x1_107) < (e.2.1 b_113).2 then (stI ((I1_107 b_113 (Int32.toNatClampNeg x1_107)) - (1 : Int32)) (fun v_121 => (if 0 ≤ v_121 then ((e.2.2 44 5).bind (fun b_195 => (if (b_195 < e.1 ∧ (e.2.1 b_195).1 = 13 ∧ (e.2.1 b_195).2 < 2 ^ 31) ∧ 0 ≤ v_121 ∧ (Int32.toNatClampNeg v_121) < (e.2.1 b_195).2 then (if v_99 ≤ (I1_107 b_195 (Int32.toNatClampNeg v_121)) then ((e.2.2 44 5).bind (fun b_246 => (if (b_246 < e.1 ∧ (e.2.1 b_246).1 = 13 ∧ (e.2.1 b_246).2 < 2 ^ 31) ∧ 0 ≤ v_121 ∧ (Int32.toNatClampNeg v_121) < (e.2.1 b_246).2 then (if v_99 = (I1_107 b_246 (Int32.toNatClampNeg v_121)) then ((e.2.2 44 6).bind (fun b_256 => ((e.2.2 44 6).bind (fun b_262 => (if (b_262 < e.1 ∧ (e.2.1 b_262).1 = 13 ∧ (e.2.1 b_262).2 < 2 ^ 31) ∧ 0 ≤ v_121 ∧ (Int32.toNatClampNeg v_121) < (e.2.1 b_262).2 then ((e.2.2 44 6).bind (fun b_269 => (if (b_269 < e.1 ∧ (e.2.1 b_269).1 = 13 ∧ (e.2.1 b_269).2 < 2 ^ 31) ∧ 0 ≤ i1 ∧ (Int32.toNatClampNeg i1) < (e.2.1 b_269).2 then (if 0 ≤ i11 ∧ (Int32.toNatClampNeg i11) < 192 then (if 1 ≤ dp then (g_113 n (dp - 1) e 0 I1_107 L1_107 (I1_107 b_262 (Int32.toNatClampNeg v_121)) (I1_107 b_269 (Int32.toNatClampNeg i1)) (I1_107 29 (Int32.toNatClampNeg i11))).bind (fun ⟨x2_284, I2_284, L2_284⟩ => (if (b_256 < e.1 ∧ (e.2.1 b_256).1 = 13 ∧ (e.2.1 b_256).2 < 2 ^ 31) ∧ 0 ≤ v_121 ∧ (Int32.toNatClampNeg v_121) < (e.2.1 b_256).2 then (stI (u2 I2_284 b_256 (Int32.toNatClampNeg v_121) x2_284) (fun I_287 => (g_110 n dp e 2 I_287 L2_284 i1 i2 i3 i4 i7 i8 i9 i10 i11 x0_74 v_99 x1_107 v_121))) else none)) else none) else none) else none))) else none))))) else (g_110 n dp e 2 I1_107 L1_107 i1 i2 i3 i4 i7 i8 i9 i10 i11 x0_74 v_99 x1_107 v_121)) else none))) else ((e.2.2 44 5).bind (fun b_205 => (if (b_205 < e.1 ∧ (e.2.1 b_205).1 = 13 ∧ (e.2.1 b_205).2 < 2 ^ 31) ∧ 0 ≤ v_121 ∧ (Int32.toNatClampNeg v_121) < (e.2.1 b_205).2 then (stI (u2 I1_107 b_205 (Int32.toNatClampNeg v_121) v_99) (fun I_212 => ((e.2.2 44 6).bind (fun b_214 => ((e.2.2 44 6).bind (fun b_221 => (if (b_221 < e.1 ∧ (e.2.1 b_221).1 = 13 ∧ (e.2.1 b_221).2 < 2 ^ 31) ∧ 0 ≤ i1 ∧ (Int32.toNatClampNeg i1) < (e.2.1 b_221).2 then (if 0 ≤ i11 ∧ (Int32.toNatClampNeg i11) < 192 then (if 1 ≤ dp then (g_113 n (dp - 1) e 0 I_212 L1_107 (0 : Int32) (I_212 b_221 (Int32.toNatClampNeg i1)) (I_212 29 (Int32.toNatClampNeg i11))).bind (fun ⟨x2_236, I2_236, L2_236⟩ => (if (b_214 < e.1 ∧ (e.2.1 b_214).1 = 13 ∧ (e.2.1 b_214).2 < 2 ^ 31) ∧ 0 ≤ v_121 ∧ (Int32.toNatClampNeg v_121) < (e.2.1 b_214).2 then (stI (u2 I2_236 b_214 (Int32.toNatClampNeg v_121) x2_236) (fun I_239 => (g_110 n dp e 2 I_239 L2_236 i1 i2 i3 i4 i7 i8 i9 i10 i11 x0_74 v_99 x1_107 v_121))) else none)) else none) else none) else none))))))) else none)))) else none))) else ((e.2.2 44 7).bind (fun b_136 => (if (b_136 < e.1 ∧ (e.2.1 b_136).1 = 13 ∧ (e.2.1 b_136).2 < 2 ^ 31) ∧ 0 ≤ x1_107 ∧ (Int32.toNatClampNeg x1_107) < (e.2.1 b_136).2 then (stI (u2 I1_107 b_136 (Int32.toNatClampNeg x1_107) (i9 + Int32.ofInt (1))) (fun I_143 => ((e.2.2 44 4).bind (fun b_145 => (if (b_145 < e.1 ∧ (e.2.1 b_145).1 = 13 ∧ (e.2.1 b_145).2 < 2 ^ 31) ∧ 0 ≤ i9 ∧ (Int32.toNatClampNeg i9) < (e.2.1 b_145).2 then (stI (u2 I_143 b_145 (Int32.toNatClampNeg i9) x0_74) (fun I_152 => ((e.2.2 44 5).bind (fun b_154 => (if (b_154 < e.1 ∧ (e.2.1 b_154).1 = 13 ∧ (e.2.1 b_154).2 < 2 ^ 31) ∧ 0 ≤ i9 ∧ (Int32.toNatClampNeg i9) < (e.2.1 b_154).2 then (stI (u2 I_152 b_154 (Int32.toNatClampNeg i9) v_99) (fun I_161 => ((e.2.2 44 6).bind (fun b_163 => ((e.2.2 44 6).bind (fun b_170 => (if (b_170 < e.1 ∧ (e.2.1 b_170).1 = 13 ∧ (e.2.1 b_170).2 < 2 ^ 31) ∧ 0 ≤ i1 ∧ (Int32.toNatClampNeg i1) < (e.2.1 b_170).2 then (if 0 ≤ i11 ∧ (Int32.toNatClampNeg i11) < 192 then (if 1 ≤ dp then (g_113 n (dp - 1) e 0 I_161 L1_107 (0 : Int32) (I_161 b_170 (Int32.toNatClampNeg i1)) (I_161 29 (Int32.toNatClampNeg i11))).bind (fun ⟨x2_185, I2_185, L2_185⟩ => (if (b_163 < e.1 ∧ (e.2.1 b_163).1 = 13 ∧ (e.2.1 b_163).2 < 2 ^ 31) ∧ 0 ≤ i9 ∧ (Int32.toNatClampNeg i9) < (e.2.1 b_163).2 then (stI (u2 I2_185 b_163 (Int32.toNatClampNeg i9) x2_185) (fun I_188 => (g_110 n dp e 2 I_188 L2_185 i1 i2 i3 i4 i7 i8 (i9 + Int32.ofInt (1)) i10 i11 x0_74 v_99 x1_107 i9))) else none)) else none) else none) else none))))))) else none))))) else none))))) else none)))))) else none)))) else none))) else (stI ((i8 + (I0_74 28 (Int32.toNatClampNeg i11))) + (0 : Int32)) (fun v_99 => (if 1 ≤ dp then (g_112 n (dp - 1) e 0 I0_74 L0_74 x0_74).bind (fun ⟨x1_107, I1_107, L1_107⟩ => ((e.2.2 44 7).bind (fun b_113 => (if (b_113 < e.1 ∧ (e.2.1 b_113).1 = 13 ∧ (e.2.1 b_113).2 < 2 ^ 31) ∧ 0 ≤ x1_107 ∧ (Int32.toNatClampNeg x1_107) < (e.2.1 b_113).2 then (stI ((I1_107 b_113 (Int32.toNatClampNeg x1_107)) - (1 : Int32)) (fun v_121 => (if 0 ≤ v_121 then ((e.2.2 44 5).bind (fun b_195 => (if (b_195 < e.1 ∧ (e.2.1 b_195).1 = 13 ∧ (e.2.1 b_195).2 < 2 ^ 31) ∧ 0 ≤ v_121 ∧ (Int32.toNatClampNeg v_121) < (e.2.1 b_195).2 then (if v_99 ≤ (I1_107 b_195 (Int32.toNatClampNeg v_121)) then ((e.2.2 44 5).bind (fun b_246 => (if (b_246 < e.1 ∧ (e.2.1 b_246).1 = 13 ∧ (e.2.1 b_246).2 < 2 ^ 31) ∧ 0 ≤ v_121 ∧ (Int32.toNatClampNeg v_121) < (e.2.1 b_246).2 then (if v_99 = (I1_107 b_246 (Int32.toNatClampNeg v_121)) then ((e.2.2 44 6).bind (fun b_256 => ((e.2.2 44 6).bind (fun b_262 => (if (b_262 < e.1 ∧ (e.2.1 b_262).1 = 13 ∧ (e.2.1 b_262).2 < 2 ^ 31) ∧ 0 ≤ v_121 ∧ (Int32.toNatClampNeg v_121) < (e.2.1 b_262).2 then ((e.2.2 44 6).bind (fun b_269 => (if (b_269 < e.1 ∧ (e.2.1 b_269).1 = 13 ∧ (e.2.1 b_269).2 < 2 ^ 31) ∧ 0 ≤ i1 ∧ (Int32.toNatClampNeg i1) < (e.2.1 b_269).2 then (if 0 ≤ i11 ∧ (Int32.toNatClampNeg i11) < 192 then (if 1 ≤ dp then (g_113 n (dp - 1) e 0 I1_107 L1_107 (I1_107 b_262 (Int32.toNatClampNeg v_121)) (I1_107 b_269 (Int32.toNatClampNeg i1)) (I1_107 29 (Int32.toNatClampNeg i11))).bind (fun ⟨x2_284, I2_284, L2_284⟩ => (if (b_256 < e.1 ∧ (e.2.1 b_256).1 = 13 ∧ (e.2.1 b_256).2 < 2 ^ 31) ∧ 0 ≤ v_121 ∧ (Int32.toNatClampNeg v_121) < (e.2.1 b_256).2 then (stI (u2 I2_284 b_256 (Int32.toNatClampNeg v_121) x2_284) (fun I_287 => (g_110 n dp e 2 I_287 L2_284 i1 i2 i3 i4 i7 i8 i9 i10 i11 x0_74 v_99 x1_107 v_121))) else none)) else none) else none) else none))) else none))))) else (g_110 n dp e 2 I1_107 L1_107 i1 i2 i3 i4 i7 i8 i9 i10 i11 x0_74 v_99 x1_107 v_121)) else none))) else ((e.2.2 44 5).bind (fun b_205 => (if (b_205 < e.1 ∧ (e.2.1 b_205).1 = 13 ∧ (e.2.1 b_205).2 < 2 ^ 31) ∧ 0 ≤ v_121 ∧ (Int32.toNatClampNeg v_121) < (e.2.1 b_205).2 then (stI (u2 I1_107 b_205 (Int32.toNatClampNeg v_121) v_99) (fun I_212 => ((e.2.2 44 6).bind (fun b_214 => ((e.2.2 44 6).bind (fun b_221 => (if (b_221 < e.1 ∧ (e.2.1 b_221).1 = 13 ∧ (e.2.1 b_221).2 < 2 ^ 31) ∧ 0 ≤ i1 ∧ (Int32.toNatClampNeg i1) < (e.2.1 b_221).2 then (if 0 ≤ i11 ∧ (Int32.toNatClampNeg i11) < 192 then (if 1 ≤ dp then (g_113 n (dp - 1) e 0 I_212 L1_107 (0 : Int32) (I_212 b_221 (Int32.toNatClampNeg i1)) (I_212 29 (Int32.toNatClampNeg i11))).bind (fun ⟨x2_236, I2_236, L2_236⟩ => (if (b_214 < e.1 ∧ (e.2.1 b_214).1 = 13 ∧ (e.2.1 b_214).2 < 2 ^ 31) ∧ 0 ≤ v_121 ∧ (Int32.toNatClampNeg v_121) < (e.2.1 b_214).2 then (stI (u2 I2_236 b_214 (Int32.toNatClampNeg v_121) x2_236) (fun I_239 => (g_110 n dp e 2 I_239 L2_236 i1 i2 i3 i4 i7 i8 i9 i10 i11 x0_74 v_99 x1_107 v_121))) else none)) else none) else none) else none))))))) else none)))) else none))) else ((e.2.2 44 7).bind (fun b_136 => (if (b_136 < e.1 ∧ (e.2.1 b_136).1 = 13 ∧ (e.2.1 b_136).2 < 2 ^ 31) ∧ 0 ≤ x1_107 ∧ (Int32.toNatClampNeg x1_107) < (e.2.1 b_136).2 then (stI (u2 I1_107 b_136 (Int32.toNatClampNeg x1_107) (i9 + Int32.ofInt (1))) (fun I_143 => ((e.2.2 44 4).bind (fun b_145 => (if (b_145 < e.1 ∧ (e.2.1 b_145).1 = 13 ∧ (e.2.1 b_145).2 < 2 ^ 31) ∧ 0 ≤ i9 ∧ (Int32.toNatClampNeg i9) < (e.2.1 b_145).2 then (stI (u2 I_143 b_145 (Int32.toNatClampNeg i9) x0_74) (fun I_152 => ((e.2.2 44 5).bind (fun b_154 => (if (b_154 < e.1 ∧ (e.2.1 b_154).1 = 13 ∧ (e.2.1 b_154).2 < 2 ^ 31) ∧ 0 ≤ i9 ∧ (Int32.toNatClampNeg i9) < (e.2.1 b_154).2 then (stI (u2 I_152 b_154 (Int32.toNatClampNeg i9) v_99) (fun I_161 => ((e.2.2 44 6).bind (fun b_163 => ((e.2.2 44 6).bind (fun b_170 => (if (b_170 < e.1 ∧ (e.2.1 b_170).1 = 13 ∧ (e.2.1 b_170).2 < 2 ^ 31) ∧ 0 ≤ i1 ∧ (Int32.toNatClampNeg i1) < (e.2.1 b_170).2 then (if 0 ≤ i11 ∧ (Int32.toNatClampNeg i11) < 192 then (if 1 ≤ dp then (g_113 n (dp - 1) e 0 I_161 L1_107 (0 : Int32) (I_161 b_170 (Int32.toNatClampNeg i1)) (I_161 29 (Int32.toNatClampNeg i11))).bind (fun ⟨x2_185, I2_185, L2_185⟩ => (if (b_163 < e.1 ∧ (e.2.1 b_163).1 = 13 ∧ (e.2.1 b_163).2 < 2 ^ 31) ∧ 0 ≤ i9 ∧ (Int32.toNatClampNeg i9) < (e.2.1 b_163).2 then (stI (u2 I2_185 b_163 (Int32.toNatClampNeg i9) x2_185) (fun I_188 => (g_110 n dp e 2 I_188 L2_185 i1 i2 i3 i4 i7 i8 (i9 + Int32.ofInt (1)) i10 i11 x0_74 v_99 x1_107 i9))) else none)) else none) else none) else none))))))) else none))))) else none))))) else none)))))) else none)))) else none)))) else none)) else none) else none))
    else if lab = 2 then (g_110 n dp e 1 I L i1 i2 i3 i4 i7 i8 i9 i10 (i11 + Int32.ofInt (1)) 0 0 0 0)
    else none
set_option maxRecDepth 100000 in
theorem e_110_0 (n dp : Nat) (e : EN) (I : (Nat → Nat → Int32)) (L : (Nat → Nat → Int64)) (i1 : Int32) (i2 : Int32) (i3 : Int32) (i4 : Int32) (i7 : Int32) (i8 : Int32) (i9 : Int32) (i10 : Int32) (i11 : Int32) (i12 : Int32) (i13 : Int32) (i14 : Int32) (i15 : Int32) : g_110 (n + 1) dp e 0 I L i1 i2 i3 i4 i7 i8 i9 i10 i11 i12 i13 i14 i15 = ((e.2.2 44 4).bind (fun b_19 => (if (b_19 < e.1 ∧ (e.2.1 b_19).1 = 13 ∧ (e.2.1 b_19).2 < 2 ^ 31) ∧ 0 ≤ i1 ∧ (Int32.toNatClampNeg i1) < (e.2.1 b_19).2 then (stI (I b_19 (Int32.toNatClampNeg i1)) (fun v_24 => ((e.2.2 44 5).bind (fun b_27 => (if (b_27 < e.1 ∧ (e.2.1 b_27).1 = 13 ∧ (e.2.1 b_27).2 < 2 ^ 31) ∧ 0 ≤ i1 ∧ (Int32.toNatClampNeg i1) < (e.2.1 b_27).2 then (stI (I b_27 (Int32.toNatClampNeg i1)) (fun v_32 => (if 0 ≤ i2 ∧ (Int32.toNatClampNeg i2) < 3 then (stI ((i2 * (64 : Int32)) + (I 32 (Int32.toNatClampNeg i2))) (fun v_52 => (g_110 n dp e 1 I L i1 i2 i3 i4 v_24 v_32 i4 v_52 (i2 * (64 : Int32)) 0 0 0 0))) else none))) else none))))) else none))) := by rw [g_110.eq_2, if_pos (show (0 : Nat) = 0 from rfl)]
set_option maxRecDepth 100000 in
theorem e_110_1 (n dp : Nat) (e : EN) (I : (Nat → Nat → Int32)) (L : (Nat → Nat → Int64)) (i1 : Int32) (i2 : Int32) (i3 : Int32) (i4 : Int32) (i7 : Int32) (i8 : Int32) (i9 : Int32) (i10 : Int32) (i11 : Int32) (i12 : Int32) (i13 : Int32) (i14 : Int32) (i15 : Int32) : g_110 (n + 1) dp e 1 I L i1 i2 i3 i4 i7 i8 i9 i10 i11 i12 i13 i14 i15 = (if i10 ≤ i11 then (some (i9, I, L)) else (if 0 ≤ i11 ∧ (Int32.toNatClampNeg i11) < 192 then (if 1 ≤ dp then (g_111 n (dp - 1) e 0 I L i7 (I 27 (Int32.toNatClampNeg i11))).bind (fun ⟨x0_74, I0_74, L0_74⟩ => (if 0 ≤ i11 ∧ (Int32.toNatClampNeg i11) < 192 then (if i11 = i3 then (stI ((i8 + (I0_74 28 (Int32.toNatClampNeg i11))) + (1 : Int32)) (fun v_99 => (if 1 ≤ dp then (g_112 n (dp - 1) e 0 I0_74 L0_74 x0_74).bind (fun ⟨x1_107, I1_107, L1_107⟩ => ((e.2.2 44 7).bind (fun b_113 => (if (b_113 < e.1 ∧ (e.2.1 b_113).1 = 13 ∧ (e.2.1 b_113).2 < 2 ^ 31) ∧ 0 ≤ x1_107 ∧ (Int32.toNatClampNeg x1_107) < (e.2.1 b_113).2 then (stI ((I1_107 b_113 (Int32.toNatClampNeg x1_107)) - (1 : Int32)) (fun v_121 => (if 0 ≤ v_121 then ((e.2.2 44 5).bind (fun b_195 => (if (b_195 < e.1 ∧ (e.2.1 b_195).1 = 13 ∧ (e.2.1 b_195).2 < 2 ^ 31) ∧ 0 ≤ v_121 ∧ (Int32.toNatClampNeg v_121) < (e.2.1 b_195).2 then (if v_99 ≤ (I1_107 b_195 (Int32.toNatClampNeg v_121)) then ((e.2.2 44 5).bind (fun b_246 => (if (b_246 < e.1 ∧ (e.2.1 b_246).1 = 13 ∧ (e.2.1 b_246).2 < 2 ^ 31) ∧ 0 ≤ v_121 ∧ (Int32.toNatClampNeg v_121) < (e.2.1 b_246).2 then (if v_99 = (I1_107 b_246 (Int32.toNatClampNeg v_121)) then ((e.2.2 44 6).bind (fun b_256 => ((e.2.2 44 6).bind (fun b_262 => (if (b_262 < e.1 ∧ (e.2.1 b_262).1 = 13 ∧ (e.2.1 b_262).2 < 2 ^ 31) ∧ 0 ≤ v_121 ∧ (Int32.toNatClampNeg v_121) < (e.2.1 b_262).2 then ((e.2.2 44 6).bind (fun b_269 => (if (b_269 < e.1 ∧ (e.2.1 b_269).1 = 13 ∧ (e.2.1 b_269).2 < 2 ^ 31) ∧ 0 ≤ i1 ∧ (Int32.toNatClampNeg i1) < (e.2.1 b_269).2 then (if 0 ≤ i11 ∧ (Int32.toNatClampNeg i11) < 192 then (if 1 ≤ dp then (g_113 n (dp - 1) e 0 I1_107 L1_107 (I1_107 b_262 (Int32.toNatClampNeg v_121)) (I1_107 b_269 (Int32.toNatClampNeg i1)) (I1_107 29 (Int32.toNatClampNeg i11))).bind (fun ⟨x2_284, I2_284, L2_284⟩ => (if (b_256 < e.1 ∧ (e.2.1 b_256).1 = 13 ∧ (e.2.1 b_256).2 < 2 ^ 31) ∧ 0 ≤ v_121 ∧ (Int32.toNatClampNeg v_121) < (e.2.1 b_256).2 then (stI (u2 I2_284 b_256 (Int32.toNatClampNeg v_121) x2_284) (fun I_287 => (g_110 n dp e 2 I_287 L2_284 i1 i2 i3 i4 i7 i8 i9 i10 i11 x0_74 v_99 x1_107 v_121))) else none)) else none) else none) else none))) else none))))) else (g_110 n dp e 2 I1_107 L1_107 i1 i2 i3 i4 i7 i8 i9 i10 i11 x0_74 v_99 x1_107 v_121)) else none))) else ((e.2.2 44 5).bind (fun b_205 => (if (b_205 < e.1 ∧ (e.2.1 b_205).1 = 13 ∧ (e.2.1 b_205).2 < 2 ^ 31) ∧ 0 ≤ v_121 ∧ (Int32.toNatClampNeg v_121) < (e.2.1 b_205).2 then (stI (u2 I1_107 b_205 (Int32.toNatClampNeg v_121) v_99) (fun I_212 => ((e.2.2 44 6).bind (fun b_214 => ((e.2.2 44 6).bind (fun b_221 => (if (b_221 < e.1 ∧ (e.2.1 b_221).1 = 13 ∧ (e.2.1 b_221).2 < 2 ^ 31) ∧ 0 ≤ i1 ∧ (Int32.toNatClampNeg i1) < (e.2.1 b_221).2 then (if 0 ≤ i11 ∧ (Int32.toNatClampNeg i11) < 192 then (if 1 ≤ dp then (g_113 n (dp - 1) e 0 I_212 L1_107 (0 : Int32) (I_212 b_221 (Int32.toNatClampNeg i1)) (I_212 29 (Int32.toNatClampNeg i11))).bind (fun ⟨x2_236, I2_236, L2_236⟩ => (if (b_214 < e.1 ∧ (e.2.1 b_214).1 = 13 ∧ (e.2.1 b_214).2 < 2 ^ 31) ∧ 0 ≤ v_121 ∧ (Int32.toNatClampNeg v_121) < (e.2.1 b_214).2 then (stI (u2 I2_236 b_214 (Int32.toNatClampNeg v_121) x2_236) (fun I_239 => (g_110 n dp e 2 I_239 L2_236 i1 i2 i3 i4 i7 i8 i9 i10 i11 x0_74 v_99 x1_107 v_121))) else none)) else none) else none) else none))))))) else none)))) else none))) else ((e.2.2 44 7).bind (fun b_136 => (if (b_136 < e.1 ∧ (e.2.1 b_136).1 = 13 ∧ (e.2.1 b_136).2 < 2 ^ 31) ∧ 0 ≤ x1_107 ∧ (Int32.toNatClampNeg x1_107) < (e.2.1 b_136).2 then (stI (u2 I1_107 b_136 (Int32.toNatClampNeg x1_107) (i9 + Int32.ofInt (1))) (fun I_143 => ((e.2.2 44 4).bind (fun b_145 => (if (b_145 < e.1 ∧ (e.2.1 b_145).1 = 13 ∧ (e.2.1 b_145).2 < 2 ^ 31) ∧ 0 ≤ i9 ∧ (Int32.toNatClampNeg i9) < (e.2.1 b_145).2 then (stI (u2 I_143 b_145 (Int32.toNatClampNeg i9) x0_74) (fun I_152 => ((e.2.2 44 5).bind (fun b_154 => (if (b_154 < e.1 ∧ (e.2.1 b_154).1 = 13 ∧ (e.2.1 b_154).2 < 2 ^ 31) ∧ 0 ≤ i9 ∧ (Int32.toNatClampNeg i9) < (e.2.1 b_154).2 then (stI (u2 I_152 b_154 (Int32.toNatClampNeg i9) v_99) (fun I_161 => ((e.2.2 44 6).bind (fun b_163 => ((e.2.2 44 6).bind (fun b_170 => (if (b_170 < e.1 ∧ (e.2.1 b_170).1 = 13 ∧ (e.2.1 b_170).2 < 2 ^ 31) ∧ 0 ≤ i1 ∧ (Int32.toNatClampNeg i1) < (e.2.1 b_170).2 then (if 0 ≤ i11 ∧ (Int32.toNatClampNeg i11) < 192 then (if 1 ≤ dp then (g_113 n (dp - 1) e 0 I_161 L1_107 (0 : Int32) (I_161 b_170 (Int32.toNatClampNeg i1)) (I_161 29 (Int32.toNatClampNeg i11))).bind (fun ⟨x2_185, I2_185, L2_185⟩ => (if (b_163 < e.1 ∧ (e.2.1 b_163).1 = 13 ∧ (e.2.1 b_163).2 < 2 ^ 31) ∧ 0 ≤ i9 ∧ (Int32.toNatClampNeg i9) < (e.2.1 b_163).2 then (stI (u2 I2_185 b_163 (Int32.toNatClampNeg i9) x2_185) (fun I_188 => (g_110 n dp e 2 I_188 L2_185 i1 i2 i3 i4 i7 i8 (i9 + Int32.ofInt (1)) i10 i11 x0_74 v_99 x1_107 i9))) else none)) else none) else none) else none))))))) else none))))) else none))))) else none)))))) else none)))) else none))) else (stI ((i8 + (I0_74 28 (Int32.toNatClampNeg i11))) + (0 : Int32)) (fun v_99 => (if 1 ≤ dp then (g_112 n (dp - 1) e 0 I0_74 L0_74 x0_74).bind (fun ⟨x1_107, I1_107, L1_107⟩ => ((e.2.2 44 7).bind (fun b_113 => (if (b_113 < e.1 ∧ (e.2.1 b_113).1 = 13 ∧ (e.2.1 b_113).2 < 2 ^ 31) ∧ 0 ≤ x1_107 ∧ (Int32.toNatClampNeg x1_107) < (e.2.1 b_113).2 then (stI ((I1_107 b_113 (Int32.toNatClampNeg x1_107)) - (1 : Int32)) (fun v_121 => (if 0 ≤ v_121 then ((e.2.2 44 5).bind (fun b_195 => (if (b_195 < e.1 ∧ (e.2.1 b_195).1 = 13 ∧ (e.2.1 b_195).2 < 2 ^ 31) ∧ 0 ≤ v_121 ∧ (Int32.toNatClampNeg v_121) < (e.2.1 b_195).2 then (if v_99 ≤ (I1_107 b_195 (Int32.toNatClampNeg v_121)) then ((e.2.2 44 5).bind (fun b_246 => (if (b_246 < e.1 ∧ (e.2.1 b_246).1 = 13 ∧ (e.2.1 b_246).2 < 2 ^ 31) ∧ 0 ≤ v_121 ∧ (Int32.toNatClampNeg v_121) < (e.2.1 b_246).2 then (if v_99 = (I1_107 b_246 (Int32.toNatClampNeg v_121)) then ((e.2.2 44 6).bind (fun b_256 => ((e.2.2 44 6).bind (fun b_262 => (if (b_262 < e.1 ∧ (e.2.1 b_262).1 = 13 ∧ (e.2.1 b_262).2 < 2 ^ 31) ∧ 0 ≤ v_121 ∧ (Int32.toNatClampNeg v_121) < (e.2.1 b_262).2 then ((e.2.2 44 6).bind (fun b_269 => (if (b_269 < e.1 ∧ (e.2.1 b_269).1 = 13 ∧ (e.2.1 b_269).2 < 2 ^ 31) ∧ 0 ≤ i1 ∧ (Int32.toNatClampNeg i1) < (e.2.1 b_269).2 then (if 0 ≤ i11 ∧ (Int32.toNatClampNeg i11) < 192 then (if 1 ≤ dp then (g_113 n (dp - 1) e 0 I1_107 L1_107 (I1_107 b_262 (Int32.toNatClampNeg v_121)) (I1_107 b_269 (Int32.toNatClampNeg i1)) (I1_107 29 (Int32.toNatClampNeg i11))).bind (fun ⟨x2_284, I2_284, L2_284⟩ => (if (b_256 < e.1 ∧ (e.2.1 b_256).1 = 13 ∧ (e.2.1 b_256).2 < 2 ^ 31) ∧ 0 ≤ v_121 ∧ (Int32.toNatClampNeg v_121) < (e.2.1 b_256).2 then (stI (u2 I2_284 b_256 (Int32.toNatClampNeg v_121) x2_284) (fun I_287 => (g_110 n dp e 2 I_287 L2_284 i1 i2 i3 i4 i7 i8 i9 i10 i11 x0_74 v_99 x1_107 v_121))) else none)) else none) else none) else none))) else none))))) else (g_110 n dp e 2 I1_107 L1_107 i1 i2 i3 i4 i7 i8 i9 i10 i11 x0_74 v_99 x1_107 v_121)) else none))) else ((e.2.2 44 5).bind (fun b_205 => (if (b_205 < e.1 ∧ (e.2.1 b_205).1 = 13 ∧ (e.2.1 b_205).2 < 2 ^ 31) ∧ 0 ≤ v_121 ∧ (Int32.toNatClampNeg v_121) < (e.2.1 b_205).2 then (stI (u2 I1_107 b_205 (Int32.toNatClampNeg v_121) v_99) (fun I_212 => ((e.2.2 44 6).bind (fun b_214 => ((e.2.2 44 6).bind (fun b_221 => (if (b_221 < e.1 ∧ (e.2.1 b_221).1 = 13 ∧ (e.2.1 b_221).2 < 2 ^ 31) ∧ 0 ≤ i1 ∧ (Int32.toNatClampNeg i1) < (e.2.1 b_221).2 then (if 0 ≤ i11 ∧ (Int32.toNatClampNeg i11) < 192 then (if 1 ≤ dp then (g_113 n (dp - 1) e 0 I_212 L1_107 (0 : Int32) (I_212 b_221 (Int32.toNatClampNeg i1)) (I_212 29 (Int32.toNatClampNeg i11))).bind (fun ⟨x2_236, I2_236, L2_236⟩ => (if (b_214 < e.1 ∧ (e.2.1 b_214).1 = 13 ∧ (e.2.1 b_214).2 < 2 ^ 31) ∧ 0 ≤ v_121 ∧ (Int32.toNatClampNeg v_121) < (e.2.1 b_214).2 then (stI (u2 I2_236 b_214 (Int32.toNatClampNeg v_121) x2_236) (fun I_239 => (g_110 n dp e 2 I_239 L2_236 i1 i2 i3 i4 i7 i8 i9 i10 i11 x0_74 v_99 x1_107 v_121))) else none)) else none) else none) else none))))))) else none)))) else none))) else ((e.2.2 44 7).bind (fun b_136 => (if (b_136 < e.1 ∧ (e.2.1 b_136).1 = 13 ∧ (e.2.1 b_136).2 < 2 ^ 31) ∧ 0 ≤ x1_107 ∧ (Int32.toNatClampNeg x1_107) < (e.2.1 b_136).2 then (stI (u2 I1_107 b_136 (Int32.toNatClampNeg x1_107) (i9 + Int32.ofInt (1))) (fun I_143 => ((e.2.2 44 4).bind (fun b_145 => (if (b_145 < e.1 ∧ (e.2.1 b_145).1 = 13 ∧ (e.2.1 b_145).2 < 2 ^ 31) ∧ 0 ≤ i9 ∧ (Int32.toNatClampNeg i9) < (e.2.1 b_145).2 then (stI (u2 I_143 b_145 (Int32.toNatClampNeg i9) x0_74) (fun I_152 => ((e.2.2 44 5).bind (fun b_154 => (if (b_154 < e.1 ∧ (e.2.1 b_154).1 = 13 ∧ (e.2.1 b_154).2 < 2 ^ 31) ∧ 0 ≤ i9 ∧ (Int32.toNatClampNeg i9) < (e.2.1 b_154).2 then (stI (u2 I_152 b_154 (Int32.toNatClampNeg i9) v_99) (fun I_161 => ((e.2.2 44 6).bind (fun b_163 => ((e.2.2 44 6).bind (fun b_170 => (if (b_170 < e.1 ∧ (e.2.1 b_170).1 = 13 ∧ (e.2.1 b_170).2 < 2 ^ 31) ∧ 0 ≤ i1 ∧ (Int32.toNatClampNeg i1) < (e.2.1 b_170).2 then (if 0 ≤ i11 ∧ (Int32.toNatClampNeg i11) < 192 then (if 1 ≤ dp then (g_113 n (dp - 1) e 0 I_161 L1_107 (0 : Int32) (I_161 b_170 (Int32.toNatClampNeg i1)) (I_161 29 (Int32.toNatClampNeg i11))).bind (fun ⟨x2_185, I2_185, L2_185⟩ => (if (b_163 < e.1 ∧ (e.2.1 b_163).1 = 13 ∧ (e.2.1 b_163).2 < 2 ^ 31) ∧ 0 ≤ i9 ∧ (Int32.toNatClampNeg i9) < (e.2.1 b_163).2 then (stI (u2 I2_185 b_163 (Int32.toNatClampNeg i9) x2_185) (fun I_188 => (g_110 n dp e 2 I_188 L2_185 i1 i2 i3 i4 i7 i8 (i9 + Int32.ofInt (1)) i10 i11 x0_74 v_99 x1_107 i9))) else none)) else none) else none) else none))))))) else none))))) else none))))) else none)))))) else none)))) else none)))) else none)) else none) else none)) := by rw [g_110.eq_2, if_neg (show ¬ ((1 : Nat) = 0) by decide), if_pos (show (1 : Nat) = 1 from rfl)]
set_option maxRecDepth 100000 in
theorem e_110_2 (n dp : Nat) (e : EN) (I : (Nat → Nat → Int32)) (L : (Nat → Nat → Int64)) (i1 : Int32) (i2 : Int32) (i3 : Int32) (i4 : Int32) (i7 : Int32) (i8 : Int32) (i9 : Int32) (i10 : Int32) (i11 : Int32) (i12 : Int32) (i13 : Int32) (i14 : Int32) (i15 : Int32) : g_110 (n + 1) dp e 2 I L i1 i2 i3 i4 i7 i8 i9 i10 i11 i12 i13 i14 i15 = (g_110 n dp e 1 I L i1 i2 i3 i4 i7 i8 i9 i10 (i11 + Int32.ofInt (1)) 0 0 0 0) := by rw [g_110.eq_2, if_neg (show ¬ ((2 : Nat) = 0) by decide), if_neg (show ¬ ((2 : Nat) = 1) by decide), if_pos (show (2 : Nat) = 2 from rfl)]
set_option maxHeartbeats 8000000 in
set_option maxRecDepth 100000 in
theorem w_110 (X : GX) {z : Nat} {kd : Nat → Nat × Nat} {Rf : Nat → Nat → Option Nat} (hS : Sh z kd Rf) : ∀ (n dp d : Nat), dp ≤ d → ∀ (I : (Nat → Nat → Int32)) (L : (Nat → Nat → Int64)) (i1 : Int32) (i2 : Int32) (i3 : Int32) (i4 : Int32) (i7 : Int32) (i8 : Int32) (i9 : Int32) (i10 : Int32) (i11 : Int32) (i12 : Int32) (i13 : Int32) (i14 : Int32) (i15 : Int32) (r : Int32) (I1 : (Nat → Nat → Int32)) (L1 : (Nat → Nat → Int64)), (g_110 n dp (z, kd, Rf) 0 I L i1 i2 i3 i4 i7 i8 i9 i10 i11 i12 i13 i14 i15 = some (r, I1, L1) → K X d 110 0 0 (AI (fun x τ => x = r ∧ τ = (z, kd, I1, L1, Rf))) 0 [some (.ref 44), some (.int i1), some (.int i2), some (.int i3), some (.int i4), none, none, none, none, none, none, none, none, none, none, none] [] (z, kd, I, L, Rf) 0 0) ∧
    (g_110 n dp (z, kd, Rf) 1 I L i1 i2 i3 i4 i7 i8 i9 i10 i11 i12 i13 i14 i15 = some (r, I1, L1) → K X d 110 0 0 (AI (fun x τ => x = r ∧ τ = (z, kd, I1, L1, Rf))) 60 [some (.ref 44), some (.int i1), some (.int i2), some (.int i3), some (.int i4), some (.ref 27), some (.ref 28), some (.int i7), some (.int i8), some (.int i9), some (.int i10), some (.int i11), none, none, none, none] [] (z, kd, I, L, Rf) 0 0) ∧
    (g_110 n dp (z, kd, Rf) 2 I L i1 i2 i3 i4 i7 i8 i9 i10 i11 i12 i13 i14 i15 = some (r, I1, L1) → K X d 110 0 0 (AI (fun x τ => x = r ∧ τ = (z, kd, I1, L1, Rf))) 288 [some (.ref 44), some (.int i1), some (.int i2), some (.int i3), some (.int i4), some (.ref 27), some (.ref 28), some (.int i7), some (.int i8), some (.int i9), some (.int i10), some (.int i11), some (.int i12), some (.int i13), some (.int i14), some (.int i15)] [] (z, kd, I, L, Rf) 0 0) := by
  intro n
  induction n with
  | zero => intro dp d hdp I L i1 i2 i3 i4 i7 i8 i9 i10 i11 i12 i13 i14 i15 r I1 L1; exact ⟨(fun h => by cases h), (fun h => by cases h), (fun h => by cases h)⟩
  | succ n ih =>
    intro dp d hdp I L i1 i2 i3 i4 i7 i8 i9 i10 i11 i12 i13 i14 i15 r I1 L1
    refine ⟨?_, ?_, ?_⟩
    · intro h
      rw [e_110_0] at h
      refine K_of b_110_0 h_110_0 ?_
      refine q_aload rfl ?_
      refine q_getRs (c0 := 4) (j := 0) rfl rfl (zl hS 44 (by decide)) (sk hS 44 (by decide) rfl) rfl (by decide) (r_44_0 hS) ?_
      refine q_getRs (c0 := 6) (j := 0) rfl rfl (zl hS 26 (by decide)) (sk hS 26 (by decide) rfl) rfl (by decide) (r_26_0 hS) ?_
      refine q_astore (ls1 := [some (.ref 44), some (.int i1), some (.int i2), some (.int i3), some (.int i4), some (.ref 27), none, none, none, none, none, none, none, none, none, none]) rfl (Nat.le_of_ble_eq_true rfl) rfl ?_
      refine q_aload rfl ?_
      refine q_getRs (c0 := 4) (j := 0) rfl rfl (zl hS 44 (by decide)) (sk hS 44 (by decide) rfl) rfl (by decide) (r_44_0 hS) ?_
      refine q_getRs (c0 := 6) (j := 1) rfl rfl (zl hS 26 (by decide)) (sk hS 26 (by decide) rfl) rfl (by decide) (r_26_1 hS) ?_
      refine q_astore (ls1 := [some (.ref 44), some (.int i1), some (.int i2), some (.int i3), some (.int i4), some (.ref 27), some (.ref 28), none, none, none, none, none, none, none, none, none]) rfl (Nat.le_of_ble_eq_true rfl) rfl ?_
      refine q_aload rfl ?_
      obtain ⟨b_19, r_19, h⟩ := Option.bind_eq_some_iff.mp h
      refine q_getRs (c0 := 4) (j := 4) rfl rfl (zl hS 44 (by decide)) (sk hS 44 (by decide) rfl) rfl (by decide) r_19 ?_
      refine q_iload rfl ?_
      obtain ⟨⟨⟨z_23, k_23, m_23⟩, u_23, v_23⟩, h⟩ := ite_some h
      refine q_ialN (Int32.toNatClampNeg i1) (nx u_23) z_23 (fst_eq k_23) v_23 m_23 ?_
      obtain ⟨v_24, nv_24, h⟩ := stI_some h
      refine q_eqi nv_24.symm ?_
      refine q_istore (ls1 := [some (.ref 44), some (.int i1), some (.int i2), some (.int i3), some (.int i4), some (.ref 27), some (.ref 28), some (.int v_24), none, none, none, none, none, none, none, none]) (Nat.le_of_ble_eq_true rfl) rfl ?_
      refine q_aload rfl ?_
      obtain ⟨b_27, r_27, h⟩ := Option.bind_eq_some_iff.mp h
      refine q_getRs (c0 := 4) (j := 5) rfl rfl (zl hS 44 (by decide)) (sk hS 44 (by decide) rfl) rfl (by decide) r_27 ?_
      refine q_iload rfl ?_
      obtain ⟨⟨⟨z_31, k_31, m_31⟩, u_31, v_31⟩, h⟩ := ite_some h
      refine q_ialN (Int32.toNatClampNeg i1) (nx u_31) z_31 (fst_eq k_31) v_31 m_31 ?_
      obtain ⟨v_32, nv_32, h⟩ := stI_some h
      refine q_eqi nv_32.symm ?_
      refine q_istore (ls1 := [some (.ref 44), some (.int i1), some (.int i2), some (.int i3), some (.int i4), some (.ref 27), some (.ref 28), some (.int v_24), some (.int v_32), none, none, none, none, none, none, none]) (Nat.le_of_ble_eq_true rfl) rfl ?_
      refine q_iload rfl ?_
      refine q_istore (ls1 := [some (.ref 44), some (.int i1), some (.int i2), some (.int i3), some (.int i4), some (.ref 27), some (.ref 28), some (.int v_24), some (.int v_32), some (.int i4), none, none, none, none, none, none]) (Nat.le_of_ble_eq_true rfl) rfl ?_
      refine q_iload rfl ?_
      refine q_iconst (64) (by decide) ?_
      refine q_imul ?_
      refine q_aload rfl ?_
      refine q_getRs (c0 := 4) (j := 0) rfl rfl (zl hS 44 (by decide)) (sk hS 44 (by decide) rfl) rfl (by decide) (r_44_0 hS) ?_
      refine q_getRs (c0 := 6) (j := 5) rfl rfl (zl hS 26 (by decide)) (sk hS 26 (by decide) rfl) rfl (by decide) (r_26_5 hS) ?_
      refine q_iload rfl ?_
      obtain ⟨⟨u_50, v_50⟩, h⟩ := ite_some h
      refine q_ialN (Int32.toNatClampNeg i2) (nx u_50) (zl hS 32 (by decide)) (sk hS 32 (by decide) rfl) v_50 (by decide) ?_
      refine q_iadd ?_
      obtain ⟨v_52, nv_52, h⟩ := stI_some h
      refine q_eqi nv_52.symm ?_
      refine q_istore (ls1 := [some (.ref 44), some (.int i1), some (.int i2), some (.int i3), some (.int i4), some (.ref 27), some (.ref 28), some (.int v_24), some (.int v_32), some (.int i4), some (.int v_52), none, none, none, none, none]) (Nat.le_of_ble_eq_true rfl) rfl ?_
      refine q_iload rfl ?_
      refine q_iconst (64) (by decide) ?_
      refine q_imul ?_
      refine q_istore (ls1 := [some (.ref 44), some (.int i1), some (.int i2), some (.int i3), some (.int i4), some (.ref 27), some (.ref 28), some (.int v_24), some (.int v_32), some (.int i4), some (.int v_52), some (.int (i2 * (64 : Int32))), none, none, none, none]) (Nat.le_of_ble_eq_true rfl) rfl ?_
      refine q_end ?_
      exact (ih dp d hdp _ _ i1 i2 i3 i4 v_24 v_32 i4 v_52 (i2 * (64 : Int32)) 0 0 0 0 _ _ _).2.1 h
    · intro h
      rw [e_110_1] at h
      refine K_of b_110_60 h_110_60 ?_
      refine q_iload rfl ?_
      refine q_iload rfl ?_
      refine q_icmp_ge (fun c_64 => ?_) (fun c_64 => ?_)
      · rw [if_pos c_64] at h
        refine K_of b_110_294 h_110_294 ?_
        refine q_iload rfl ?_
        cases h
        exact q_iret rfl (Nat.le_refl _) (Nat.le_refl _) ⟨rfl, rfl⟩
      · rw [if_neg c_64] at h
        refine q_iload rfl ?_
        refine q_aload rfl ?_
        refine q_iload rfl ?_
        obtain ⟨⟨u_73, v_73⟩, h⟩ := ite_some h
        refine q_ialN (Int32.toNatClampNeg i11) (nx u_73) (zl hS 27 (by decide)) (sk hS 27 (by decide) rfl) v_73 (by decide) ?_
        obtain ⟨d_74, h⟩ := ite_some h
        obtain ⟨⟨x0_74, I0_74, L0_74⟩, e_74, h⟩ := Option.bind_eq_some_iff.mp h
        dsimp only at h
        refine q_fs2I (a_111 X hS (d := d - 1) (by omega) e_74) (by omega) (Nat.le_refl _) (Nat.le_refl _) rfl (Nat.le_of_ble_eq_true rfl) ?_
        refine q_istore (ls1 := [some (.ref 44), some (.int i1), some (.int i2), some (.int i3), some (.int i4), some (.ref 27), some (.ref 28), some (.int i7), some (.int i8), some (.int i9), some (.int i10), some (.int i11), some (.int x0_74), none, none, none]) (Nat.le_of_ble_eq_true rfl) rfl ?_
        refine q_iload rfl ?_
        refine q_aload rfl ?_
        refine q_iload rfl ?_
        obtain ⟨⟨u_85, v_85⟩, h⟩ := ite_some h
        refine q_ialN (Int32.toNatClampNeg i11) (nx u_85) (zl hS 28 (by decide)) (sk hS 28 (by decide) rfl) v_85 (by decide) ?_
        refine q_iadd ?_
        refine q_iload rfl ?_
        refine q_iload rfl ?_
        refine q_icmp_ne (fun c_90 => ?_) (fun c_90 => ?_)
        · rw [if_neg c_90] at h
          refine K_of b_110_97 h_110_97 ?_
          refine q_iconst (0) (by decide) ?_
          refine q_end ?_
          refine K_of b_110_98 h_110_98 ?_
          refine q_iadd ?_
          obtain ⟨v_99, nv_99, h⟩ := stI_some h
          refine q_eqi nv_99.symm ?_
          refine q_istore (ls1 := [some (.ref 44), some (.int i1), some (.int i2), some (.int i3), some (.int i4), some (.ref 27), some (.ref 28), some (.int i7), some (.int i8), some (.int i9), some (.int i10), some (.int i11), some (.int x0_74), some (.int v_99), none, none]) (Nat.le_of_ble_eq_true rfl) rfl ?_
          refine q_aload rfl ?_
          refine q_getRs (c0 := 4) (j := 0) rfl rfl (zl hS 44 (by decide)) (sk hS 44 (by decide) rfl) rfl (by decide) (r_44_0 hS) ?_
          refine q_iload rfl ?_
          obtain ⟨d_107, h⟩ := ite_some h
          obtain ⟨⟨x1_107, I1_107, L1_107⟩, e_107, h⟩ := Option.bind_eq_some_iff.mp h
          dsimp only at h
          refine q_fv2I (a_112 X hS (d := d - 1) (by omega) e_107) (by omega) (Nat.le_refl _) (Nat.le_refl _) rfl (Nat.le_of_ble_eq_true rfl) ⟨(zl hS 26 (by decide)), congrArg Prod.fst (sk hS 26 (by decide) rfl), by decide⟩ ?_
          refine q_istore (ls1 := [some (.ref 44), some (.int i1), some (.int i2), some (.int i3), some (.int i4), some (.ref 27), some (.ref 28), some (.int i7), some (.int i8), some (.int i9), some (.int i10), some (.int i11), some (.int x0_74), some (.int v_99), some (.int x1_107), none]) (Nat.le_of_ble_eq_true rfl) rfl ?_
          refine q_aload rfl ?_
          obtain ⟨b_113, r_113, h⟩ := Option.bind_eq_some_iff.mp h
          refine q_getRs (c0 := 4) (j := 7) rfl rfl (zl hS 44 (by decide)) (sk hS 44 (by decide) rfl) rfl (by decide) r_113 ?_
          refine q_iload rfl ?_
          obtain ⟨⟨⟨z_118, k_118, m_118⟩, u_118, v_118⟩, h⟩ := ite_some h
          refine q_ialN (Int32.toNatClampNeg x1_107) (nx u_118) z_118 (fst_eq k_118) v_118 m_118 ?_
          refine q_iconst (1) (by decide) ?_
          refine q_isub ?_
          obtain ⟨v_121, nv_121, h⟩ := stI_some h
          refine q_eqi nv_121.symm ?_
          refine q_istore (ls1 := [some (.ref 44), some (.int i1), some (.int i2), some (.int i3), some (.int i4), some (.ref 27), some (.ref 28), some (.int i7), some (.int i8), some (.int i9), some (.int i10), some (.int i11), some (.int x0_74), some (.int v_99), some (.int x1_107), some (.int v_121)]) (Nat.le_of_ble_eq_true rfl) rfl ?_
          refine q_iload rfl ?_
          refine q_if_ge (fun c_125 => ?_) (fun c_125 => ?_)
          · rw [if_pos c_125] at h
            refine K_of b_110_192 h_110_192 ?_
            refine q_iload rfl ?_
            refine q_aload rfl ?_
            obtain ⟨b_195, r_195, h⟩ := Option.bind_eq_some_iff.mp h
            refine q_getRs (c0 := 4) (j := 5) rfl rfl (zl hS 44 (by decide)) (sk hS 44 (by decide) rfl) rfl (by decide) r_195 ?_
            refine q_iload rfl ?_
            obtain ⟨⟨⟨z_200, k_200, m_200⟩, u_200, v_200⟩, h⟩ := ite_some h
            refine q_ialN (Int32.toNatClampNeg v_121) (nx u_200) z_200 (fst_eq k_200) v_200 m_200 ?_
            refine q_icmp_le (fun c_201 => ?_) (fun c_201 => ?_)
            · rw [if_pos c_201] at h
              refine K_of b_110_243 h_110_243 ?_
              refine q_iload rfl ?_
              refine q_aload rfl ?_
              obtain ⟨b_246, r_246, h⟩ := Option.bind_eq_some_iff.mp h
              refine q_getRs (c0 := 4) (j := 5) rfl rfl (zl hS 44 (by decide)) (sk hS 44 (by decide) rfl) rfl (by decide) r_246 ?_
              refine q_iload rfl ?_
              obtain ⟨⟨⟨z_251, k_251, m_251⟩, u_251, v_251⟩, h⟩ := ite_some h
              refine q_ialN (Int32.toNatClampNeg v_121) (nx u_251) z_251 (fst_eq k_251) v_251 m_251 ?_
              refine q_icmp_ne (fun c_252 => ?_) (fun c_252 => ?_)
              · rw [if_neg c_252] at h
                exact (ih dp d hdp _ _ i1 i2 i3 i4 i7 i8 i9 i10 i11 x0_74 v_99 x1_107 v_121 _ _ _).2.2 h
              · rw [if_pos c_252] at h
                refine q_aload rfl ?_
                obtain ⟨b_256, r_256, h⟩ := Option.bind_eq_some_iff.mp h
                refine q_getRs (c0 := 4) (j := 6) rfl rfl (zl hS 44 (by decide)) (sk hS 44 (by decide) rfl) rfl (by decide) r_256 ?_
                refine q_iload rfl ?_
                refine q_aload rfl ?_
                obtain ⟨b_262, r_262, h⟩ := Option.bind_eq_some_iff.mp h
                refine q_getRs (c0 := 4) (j := 6) rfl rfl (zl hS 44 (by decide)) (sk hS 44 (by decide) rfl) rfl (by decide) r_262 ?_
                refine q_iload rfl ?_
                obtain ⟨⟨⟨z_267, k_267, m_267⟩, u_267, v_267⟩, h⟩ := ite_some h
                refine q_ialN (Int32.toNatClampNeg v_121) (nx u_267) z_267 (fst_eq k_267) v_267 m_267 ?_
                refine q_aload rfl ?_
                obtain ⟨b_269, r_269, h⟩ := Option.bind_eq_some_iff.mp h
                refine q_getRs (c0 := 4) (j := 6) rfl rfl (zl hS 44 (by decide)) (sk hS 44 (by decide) rfl) rfl (by decide) r_269 ?_
                refine q_iload rfl ?_
                obtain ⟨⟨⟨z_273, k_273, m_273⟩, u_273, v_273⟩, h⟩ := ite_some h
                refine q_ialN (Int32.toNatClampNeg i1) (nx u_273) z_273 (fst_eq k_273) v_273 m_273 ?_
                refine q_aload rfl ?_
                refine q_getRs (c0 := 4) (j := 0) rfl rfl (zl hS 44 (by decide)) (sk hS 44 (by decide) rfl) rfl (by decide) (r_44_0 hS) ?_
                refine q_getRs (c0 := 6) (j := 2) rfl rfl (zl hS 26 (by decide)) (sk hS 26 (by decide) rfl) rfl (by decide) (r_26_2 hS) ?_
                refine q_iload rfl ?_
                obtain ⟨⟨u_283, v_283⟩, h⟩ := ite_some h
                refine q_ialN (Int32.toNatClampNeg i11) (nx u_283) (zl hS 29 (by decide)) (sk hS 29 (by decide) rfl) v_283 (by decide) ?_
                obtain ⟨d_284, h⟩ := ite_some h
                obtain ⟨⟨x2_284, I2_284, L2_284⟩, e_284, h⟩ := Option.bind_eq_some_iff.mp h
                dsimp only at h
                refine q_fs3I (a_113 X hS (d := d - 1) (by omega) e_284) (by omega) (Nat.le_refl _) (Nat.le_refl _) rfl (Nat.le_of_ble_eq_true rfl) ?_
                obtain ⟨⟨⟨z_287, k_287, m_287⟩, u_287, v_287⟩, h⟩ := ite_some h
                refine q_iasN (Int32.toNatClampNeg v_121) (nx u_287) z_287 (fst_eq k_287) v_287 m_287 ?_
                obtain ⟨I_287, nI_287, h⟩ := stI_some h
                refine q_nI nI_287 ?_
                refine q_end ?_
                exact (ih dp d hdp _ _ i1 i2 i3 i4 i7 i8 i9 i10 i11 x0_74 v_99 x1_107 v_121 _ _ _).2.2 h
            · rw [if_neg c_201] at h
              refine q_aload rfl ?_
              obtain ⟨b_205, r_205, h⟩ := Option.bind_eq_some_iff.mp h
              refine q_getRs (c0 := 4) (j := 5) rfl rfl (zl hS 44 (by decide)) (sk hS 44 (by decide) rfl) rfl (by decide) r_205 ?_
              refine q_iload rfl ?_
              refine q_iload rfl ?_
              obtain ⟨⟨⟨z_212, k_212, m_212⟩, u_212, v_212⟩, h⟩ := ite_some h
              refine q_iasN (Int32.toNatClampNeg v_121) (nx u_212) z_212 (fst_eq k_212) v_212 m_212 ?_
              obtain ⟨I_212, nI_212, h⟩ := stI_some h
              refine q_nI nI_212 ?_
              refine q_aload rfl ?_
              obtain ⟨b_214, r_214, h⟩ := Option.bind_eq_some_iff.mp h
              refine q_getRs (c0 := 4) (j := 6) rfl rfl (zl hS 44 (by decide)) (sk hS 44 (by decide) rfl) rfl (by decide) r_214 ?_
              refine q_iload rfl ?_
              refine q_iconst (0) (by decide) ?_
              refine q_aload rfl ?_
              obtain ⟨b_221, r_221, h⟩ := Option.bind_eq_some_iff.mp h
              refine q_getRs (c0 := 4) (j := 6) rfl rfl (zl hS 44 (by decide)) (sk hS 44 (by decide) rfl) rfl (by decide) r_221 ?_
              refine q_iload rfl ?_
              obtain ⟨⟨⟨z_225, k_225, m_225⟩, u_225, v_225⟩, h⟩ := ite_some h
              refine q_ialN (Int32.toNatClampNeg i1) (nx u_225) z_225 (fst_eq k_225) v_225 m_225 ?_
              refine q_aload rfl ?_
              refine q_getRs (c0 := 4) (j := 0) rfl rfl (zl hS 44 (by decide)) (sk hS 44 (by decide) rfl) rfl (by decide) (r_44_0 hS) ?_
              refine q_getRs (c0 := 6) (j := 2) rfl rfl (zl hS 26 (by decide)) (sk hS 26 (by decide) rfl) rfl (by decide) (r_26_2 hS) ?_
              refine q_iload rfl ?_
              obtain ⟨⟨u_235, v_235⟩, h⟩ := ite_some h
              refine q_ialN (Int32.toNatClampNeg i11) (nx u_235) (zl hS 29 (by decide)) (sk hS 29 (by decide) rfl) v_235 (by decide) ?_
              obtain ⟨d_236, h⟩ := ite_some h
              obtain ⟨⟨x2_236, I2_236, L2_236⟩, e_236, h⟩ := Option.bind_eq_some_iff.mp h
              dsimp only at h
              refine q_fs3I (a_113 X hS (d := d - 1) (by omega) e_236) (by omega) (Nat.le_refl _) (Nat.le_refl _) rfl (Nat.le_of_ble_eq_true rfl) ?_
              obtain ⟨⟨⟨z_239, k_239, m_239⟩, u_239, v_239⟩, h⟩ := ite_some h
              refine q_iasN (Int32.toNatClampNeg v_121) (nx u_239) z_239 (fst_eq k_239) v_239 m_239 ?_
              obtain ⟨I_239, nI_239, h⟩ := stI_some h
              refine q_nI nI_239 ?_
              refine q_goto ?_
              exact (ih dp d hdp _ _ i1 i2 i3 i4 i7 i8 i9 i10 i11 x0_74 v_99 x1_107 v_121 _ _ _).2.2 h
          · rw [if_neg c_125] at h
            refine q_iload rfl ?_
            refine q_istore (ls1 := [some (.ref 44), some (.int i1), some (.int i2), some (.int i3), some (.int i4), some (.ref 27), some (.ref 28), some (.int i7), some (.int i8), some (.int i9), some (.int i10), some (.int i11), some (.int x0_74), some (.int v_99), some (.int x1_107), some (.int i9)]) (Nat.le_of_ble_eq_true rfl) rfl ?_
            refine q_iinc (ls1 := [some (.ref 44), some (.int i1), some (.int i2), some (.int i3), some (.int i4), some (.ref 27), some (.ref 28), some (.int i7), some (.int i8), some (.int (i9 + Int32.ofInt (1))), some (.int i10), some (.int i11), some (.int x0_74), some (.int v_99), some (.int x1_107), some (.int i9)]) rfl rfl ?_
            refine q_aload rfl ?_
            obtain ⟨b_136, r_136, h⟩ := Option.bind_eq_some_iff.mp h
            refine q_getRs (c0 := 4) (j := 7) rfl rfl (zl hS 44 (by decide)) (sk hS 44 (by decide) rfl) rfl (by decide) r_136 ?_
            refine q_iload rfl ?_
            refine q_iload rfl ?_
            obtain ⟨⟨⟨z_143, k_143, m_143⟩, u_143, v_143⟩, h⟩ := ite_some h
            refine q_iasN (Int32.toNatClampNeg x1_107) (nx u_143) z_143 (fst_eq k_143) v_143 m_143 ?_
            obtain ⟨I_143, nI_143, h⟩ := stI_some h
            refine q_nI nI_143 ?_
            refine q_aload rfl ?_
            obtain ⟨b_145, r_145, h⟩ := Option.bind_eq_some_iff.mp h
            refine q_getRs (c0 := 4) (j := 4) rfl rfl (zl hS 44 (by decide)) (sk hS 44 (by decide) rfl) rfl (by decide) r_145 ?_
            refine q_iload rfl ?_
            refine q_iload rfl ?_
            obtain ⟨⟨⟨z_152, k_152, m_152⟩, u_152, v_152⟩, h⟩ := ite_some h
            refine q_iasN (Int32.toNatClampNeg i9) (nx u_152) z_152 (fst_eq k_152) v_152 m_152 ?_
            obtain ⟨I_152, nI_152, h⟩ := stI_some h
            refine q_nI nI_152 ?_
            refine q_aload rfl ?_
            obtain ⟨b_154, r_154, h⟩ := Option.bind_eq_some_iff.mp h
            refine q_getRs (c0 := 4) (j := 5) rfl rfl (zl hS 44 (by decide)) (sk hS 44 (by decide) rfl) rfl (by decide) r_154 ?_
            refine q_iload rfl ?_
            refine q_iload rfl ?_
            obtain ⟨⟨⟨z_161, k_161, m_161⟩, u_161, v_161⟩, h⟩ := ite_some h
            refine q_iasN (Int32.toNatClampNeg i9) (nx u_161) z_161 (fst_eq k_161) v_161 m_161 ?_
            obtain ⟨I_161, nI_161, h⟩ := stI_some h
            refine q_nI nI_161 ?_
            refine q_aload rfl ?_
            obtain ⟨b_163, r_163, h⟩ := Option.bind_eq_some_iff.mp h
            refine q_getRs (c0 := 4) (j := 6) rfl rfl (zl hS 44 (by decide)) (sk hS 44 (by decide) rfl) rfl (by decide) r_163 ?_
            refine q_iload rfl ?_
            refine q_iconst (0) (by decide) ?_
            refine q_aload rfl ?_
            obtain ⟨b_170, r_170, h⟩ := Option.bind_eq_some_iff.mp h
            refine q_getRs (c0 := 4) (j := 6) rfl rfl (zl hS 44 (by decide)) (sk hS 44 (by decide) rfl) rfl (by decide) r_170 ?_
            refine q_iload rfl ?_
            obtain ⟨⟨⟨z_174, k_174, m_174⟩, u_174, v_174⟩, h⟩ := ite_some h
            refine q_ialN (Int32.toNatClampNeg i1) (nx u_174) z_174 (fst_eq k_174) v_174 m_174 ?_
            refine q_aload rfl ?_
            refine q_getRs (c0 := 4) (j := 0) rfl rfl (zl hS 44 (by decide)) (sk hS 44 (by decide) rfl) rfl (by decide) (r_44_0 hS) ?_
            refine q_getRs (c0 := 6) (j := 2) rfl rfl (zl hS 26 (by decide)) (sk hS 26 (by decide) rfl) rfl (by decide) (r_26_2 hS) ?_
            refine q_iload rfl ?_
            obtain ⟨⟨u_184, v_184⟩, h⟩ := ite_some h
            refine q_ialN (Int32.toNatClampNeg i11) (nx u_184) (zl hS 29 (by decide)) (sk hS 29 (by decide) rfl) v_184 (by decide) ?_
            obtain ⟨d_185, h⟩ := ite_some h
            obtain ⟨⟨x2_185, I2_185, L2_185⟩, e_185, h⟩ := Option.bind_eq_some_iff.mp h
            dsimp only at h
            refine q_fs3I (a_113 X hS (d := d - 1) (by omega) e_185) (by omega) (Nat.le_refl _) (Nat.le_refl _) rfl (Nat.le_of_ble_eq_true rfl) ?_
            obtain ⟨⟨⟨z_188, k_188, m_188⟩, u_188, v_188⟩, h⟩ := ite_some h
            refine q_iasN (Int32.toNatClampNeg i9) (nx u_188) z_188 (fst_eq k_188) v_188 m_188 ?_
            obtain ⟨I_188, nI_188, h⟩ := stI_some h
            refine q_nI nI_188 ?_
            refine q_goto ?_
            exact (ih dp d hdp _ _ i1 i2 i3 i4 i7 i8 (i9 + Int32.ofInt (1)) i10 i11 x0_74 v_99 x1_107 i9 _ _ _).2.2 h
        · rw [if_pos c_90] at h
          refine q_iconst (1) (by decide) ?_
          refine q_goto ?_
          refine K_of b_110_98 h_110_98 ?_
          refine q_iadd ?_
          obtain ⟨v_99, nv_99, h⟩ := stI_some h
          refine q_eqi nv_99.symm ?_
          refine q_istore (ls1 := [some (.ref 44), some (.int i1), some (.int i2), some (.int i3), some (.int i4), some (.ref 27), some (.ref 28), some (.int i7), some (.int i8), some (.int i9), some (.int i10), some (.int i11), some (.int x0_74), some (.int v_99), none, none]) (Nat.le_of_ble_eq_true rfl) rfl ?_
          refine q_aload rfl ?_
          refine q_getRs (c0 := 4) (j := 0) rfl rfl (zl hS 44 (by decide)) (sk hS 44 (by decide) rfl) rfl (by decide) (r_44_0 hS) ?_
          refine q_iload rfl ?_
          obtain ⟨d_107, h⟩ := ite_some h
          obtain ⟨⟨x1_107, I1_107, L1_107⟩, e_107, h⟩ := Option.bind_eq_some_iff.mp h
          dsimp only at h
          refine q_fv2I (a_112 X hS (d := d - 1) (by omega) e_107) (by omega) (Nat.le_refl _) (Nat.le_refl _) rfl (Nat.le_of_ble_eq_true rfl) ⟨(zl hS 26 (by decide)), congrArg Prod.fst (sk hS 26 (by decide) rfl), by decide⟩ ?_
          refine q_istore (ls1 := [some (.ref 44), some (.int i1), some (.int i2), some (.int i3), some (.int i4), some (.ref 27), some (.ref 28), some (.int i7), some (.int i8), some (.int i9), some (.int i10), some (.int i11), some (.int x0_74), some (.int v_99), some (.int x1_107), none]) (Nat.le_of_ble_eq_true rfl) rfl ?_
          refine q_aload rfl ?_
          obtain ⟨b_113, r_113, h⟩ := Option.bind_eq_some_iff.mp h
          refine q_getRs (c0 := 4) (j := 7) rfl rfl (zl hS 44 (by decide)) (sk hS 44 (by decide) rfl) rfl (by decide) r_113 ?_
          refine q_iload rfl ?_
          obtain ⟨⟨⟨z_118, k_118, m_118⟩, u_118, v_118⟩, h⟩ := ite_some h
          refine q_ialN (Int32.toNatClampNeg x1_107) (nx u_118) z_118 (fst_eq k_118) v_118 m_118 ?_
          refine q_iconst (1) (by decide) ?_
          refine q_isub ?_
          obtain ⟨v_121, nv_121, h⟩ := stI_some h
          refine q_eqi nv_121.symm ?_
          refine q_istore (ls1 := [some (.ref 44), some (.int i1), some (.int i2), some (.int i3), some (.int i4), some (.ref 27), some (.ref 28), some (.int i7), some (.int i8), some (.int i9), some (.int i10), some (.int i11), some (.int x0_74), some (.int v_99), some (.int x1_107), some (.int v_121)]) (Nat.le_of_ble_eq_true rfl) rfl ?_
          refine q_iload rfl ?_
          refine q_if_ge (fun c_125 => ?_) (fun c_125 => ?_)
          · rw [if_pos c_125] at h
            refine K_of b_110_192 h_110_192 ?_
            refine q_iload rfl ?_
            refine q_aload rfl ?_
            obtain ⟨b_195, r_195, h⟩ := Option.bind_eq_some_iff.mp h
            refine q_getRs (c0 := 4) (j := 5) rfl rfl (zl hS 44 (by decide)) (sk hS 44 (by decide) rfl) rfl (by decide) r_195 ?_
            refine q_iload rfl ?_
            obtain ⟨⟨⟨z_200, k_200, m_200⟩, u_200, v_200⟩, h⟩ := ite_some h
            refine q_ialN (Int32.toNatClampNeg v_121) (nx u_200) z_200 (fst_eq k_200) v_200 m_200 ?_
            refine q_icmp_le (fun c_201 => ?_) (fun c_201 => ?_)
            · rw [if_pos c_201] at h
              refine K_of b_110_243 h_110_243 ?_
              refine q_iload rfl ?_
              refine q_aload rfl ?_
              obtain ⟨b_246, r_246, h⟩ := Option.bind_eq_some_iff.mp h
              refine q_getRs (c0 := 4) (j := 5) rfl rfl (zl hS 44 (by decide)) (sk hS 44 (by decide) rfl) rfl (by decide) r_246 ?_
              refine q_iload rfl ?_
              obtain ⟨⟨⟨z_251, k_251, m_251⟩, u_251, v_251⟩, h⟩ := ite_some h
              refine q_ialN (Int32.toNatClampNeg v_121) (nx u_251) z_251 (fst_eq k_251) v_251 m_251 ?_
              refine q_icmp_ne (fun c_252 => ?_) (fun c_252 => ?_)
              · rw [if_neg c_252] at h
                exact (ih dp d hdp _ _ i1 i2 i3 i4 i7 i8 i9 i10 i11 x0_74 v_99 x1_107 v_121 _ _ _).2.2 h
              · rw [if_pos c_252] at h
                refine q_aload rfl ?_
                obtain ⟨b_256, r_256, h⟩ := Option.bind_eq_some_iff.mp h
                refine q_getRs (c0 := 4) (j := 6) rfl rfl (zl hS 44 (by decide)) (sk hS 44 (by decide) rfl) rfl (by decide) r_256 ?_
                refine q_iload rfl ?_
                refine q_aload rfl ?_
                obtain ⟨b_262, r_262, h⟩ := Option.bind_eq_some_iff.mp h
                refine q_getRs (c0 := 4) (j := 6) rfl rfl (zl hS 44 (by decide)) (sk hS 44 (by decide) rfl) rfl (by decide) r_262 ?_
                refine q_iload rfl ?_
                obtain ⟨⟨⟨z_267, k_267, m_267⟩, u_267, v_267⟩, h⟩ := ite_some h
                refine q_ialN (Int32.toNatClampNeg v_121) (nx u_267) z_267 (fst_eq k_267) v_267 m_267 ?_
                refine q_aload rfl ?_
                obtain ⟨b_269, r_269, h⟩ := Option.bind_eq_some_iff.mp h
                refine q_getRs (c0 := 4) (j := 6) rfl rfl (zl hS 44 (by decide)) (sk hS 44 (by decide) rfl) rfl (by decide) r_269 ?_
                refine q_iload rfl ?_
                obtain ⟨⟨⟨z_273, k_273, m_273⟩, u_273, v_273⟩, h⟩ := ite_some h
                refine q_ialN (Int32.toNatClampNeg i1) (nx u_273) z_273 (fst_eq k_273) v_273 m_273 ?_
                refine q_aload rfl ?_
                refine q_getRs (c0 := 4) (j := 0) rfl rfl (zl hS 44 (by decide)) (sk hS 44 (by decide) rfl) rfl (by decide) (r_44_0 hS) ?_
                refine q_getRs (c0 := 6) (j := 2) rfl rfl (zl hS 26 (by decide)) (sk hS 26 (by decide) rfl) rfl (by decide) (r_26_2 hS) ?_
                refine q_iload rfl ?_
                obtain ⟨⟨u_283, v_283⟩, h⟩ := ite_some h
                refine q_ialN (Int32.toNatClampNeg i11) (nx u_283) (zl hS 29 (by decide)) (sk hS 29 (by decide) rfl) v_283 (by decide) ?_
                obtain ⟨d_284, h⟩ := ite_some h
                obtain ⟨⟨x2_284, I2_284, L2_284⟩, e_284, h⟩ := Option.bind_eq_some_iff.mp h
                dsimp only at h
                refine q_fs3I (a_113 X hS (d := d - 1) (by omega) e_284) (by omega) (Nat.le_refl _) (Nat.le_refl _) rfl (Nat.le_of_ble_eq_true rfl) ?_
                obtain ⟨⟨⟨z_287, k_287, m_287⟩, u_287, v_287⟩, h⟩ := ite_some h
                refine q_iasN (Int32.toNatClampNeg v_121) (nx u_287) z_287 (fst_eq k_287) v_287 m_287 ?_
                obtain ⟨I_287, nI_287, h⟩ := stI_some h
                refine q_nI nI_287 ?_
                refine q_end ?_
                exact (ih dp d hdp _ _ i1 i2 i3 i4 i7 i8 i9 i10 i11 x0_74 v_99 x1_107 v_121 _ _ _).2.2 h
            · rw [if_neg c_201] at h
              refine q_aload rfl ?_
              obtain ⟨b_205, r_205, h⟩ := Option.bind_eq_some_iff.mp h
              refine q_getRs (c0 := 4) (j := 5) rfl rfl (zl hS 44 (by decide)) (sk hS 44 (by decide) rfl) rfl (by decide) r_205 ?_
              refine q_iload rfl ?_
              refine q_iload rfl ?_
              obtain ⟨⟨⟨z_212, k_212, m_212⟩, u_212, v_212⟩, h⟩ := ite_some h
              refine q_iasN (Int32.toNatClampNeg v_121) (nx u_212) z_212 (fst_eq k_212) v_212 m_212 ?_
              obtain ⟨I_212, nI_212, h⟩ := stI_some h
              refine q_nI nI_212 ?_
              refine q_aload rfl ?_
              obtain ⟨b_214, r_214, h⟩ := Option.bind_eq_some_iff.mp h
              refine q_getRs (c0 := 4) (j := 6) rfl rfl (zl hS 44 (by decide)) (sk hS 44 (by decide) rfl) rfl (by decide) r_214 ?_
              refine q_iload rfl ?_
              refine q_iconst (0) (by decide) ?_
              refine q_aload rfl ?_
              obtain ⟨b_221, r_221, h⟩ := Option.bind_eq_some_iff.mp h
              refine q_getRs (c0 := 4) (j := 6) rfl rfl (zl hS 44 (by decide)) (sk hS 44 (by decide) rfl) rfl (by decide) r_221 ?_
              refine q_iload rfl ?_
              obtain ⟨⟨⟨z_225, k_225, m_225⟩, u_225, v_225⟩, h⟩ := ite_some h
              refine q_ialN (Int32.toNatClampNeg i1) (nx u_225) z_225 (fst_eq k_225) v_225 m_225 ?_
              refine q_aload rfl ?_
              refine q_getRs (c0 := 4) (j := 0) rfl rfl (zl hS 44 (by decide)) (sk hS 44 (by decide) rfl) rfl (by decide) (r_44_0 hS) ?_
              refine q_getRs (c0 := 6) (j := 2) rfl rfl (zl hS 26 (by decide)) (sk hS 26 (by decide) rfl) rfl (by decide) (r_26_2 hS) ?_
              refine q_iload rfl ?_
              obtain ⟨⟨u_235, v_235⟩, h⟩ := ite_some h
              refine q_ialN (Int32.toNatClampNeg i11) (nx u_235) (zl hS 29 (by decide)) (sk hS 29 (by decide) rfl) v_235 (by decide) ?_
              obtain ⟨d_236, h⟩ := ite_some h
              obtain ⟨⟨x2_236, I2_236, L2_236⟩, e_236, h⟩ := Option.bind_eq_some_iff.mp h
              dsimp only at h
              refine q_fs3I (a_113 X hS (d := d - 1) (by omega) e_236) (by omega) (Nat.le_refl _) (Nat.le_refl _) rfl (Nat.le_of_ble_eq_true rfl) ?_
              obtain ⟨⟨⟨z_239, k_239, m_239⟩, u_239, v_239⟩, h⟩ := ite_some h
              refine q_iasN (Int32.toNatClampNeg v_121) (nx u_239) z_239 (fst_eq k_239) v_239 m_239 ?_
              obtain ⟨I_239, nI_239, h⟩ := stI_some h
              refine q_nI nI_239 ?_
              refine q_goto ?_
              exact (ih dp d hdp _ _ i1 i2 i3 i4 i7 i8 i9 i10 i11 x0_74 v_99 x1_107 v_121 _ _ _).2.2 h
          · rw [if_neg c_125] at h
            refine q_iload rfl ?_
            refine q_istore (ls1 := [some (.ref 44), some (.int i1), some (.int i2), some (.int i3), some (.int i4), some (.ref 27), some (.ref 28), some (.int i7), some (.int i8), some (.int i9), some (.int i10), some (.int i11), some (.int x0_74), some (.int v_99), some (.int x1_107), some (.int i9)]) (Nat.le_of_ble_eq_true rfl) rfl ?_
            refine q_iinc (ls1 := [some (.ref 44), some (.int i1), some (.int i2), some (.int i3), some (.int i4), some (.ref 27), some (.ref 28), some (.int i7), some (.int i8), some (.int (i9 + Int32.ofInt (1))), some (.int i10), some (.int i11), some (.int x0_74), some (.int v_99), some (.int x1_107), some (.int i9)]) rfl rfl ?_
            refine q_aload rfl ?_
            obtain ⟨b_136, r_136, h⟩ := Option.bind_eq_some_iff.mp h
            refine q_getRs (c0 := 4) (j := 7) rfl rfl (zl hS 44 (by decide)) (sk hS 44 (by decide) rfl) rfl (by decide) r_136 ?_
            refine q_iload rfl ?_
            refine q_iload rfl ?_
            obtain ⟨⟨⟨z_143, k_143, m_143⟩, u_143, v_143⟩, h⟩ := ite_some h
            refine q_iasN (Int32.toNatClampNeg x1_107) (nx u_143) z_143 (fst_eq k_143) v_143 m_143 ?_
            obtain ⟨I_143, nI_143, h⟩ := stI_some h
            refine q_nI nI_143 ?_
            refine q_aload rfl ?_
            obtain ⟨b_145, r_145, h⟩ := Option.bind_eq_some_iff.mp h
            refine q_getRs (c0 := 4) (j := 4) rfl rfl (zl hS 44 (by decide)) (sk hS 44 (by decide) rfl) rfl (by decide) r_145 ?_
            refine q_iload rfl ?_
            refine q_iload rfl ?_
            obtain ⟨⟨⟨z_152, k_152, m_152⟩, u_152, v_152⟩, h⟩ := ite_some h
            refine q_iasN (Int32.toNatClampNeg i9) (nx u_152) z_152 (fst_eq k_152) v_152 m_152 ?_
            obtain ⟨I_152, nI_152, h⟩ := stI_some h
            refine q_nI nI_152 ?_
            refine q_aload rfl ?_
            obtain ⟨b_154, r_154, h⟩ := Option.bind_eq_some_iff.mp h
            refine q_getRs (c0 := 4) (j := 5) rfl rfl (zl hS 44 (by decide)) (sk hS 44 (by decide) rfl) rfl (by decide) r_154 ?_
            refine q_iload rfl ?_
            refine q_iload rfl ?_
            obtain ⟨⟨⟨z_161, k_161, m_161⟩, u_161, v_161⟩, h⟩ := ite_some h
            refine q_iasN (Int32.toNatClampNeg i9) (nx u_161) z_161 (fst_eq k_161) v_161 m_161 ?_
            obtain ⟨I_161, nI_161, h⟩ := stI_some h
            refine q_nI nI_161 ?_
            refine q_aload rfl ?_
            obtain ⟨b_163, r_163, h⟩ := Option.bind_eq_some_iff.mp h
            refine q_getRs (c0 := 4) (j := 6) rfl rfl (zl hS 44 (by decide)) (sk hS 44 (by decide) rfl) rfl (by decide) r_163 ?_
            refine q_iload rfl ?_
            refine q_iconst (0) (by decide) ?_
            refine q_aload rfl ?_
            obtain ⟨b_170, r_170, h⟩ := Option.bind_eq_some_iff.mp h
            refine q_getRs (c0 := 4) (j := 6) rfl rfl (zl hS 44 (by decide)) (sk hS 44 (by decide) rfl) rfl (by decide) r_170 ?_
            refine q_iload rfl ?_
            obtain ⟨⟨⟨z_174, k_174, m_174⟩, u_174, v_174⟩, h⟩ := ite_some h
            refine q_ialN (Int32.toNatClampNeg i1) (nx u_174) z_174 (fst_eq k_174) v_174 m_174 ?_
            refine q_aload rfl ?_
            refine q_getRs (c0 := 4) (j := 0) rfl rfl (zl hS 44 (by decide)) (sk hS 44 (by decide) rfl) rfl (by decide) (r_44_0 hS) ?_
            refine q_getRs (c0 := 6) (j := 2) rfl rfl (zl hS 26 (by decide)) (sk hS 26 (by decide) rfl) rfl (by decide) (r_26_2 hS) ?_
            refine q_iload rfl ?_
            obtain ⟨⟨u_184, v_184⟩, h⟩ := ite_some h
            refine q_ialN (Int32.toNatClampNeg i11) (nx u_184) (zl hS 29 (by decide)) (sk hS 29 (by decide) rfl) v_184 (by decide) ?_
            obtain ⟨d_185, h⟩ := ite_some h
            obtain ⟨⟨x2_185, I2_185, L2_185⟩, e_185, h⟩ := Option.bind_eq_some_iff.mp h
            dsimp only at h
            refine q_fs3I (a_113 X hS (d := d - 1) (by omega) e_185) (by omega) (Nat.le_refl _) (Nat.le_refl _) rfl (Nat.le_of_ble_eq_true rfl) ?_
            obtain ⟨⟨⟨z_188, k_188, m_188⟩, u_188, v_188⟩, h⟩ := ite_some h
            refine q_iasN (Int32.toNatClampNeg i9) (nx u_188) z_188 (fst_eq k_188) v_188 m_188 ?_
            obtain ⟨I_188, nI_188, h⟩ := stI_some h
            refine q_nI nI_188 ?_
            refine q_goto ?_
            exact (ih dp d hdp _ _ i1 i2 i3 i4 i7 i8 (i9 + Int32.ofInt (1)) i10 i11 x0_74 v_99 x1_107 i9 _ _ _).2.2 h
    · intro h
      rw [e_110_2] at h
      refine K_of b_110_288 h_110_288 ?_
      refine q_iinc (ls1 := [some (.ref 44), some (.int i1), some (.int i2), some (.int i3), some (.int i4), some (.ref 27), some (.ref 28), some (.int i7), some (.int i8), some (.int i9), some (.int i10), some (.int (i11 + Int32.ofInt (1))), some (.int i12), some (.int i13), some (.int i14), some (.int i15)]) rfl rfl ?_
      refine q_goto ?_
      refine K_mask [true, true, true, true, true, true, true, true, true, true, true, true, false, false, false, false] (Nat.le_of_ble_eq_true rfl) ?_
      exact (ih dp d hdp _ _ i1 i2 i3 i4 i7 i8 i9 i10 (i11 + Int32.ofInt (1)) 0 0 0 0 _ _ _).2.1 h
theorem a_110 (X : GX) {z : Nat} {kd : Nat → Nat × Nat} {Rf : Nat → Nat → Option Nat} (hS : Sh z kd Rf) {n dp d : Nat} (hd : dp ≤ d) {I : (Nat → Nat → Int32)} {L : (Nat → Nat → Int64)} {i1 : Int32} {i2 : Int32} {i3 : Int32} {i4 : Int32} {I1 : (Nat → Nat → Int32)} {L1 : (Nat → Nat → Int64)} {r : Int32} (h : g_110 n dp (z, kd, Rf) 0 I L i1 i2 i3 i4 0 0 0 0 0 0 0 0 0 = some (r, I1, L1)) : Ct X d 110 0 0 [.ref 44, .int i1, .int i2, .int i3, .int i4] (z, kd, I, L, Rf) (AI (fun x τ => x = r ∧ τ = (z, kd, I1, L1, Rf))) :=
  Ct_of mu_110 (Nat.le_of_ble_eq_true rfl) ((w_110 X hS n dp d hd I L i1 i2 i3 i4 0 0 0 0 0 0 0 0 0 _ _ _).1 h)

/-! 116 CutFloor$Offers.bonusOf(I)I -/
set_option maxHeartbeats 4000000 in
set_option maxRecDepth 100000 in
def g_116 : Nat → Nat → EN → Nat → (Nat → Nat → Int32) → (Nat → Nat → Int64) → Int32 →  Option (Int32 × (Nat → Nat → Int32) × (Nat → Nat → Int64))
  | 0, _, _, _, _, _, _ => none
  | n + 1, dp, e, lab, I, L, i1 =>
    if lab = 0 then (if 0 ≤ (i1 &&& (1023 : Int32)) ∧ (Int32.toNatClampNeg (i1 &&& (1023 : Int32))) < 1024 then (if 0 ≤ ((Int32.toUInt32 i1 >>> (Int32.toUInt32 (10 : Int32) &&& Int32.toUInt32 31)).toInt32 &&& (1023 : Int32)) ∧ (Int32.toNatClampNeg ((Int32.toUInt32 i1 >>> (Int32.toUInt32 (10 : Int32) &&& Int32.toUInt32 31)).toInt32 &&& (1023 : Int32))) < 1024 then (if 0 ≤ ((Int32.toUInt32 i1 >>> (Int32.toUInt32 (20 : Int32) &&& Int32.toUInt32 31)).toInt32 &&& (31 : Int32)) ∧ (Int32.toNatClampNeg ((Int32.toUInt32 i1 >>> (Int32.toUInt32 (20 : Int32) &&& Int32.toUInt32 31)).toInt32 &&& (31 : Int32))) < 32 then (some ((((I 41 (Int32.toNatClampNeg (i1 &&& (1023 : Int32)))) + (I 42 (Int32.toNatClampNeg ((Int32.toUInt32 i1 >>> (Int32.toUInt32 (10 : Int32) &&& Int32.toUInt32 31)).toInt32 &&& (1023 : Int32))))) + (I 43 (Int32.toNatClampNeg ((Int32.toUInt32 i1 >>> (Int32.toUInt32 (20 : Int32) &&& Int32.toUInt32 31)).toInt32 &&& (31 : Int32))))), I, L)) else none) else none) else none)
    else none
set_option maxRecDepth 100000 in
theorem e_116_0 (n dp : Nat) (e : EN) (I : (Nat → Nat → Int32)) (L : (Nat → Nat → Int64)) (i1 : Int32) : g_116 (n + 1) dp e 0 I L i1 = (if 0 ≤ (i1 &&& (1023 : Int32)) ∧ (Int32.toNatClampNeg (i1 &&& (1023 : Int32))) < 1024 then (if 0 ≤ ((Int32.toUInt32 i1 >>> (Int32.toUInt32 (10 : Int32) &&& Int32.toUInt32 31)).toInt32 &&& (1023 : Int32)) ∧ (Int32.toNatClampNeg ((Int32.toUInt32 i1 >>> (Int32.toUInt32 (10 : Int32) &&& Int32.toUInt32 31)).toInt32 &&& (1023 : Int32))) < 1024 then (if 0 ≤ ((Int32.toUInt32 i1 >>> (Int32.toUInt32 (20 : Int32) &&& Int32.toUInt32 31)).toInt32 &&& (31 : Int32)) ∧ (Int32.toNatClampNeg ((Int32.toUInt32 i1 >>> (Int32.toUInt32 (20 : Int32) &&& Int32.toUInt32 31)).toInt32 &&& (31 : Int32))) < 32 then (some ((((I 41 (Int32.toNatClampNeg (i1 &&& (1023 : Int32)))) + (I 42 (Int32.toNatClampNeg ((Int32.toUInt32 i1 >>> (Int32.toUInt32 (10 : Int32) &&& Int32.toUInt32 31)).toInt32 &&& (1023 : Int32))))) + (I 43 (Int32.toNatClampNeg ((Int32.toUInt32 i1 >>> (Int32.toUInt32 (20 : Int32) &&& Int32.toUInt32 31)).toInt32 &&& (31 : Int32))))), I, L)) else none) else none) else none) := by rw [g_116.eq_2, if_pos (show (0 : Nat) = 0 from rfl)]
set_option maxHeartbeats 8000000 in
set_option maxRecDepth 100000 in
theorem w_116 (X : GX) {z : Nat} {kd : Nat → Nat × Nat} {Rf : Nat → Nat → Option Nat} (hS : Sh z kd Rf) : ∀ (n dp d : Nat), dp ≤ d → ∀ (I : (Nat → Nat → Int32)) (L : (Nat → Nat → Int64)) (i1 : Int32) (r : Int32) (I1 : (Nat → Nat → Int32)) (L1 : (Nat → Nat → Int64)), (g_116 n dp (z, kd, Rf) 0 I L i1 = some (r, I1, L1) → K X d 116 0 0 (AI (fun x τ => x = r ∧ τ = (z, kd, I1, L1, Rf))) 0 [some (.ref 26), some (.int i1)] [] (z, kd, I, L, Rf) 0 0) := by
  intro n
  induction n with
  | zero => intro dp d hdp I L i1 r I1 L1; exact fun h => by cases h
  | succ n ih =>
    intro dp d hdp I L i1 r I1 L1
    · intro h
      rw [e_116_0] at h
      refine K_of b_116_0 h_116_0 ?_
      refine q_aload rfl ?_
      refine q_getRs (c0 := 6) (j := 14) rfl rfl (zl hS 26 (by decide)) (sk hS 26 (by decide) rfl) rfl (by decide) (r_26_14 hS) ?_
      refine q_iload rfl ?_
      refine q_iconst (1023) (by decide) ?_
      refine q_iand ?_
      obtain ⟨⟨u_9, v_9⟩, h⟩ := ite_some h
      refine q_ialN (Int32.toNatClampNeg (i1 &&& (1023 : Int32))) (nx u_9) (zl hS 41 (by decide)) (sk hS 41 (by decide) rfl) v_9 (by decide) ?_
      refine q_aload rfl ?_
      refine q_getRs (c0 := 6) (j := 15) rfl rfl (zl hS 26 (by decide)) (sk hS 26 (by decide) rfl) rfl (by decide) (r_26_15 hS) ?_
      refine q_iload rfl ?_
      refine q_iconst (10) (by decide) ?_
      refine q_iushr ?_
      refine q_iconst (1023) (by decide) ?_
      refine q_iand ?_
      obtain ⟨⟨u_22, v_22⟩, h⟩ := ite_some h
      refine q_ialN (Int32.toNatClampNeg ((Int32.toUInt32 i1 >>> (Int32.toUInt32 (10 : Int32) &&& Int32.toUInt32 31)).toInt32 &&& (1023 : Int32))) (nx u_22) (zl hS 42 (by decide)) (sk hS 42 (by decide) rfl) v_22 (by decide) ?_
      refine q_iadd ?_
      refine q_aload rfl ?_
      refine q_getRs (c0 := 6) (j := 16) rfl rfl (zl hS 26 (by decide)) (sk hS 26 (by decide) rfl) rfl (by decide) (r_26_16 hS) ?_
      refine q_iload rfl ?_
      refine q_iconst (20) (by decide) ?_
      refine q_iushr ?_
      refine q_iconst (31) (by decide) ?_
      refine q_iand ?_
      obtain ⟨⟨u_35, v_35⟩, h⟩ := ite_some h
      refine q_ialN (Int32.toNatClampNeg ((Int32.toUInt32 i1 >>> (Int32.toUInt32 (20 : Int32) &&& Int32.toUInt32 31)).toInt32 &&& (31 : Int32))) (nx u_35) (zl hS 43 (by decide)) (sk hS 43 (by decide) rfl) v_35 (by decide) ?_
      refine q_iadd ?_
      cases h
      exact q_iret rfl (Nat.le_refl _) (Nat.le_refl _) ⟨rfl, rfl⟩
theorem a_116 (X : GX) {z : Nat} {kd : Nat → Nat × Nat} {Rf : Nat → Nat → Option Nat} (hS : Sh z kd Rf) {n dp d : Nat} (hd : dp ≤ d) {I : (Nat → Nat → Int32)} {L : (Nat → Nat → Int64)} {i1 : Int32} {I1 : (Nat → Nat → Int32)} {L1 : (Nat → Nat → Int64)} {r : Int32} (h : g_116 n dp (z, kd, Rf) 0 I L i1 = some (r, I1, L1)) : Ct X d 116 0 0 [.ref 26, .int i1] (z, kd, I, L, Rf) (AI (fun x τ => x = r ∧ τ = (z, kd, I1, L1, Rf))) :=
  Ct_of mu_116 (Nat.le_of_ble_eq_true rfl) ((w_116 X hS n dp d hd I L i1 _ _ _) h)

/-! 115 CutFloor$Layers.finish(II)V -/
set_option maxHeartbeats 4000000 in
set_option maxRecDepth 100000 in
def g_115 : Nat → Nat → EN → Nat → (Nat → Nat → Int32) → (Nat → Nat → Int64) → Int32 → Int32 → Int32 → Int32 → Int32 → Int32 → Int32 → Int32 → Int32 →  Option ((Nat → Nat → Int32) × (Nat → Nat → Int64))
  | 0, _, _, _, _, _, _, _, _, _, _, _, _, _, _ => none
  | n + 1, dp, e, lab, I, L, i1, i2, i3, i4, i5, i6, i7, i8, i9 =>
    if lab = 0 then (if 0 ≤ i1 ∧ (Int32.toNatClampNeg i1) < 3 then (stI ((i1 * (64 : Int32)) + (I 32 (Int32.toNatClampNeg i1))) (fun v_16 => (if 0 ≤ i1 ∧ (Int32.toNatClampNeg i1) < 3 then (stI ((I 33 (Int32.toNatClampNeg i1)) + (1 : Int32)) (fun v_29 => (stI (u2 I 44 8 (-1 : Int32)) (fun I_33 => (stI (u2 I_33 44 9 (0 : Int32)) (fun I_38 => (if 0 ≤ (I_38 44 3) ∧ (Int32.toNatClampNeg (I_38 44 3)) < 10 then (stI (I_38 45 (Int32.toNatClampNeg (I_38 44 3))) (fun v_50 => (g_115 n dp e 1 I_38 L i1 i2 (i1 * (64 : Int32)) v_16 v_29 v_50 0 0 0))) else none))))))) else none))) else none)
    else if lab = 1 then (if 0 ≤ ((I 44 3) + (1 : Int32)) ∧ (Int32.toNatClampNeg ((I 44 3) + (1 : Int32))) < 10 then (if (I 45 (Int32.toNatClampNeg ((I 44 3) + (1 : Int32)))) ≤ i6 then (some (I, L)) else ((e.2.2 44 4).bind (fun b_69 => (if (b_69 < e.1 ∧ (e.2.1 b_69).1 = 13 ∧ (e.2.1 b_69).2 < 2 ^ 31) ∧ 0 ≤ i6 ∧ (Int32.toNatClampNeg i6) < (e.2.1 b_69).2 then (stI (I b_69 (Int32.toNatClampNeg i6)) (fun v_75 => ((e.2.2 44 5).bind (fun b_78 => (if (b_78 < e.1 ∧ (e.2.1 b_78).1 = 13 ∧ (e.2.1 b_78).2 < 2 ^ 31) ∧ 0 ≤ i6 ∧ (Int32.toNatClampNeg i6) < (e.2.1 b_78).2 then (if 1 ≤ dp then (g_116 n (dp - 1) e 0 I L v_75).bind (fun ⟨x0_90, I0_90, L0_90⟩ => (if (I0_90 44 8) ≤ (((I b_78 (Int32.toNatClampNeg i6)) + x0_90) + i5) then (g_115 n dp e 2 I0_90 L0_90 i1 i2 i3 i4 i5 i6 v_75 i3 0) else (g_115 n dp e 4 I0_90 L0_90 i1 i2 i3 i4 i5 i6 v_75 0 0))) else none) else none))))) else none)))) else none)
    else if lab = 2 then (if i4 ≤ i8 then (g_115 n dp e 4 I L i1 i2 i3 i4 i5 i6 i7 0 0) else ((e.2.2 44 5).bind (fun b_118 => (if (b_118 < e.1 ∧ (e.2.1 b_118).1 = 13 ∧ (e.2.1 b_118).2 < 2 ^ 31) ∧ 0 ≤ i6 ∧ (Int32.toNatClampNeg i6) < (e.2.1 b_118).2 then (if 0 ≤ i8 ∧ (Int32.toNatClampNeg i8) < 192 then (if i8 = i2 then (if 0 ≤ i8 ∧ (Int32.toNatClampNeg i8) < 192 then (if 1 ≤ dp then (g_111 n (dp - 1) e 0 I L i7 (I 27 (Int32.toNatClampNeg i8))).bind (fun ⟨x0_163, I0_163, L0_163⟩ => (if 1 ≤ dp then (g_116 n (dp - 1) e 0 I0_163 L0_163 x0_163).bind (fun ⟨x1_166, I1_166, L1_166⟩ => (stI ((((I b_118 (Int32.toNatClampNeg i6)) + (I 28 (Int32.toNatClampNeg i8))) + (1 : Int32)) + x1_166) (fun v_170 => (if v_170 ≤ (I1_166 44 8) then (if v_170 = (I1_166 44 8) then ((e.2.2 44 6).bind (fun b_230 => (if (b_230 < e.1 ∧ (e.2.1 b_230).1 = 13 ∧ (e.2.1 b_230).2 < 2 ^ 31) ∧ 0 ≤ i6 ∧ (Int32.toNatClampNeg i6) < (e.2.1 b_230).2 then (if 0 ≤ i8 ∧ (Int32.toNatClampNeg i8) < 192 then (if 1 ≤ dp then (g_113 n (dp - 1) e 0 I1_166 L1_166 (I1_166 44 9) (I1_166 b_230 (Int32.toNatClampNeg i6)) (I1_166 29 (Int32.toNatClampNeg i8))).bind (fun ⟨x2_246, I2_246, L2_246⟩ => (stI (u2 I2_246 44 9 x2_246) (fun I_249 => (g_115 n dp e 3 I_249 L2_246 i1 i2 i3 i4 i5 i6 i7 i8 v_170)))) else none) else none) else none))) else (g_115 n dp e 3 I1_166 L1_166 i1 i2 i3 i4 i5 i6 i7 i8 v_170)) else (stI (u2 I1_166 44 8 v_170) (fun I_184 => ((e.2.2 44 6).bind (fun b_190 => (if (b_190 < e.1 ∧ (e.2.1 b_190).1 = 13 ∧ (e.2.1 b_190).2 < 2 ^ 31) ∧ 0 ≤ i6 ∧ (Int32.toNatClampNeg i6) < (e.2.1 b_190).2 then (if 0 ≤ i8 ∧ (Int32.toNatClampNeg i8) < 192 then (if 1 ≤ dp then (g_113 n (dp - 1) e 0 I_184 L1_166 (0 : Int32) (I_184 b_190 (Int32.toNatClampNeg i6)) (I_184 29 (Int32.toNatClampNeg i8))).bind (fun ⟨x2_206, I2_206, L2_206⟩ => (stI (u2 I2_206 44 9 x2_206) (fun I_209 => (g_115 n dp e 3 I_209 L2_206 i1 i2 i3 i4 i5 i6 i7 i8 v_170)))) else none) else none) else none))))))))) else none)) else none) else none) else (if 0 ≤ i8 ∧ (Int32.toNatClampNeg i8) < 192 then (if 1 ≤ dp then (g_111 n (dp - 1) e 0 I L i7 (I 27 (Int32.toNatClampNeg i8))).bind (fun ⟨x0_163, I0_163, L0_163⟩ => (if 1 ≤ dp then (g_116 n (dp - 1) e 0 I0_163 L0_163 x0_163).bind (fun ⟨x1_166, I1_166, L1_166⟩ => (stI ((((I b_118 (Int32.toNatClampNeg i6)) + (I 28 (Int32.toNatClampNeg i8))) + (0 : Int32)) + x1_166) (fun v_170 => (if v_170 ≤ (I1_166 44 8) then (if v_170 = (I1_166 44 8) then ((e.2.2 44 6).bind (fun b_230 => (if (b_230 < e.1 ∧ (e.2.1 b_230).1 = 13 ∧ (e.2.1 b_230).2 < 2 ^ 31) ∧ 0 ≤ i6 ∧ (Int32.toNatClampNeg i6) < (e.2.1 b_230).2 then (if 0 ≤ i8 ∧ (Int32.toNatClampNeg i8) < 192 then (if 1 ≤ dp then (g_113 n (dp - 1) e 0 I1_166 L1_166 (I1_166 44 9) (I1_166 b_230 (Int32.toNatClampNeg i6)) (I1_166 29 (Int32.toNatClampNeg i8))).bind (fun ⟨x2_246, I2_246, L2_246⟩ => (stI (u2 I2_246 44 9 x2_246) (fun I_249 => (g_115 n dp e 3 I_249 L2_246 i1 i2 i3 i4 i5 i6 i7 i8 v_170)))) else none) else none) else none))) else (g_115 n dp e 3 I1_166 L1_166 i1 i2 i3 i4 i5 i6 i7 i8 v_170)) else (stI (u2 I1_166 44 8 v_170) (fun I_184 => ((e.2.2 44 6).bind (fun b_190 => (if (b_190 < e.1 ∧ (e.2.1 b_190).1 = 13 ∧ (e.2.1 b_190).2 < 2 ^ 31) ∧ 0 ≤ i6 ∧ (Int32.toNatClampNeg i6) < (e.2.1 b_190).2 then (if 0 ≤ i8 ∧ (Int32.toNatClampNeg i8) < 192 then (if 1 ≤ dp then (g_113 n (dp - 1) e 0 I_184 L1_166 (0 : Int32) (I_184 b_190 (Int32.toNatClampNeg i6)) (I_184 29 (Int32.toNatClampNeg i8))).bind (fun ⟨x2_206, I2_206, L2_206⟩ => (stI (u2 I2_206 44 9 x2_206) (fun I_209 => (g_115 n dp e 3 I_209 L2_206 i1 i2 i3 i4 i5 i6 i7 i8 v_170)))) else none) else none) else none))))))))) else none)) else none) else none)) else none) else none))))
    else if lab = 3 then (g_115 n dp e 2 I L i1 i2 i3 i4 i5 i6 i7 (i8 + Int32.ofInt (1)) 0)
    else if lab = 4 then (g_115 n dp e 1 I L i1 i2 i3 i4 i5 (i6 + Int32.ofInt (1)) 0 0 0)
    else none
set_option maxRecDepth 100000 in
theorem e_115_0 (n dp : Nat) (e : EN) (I : (Nat → Nat → Int32)) (L : (Nat → Nat → Int64)) (i1 : Int32) (i2 : Int32) (i3 : Int32) (i4 : Int32) (i5 : Int32) (i6 : Int32) (i7 : Int32) (i8 : Int32) (i9 : Int32) : g_115 (n + 1) dp e 0 I L i1 i2 i3 i4 i5 i6 i7 i8 i9 = (if 0 ≤ i1 ∧ (Int32.toNatClampNeg i1) < 3 then (stI ((i1 * (64 : Int32)) + (I 32 (Int32.toNatClampNeg i1))) (fun v_16 => (if 0 ≤ i1 ∧ (Int32.toNatClampNeg i1) < 3 then (stI ((I 33 (Int32.toNatClampNeg i1)) + (1 : Int32)) (fun v_29 => (stI (u2 I 44 8 (-1 : Int32)) (fun I_33 => (stI (u2 I_33 44 9 (0 : Int32)) (fun I_38 => (if 0 ≤ (I_38 44 3) ∧ (Int32.toNatClampNeg (I_38 44 3)) < 10 then (stI (I_38 45 (Int32.toNatClampNeg (I_38 44 3))) (fun v_50 => (g_115 n dp e 1 I_38 L i1 i2 (i1 * (64 : Int32)) v_16 v_29 v_50 0 0 0))) else none))))))) else none))) else none) := by rw [g_115.eq_2, if_pos (show (0 : Nat) = 0 from rfl)]
set_option maxRecDepth 100000 in
theorem e_115_1 (n dp : Nat) (e : EN) (I : (Nat → Nat → Int32)) (L : (Nat → Nat → Int64)) (i1 : Int32) (i2 : Int32) (i3 : Int32) (i4 : Int32) (i5 : Int32) (i6 : Int32) (i7 : Int32) (i8 : Int32) (i9 : Int32) : g_115 (n + 1) dp e 1 I L i1 i2 i3 i4 i5 i6 i7 i8 i9 = (if 0 ≤ ((I 44 3) + (1 : Int32)) ∧ (Int32.toNatClampNeg ((I 44 3) + (1 : Int32))) < 10 then (if (I 45 (Int32.toNatClampNeg ((I 44 3) + (1 : Int32)))) ≤ i6 then (some (I, L)) else ((e.2.2 44 4).bind (fun b_69 => (if (b_69 < e.1 ∧ (e.2.1 b_69).1 = 13 ∧ (e.2.1 b_69).2 < 2 ^ 31) ∧ 0 ≤ i6 ∧ (Int32.toNatClampNeg i6) < (e.2.1 b_69).2 then (stI (I b_69 (Int32.toNatClampNeg i6)) (fun v_75 => ((e.2.2 44 5).bind (fun b_78 => (if (b_78 < e.1 ∧ (e.2.1 b_78).1 = 13 ∧ (e.2.1 b_78).2 < 2 ^ 31) ∧ 0 ≤ i6 ∧ (Int32.toNatClampNeg i6) < (e.2.1 b_78).2 then (if 1 ≤ dp then (g_116 n (dp - 1) e 0 I L v_75).bind (fun ⟨x0_90, I0_90, L0_90⟩ => (if (I0_90 44 8) ≤ (((I b_78 (Int32.toNatClampNeg i6)) + x0_90) + i5) then (g_115 n dp e 2 I0_90 L0_90 i1 i2 i3 i4 i5 i6 v_75 i3 0) else (g_115 n dp e 4 I0_90 L0_90 i1 i2 i3 i4 i5 i6 v_75 0 0))) else none) else none))))) else none)))) else none) := by rw [g_115.eq_2, if_neg (show ¬ ((1 : Nat) = 0) by decide), if_pos (show (1 : Nat) = 1 from rfl)]
set_option maxRecDepth 100000 in
theorem e_115_2 (n dp : Nat) (e : EN) (I : (Nat → Nat → Int32)) (L : (Nat → Nat → Int64)) (i1 : Int32) (i2 : Int32) (i3 : Int32) (i4 : Int32) (i5 : Int32) (i6 : Int32) (i7 : Int32) (i8 : Int32) (i9 : Int32) : g_115 (n + 1) dp e 2 I L i1 i2 i3 i4 i5 i6 i7 i8 i9 = (if i4 ≤ i8 then (g_115 n dp e 4 I L i1 i2 i3 i4 i5 i6 i7 0 0) else ((e.2.2 44 5).bind (fun b_118 => (if (b_118 < e.1 ∧ (e.2.1 b_118).1 = 13 ∧ (e.2.1 b_118).2 < 2 ^ 31) ∧ 0 ≤ i6 ∧ (Int32.toNatClampNeg i6) < (e.2.1 b_118).2 then (if 0 ≤ i8 ∧ (Int32.toNatClampNeg i8) < 192 then (if i8 = i2 then (if 0 ≤ i8 ∧ (Int32.toNatClampNeg i8) < 192 then (if 1 ≤ dp then (g_111 n (dp - 1) e 0 I L i7 (I 27 (Int32.toNatClampNeg i8))).bind (fun ⟨x0_163, I0_163, L0_163⟩ => (if 1 ≤ dp then (g_116 n (dp - 1) e 0 I0_163 L0_163 x0_163).bind (fun ⟨x1_166, I1_166, L1_166⟩ => (stI ((((I b_118 (Int32.toNatClampNeg i6)) + (I 28 (Int32.toNatClampNeg i8))) + (1 : Int32)) + x1_166) (fun v_170 => (if v_170 ≤ (I1_166 44 8) then (if v_170 = (I1_166 44 8) then ((e.2.2 44 6).bind (fun b_230 => (if (b_230 < e.1 ∧ (e.2.1 b_230).1 = 13 ∧ (e.2.1 b_230).2 < 2 ^ 31) ∧ 0 ≤ i6 ∧ (Int32.toNatClampNeg i6) < (e.2.1 b_230).2 then (if 0 ≤ i8 ∧ (Int32.toNatClampNeg i8) < 192 then (if 1 ≤ dp then (g_113 n (dp - 1) e 0 I1_166 L1_166 (I1_166 44 9) (I1_166 b_230 (Int32.toNatClampNeg i6)) (I1_166 29 (Int32.toNatClampNeg i8))).bind (fun ⟨x2_246, I2_246, L2_246⟩ => (stI (u2 I2_246 44 9 x2_246) (fun I_249 => (g_115 n dp e 3 I_249 L2_246 i1 i2 i3 i4 i5 i6 i7 i8 v_170)))) else none) else none) else none))) else (g_115 n dp e 3 I1_166 L1_166 i1 i2 i3 i4 i5 i6 i7 i8 v_170)) else (stI (u2 I1_166 44 8 v_170) (fun I_184 => ((e.2.2 44 6).bind (fun b_190 => (if (b_190 < e.1 ∧ (e.2.1 b_190).1 = 13 ∧ (e.2.1 b_190).2 < 2 ^ 31) ∧ 0 ≤ i6 ∧ (Int32.toNatClampNeg i6) < (e.2.1 b_190).2 then (if 0 ≤ i8 ∧ (Int32.toNatClampNeg i8) < 192 then (if 1 ≤ dp then (g_113 n (dp - 1) e 0 I_184 L1_166 (0 : Int32) (I_184 b_190 (Int32.toNatClampNeg i6)) (I_184 29 (Int32.toNatClampNeg i8))).bind (fun ⟨x2_206, I2_206, L2_206⟩ => (stI (u2 I2_206 44 9 x2_206) (fun I_209 => (g_115 n dp e 3 I_209 L2_206 i1 i2 i3 i4 i5 i6 i7 i8 v_170)))) else none) else none) else none))))))))) else none)) else none) else none) else (if 0 ≤ i8 ∧ (Int32.toNatClampNeg i8) < 192 then (if 1 ≤ dp then (g_111 n (dp - 1) e 0 I L i7 (I 27 (Int32.toNatClampNeg i8))).bind (fun ⟨x0_163, I0_163, L0_163⟩ => (if 1 ≤ dp then (g_116 n (dp - 1) e 0 I0_163 L0_163 x0_163).bind (fun ⟨x1_166, I1_166, L1_166⟩ => (stI ((((I b_118 (Int32.toNatClampNeg i6)) + (I 28 (Int32.toNatClampNeg i8))) + (0 : Int32)) + x1_166) (fun v_170 => (if v_170 ≤ (I1_166 44 8) then (if v_170 = (I1_166 44 8) then ((e.2.2 44 6).bind (fun b_230 => (if (b_230 < e.1 ∧ (e.2.1 b_230).1 = 13 ∧ (e.2.1 b_230).2 < 2 ^ 31) ∧ 0 ≤ i6 ∧ (Int32.toNatClampNeg i6) < (e.2.1 b_230).2 then (if 0 ≤ i8 ∧ (Int32.toNatClampNeg i8) < 192 then (if 1 ≤ dp then (g_113 n (dp - 1) e 0 I1_166 L1_166 (I1_166 44 9) (I1_166 b_230 (Int32.toNatClampNeg i6)) (I1_166 29 (Int32.toNatClampNeg i8))).bind (fun ⟨x2_246, I2_246, L2_246⟩ => (stI (u2 I2_246 44 9 x2_246) (fun I_249 => (g_115 n dp e 3 I_249 L2_246 i1 i2 i3 i4 i5 i6 i7 i8 v_170)))) else none) else none) else none))) else (g_115 n dp e 3 I1_166 L1_166 i1 i2 i3 i4 i5 i6 i7 i8 v_170)) else (stI (u2 I1_166 44 8 v_170) (fun I_184 => ((e.2.2 44 6).bind (fun b_190 => (if (b_190 < e.1 ∧ (e.2.1 b_190).1 = 13 ∧ (e.2.1 b_190).2 < 2 ^ 31) ∧ 0 ≤ i6 ∧ (Int32.toNatClampNeg i6) < (e.2.1 b_190).2 then (if 0 ≤ i8 ∧ (Int32.toNatClampNeg i8) < 192 then (if 1 ≤ dp then (g_113 n (dp - 1) e 0 I_184 L1_166 (0 : Int32) (I_184 b_190 (Int32.toNatClampNeg i6)) (I_184 29 (Int32.toNatClampNeg i8))).bind (fun ⟨x2_206, I2_206, L2_206⟩ => (stI (u2 I2_206 44 9 x2_206) (fun I_209 => (g_115 n dp e 3 I_209 L2_206 i1 i2 i3 i4 i5 i6 i7 i8 v_170)))) else none) else none) else none))))))))) else none)) else none) else none)) else none) else none)))) := by rw [g_115.eq_2, if_neg (show ¬ ((2 : Nat) = 0) by decide), if_neg (show ¬ ((2 : Nat) = 1) by decide), if_pos (show (2 : Nat) = 2 from rfl)]
set_option maxRecDepth 100000 in
theorem e_115_3 (n dp : Nat) (e : EN) (I : (Nat → Nat → Int32)) (L : (Nat → Nat → Int64)) (i1 : Int32) (i2 : Int32) (i3 : Int32) (i4 : Int32) (i5 : Int32) (i6 : Int32) (i7 : Int32) (i8 : Int32) (i9 : Int32) : g_115 (n + 1) dp e 3 I L i1 i2 i3 i4 i5 i6 i7 i8 i9 = (g_115 n dp e 2 I L i1 i2 i3 i4 i5 i6 i7 (i8 + Int32.ofInt (1)) 0) := by rw [g_115.eq_2, if_neg (show ¬ ((3 : Nat) = 0) by decide), if_neg (show ¬ ((3 : Nat) = 1) by decide), if_neg (show ¬ ((3 : Nat) = 2) by decide), if_pos (show (3 : Nat) = 3 from rfl)]
set_option maxRecDepth 100000 in
theorem e_115_4 (n dp : Nat) (e : EN) (I : (Nat → Nat → Int32)) (L : (Nat → Nat → Int64)) (i1 : Int32) (i2 : Int32) (i3 : Int32) (i4 : Int32) (i5 : Int32) (i6 : Int32) (i7 : Int32) (i8 : Int32) (i9 : Int32) : g_115 (n + 1) dp e 4 I L i1 i2 i3 i4 i5 i6 i7 i8 i9 = (g_115 n dp e 1 I L i1 i2 i3 i4 i5 (i6 + Int32.ofInt (1)) 0 0 0) := by rw [g_115.eq_2, if_neg (show ¬ ((4 : Nat) = 0) by decide), if_neg (show ¬ ((4 : Nat) = 1) by decide), if_neg (show ¬ ((4 : Nat) = 2) by decide), if_neg (show ¬ ((4 : Nat) = 3) by decide), if_pos (show (4 : Nat) = 4 from rfl)]
set_option maxHeartbeats 8000000 in
set_option maxRecDepth 100000 in
theorem w_115 (X : GX) {z : Nat} {kd : Nat → Nat × Nat} {Rf : Nat → Nat → Option Nat} (hS : Sh z kd Rf) : ∀ (n dp d : Nat), dp ≤ d → ∀ (I : (Nat → Nat → Int32)) (L : (Nat → Nat → Int64)) (i1 : Int32) (i2 : Int32) (i3 : Int32) (i4 : Int32) (i5 : Int32) (i6 : Int32) (i7 : Int32) (i8 : Int32) (i9 : Int32) (I1 : (Nat → Nat → Int32)) (L1 : (Nat → Nat → Int64)), (g_115 n dp (z, kd, Rf) 0 I L i1 i2 i3 i4 i5 i6 i7 i8 i9 = some (I1, L1) → K X d 115 0 0 (AV (fun τ => τ = (z, kd, I1, L1, Rf))) 0 [some (.ref 44), some (.int i1), some (.int i2), none, none, none, none, none, none, none] [] (z, kd, I, L, Rf) 0 0) ∧
    (g_115 n dp (z, kd, Rf) 1 I L i1 i2 i3 i4 i5 i6 i7 i8 i9 = some (I1, L1) → K X d 115 0 0 (AV (fun τ => τ = (z, kd, I1, L1, Rf))) 52 [some (.ref 44), some (.int i1), some (.int i2), some (.int i3), some (.int i4), some (.int i5), some (.int i6), none, none, none] [] (z, kd, I, L, Rf) 0 0) ∧
    (g_115 n dp (z, kd, Rf) 2 I L i1 i2 i3 i4 i5 i6 i7 i8 i9 = some (I1, L1) → K X d 115 0 0 (AV (fun τ => τ = (z, kd, I1, L1, Rf))) 110 [some (.ref 44), some (.int i1), some (.int i2), some (.int i3), some (.int i4), some (.int i5), some (.int i6), some (.int i7), some (.int i8), none] [] (z, kd, I, L, Rf) 0 0) ∧
    (g_115 n dp (z, kd, Rf) 3 I L i1 i2 i3 i4 i5 i6 i7 i8 i9 = some (I1, L1) → K X d 115 0 0 (AV (fun τ => τ = (z, kd, I1, L1, Rf))) 252 [some (.ref 44), some (.int i1), some (.int i2), some (.int i3), some (.int i4), some (.int i5), some (.int i6), some (.int i7), some (.int i8), some (.int i9)] [] (z, kd, I, L, Rf) 0 0) ∧
    (g_115 n dp (z, kd, Rf) 4 I L i1 i2 i3 i4 i5 i6 i7 i8 i9 = some (I1, L1) → K X d 115 0 0 (AV (fun τ => τ = (z, kd, I1, L1, Rf))) 258 [some (.ref 44), some (.int i1), some (.int i2), some (.int i3), some (.int i4), some (.int i5), some (.int i6), some (.int i7), none, none] [] (z, kd, I, L, Rf) 0 0) := by
  intro n
  induction n with
  | zero => intro dp d hdp I L i1 i2 i3 i4 i5 i6 i7 i8 i9 I1 L1; exact ⟨(fun h => by cases h), (fun h => by cases h), (fun h => by cases h), (fun h => by cases h), (fun h => by cases h)⟩
  | succ n ih =>
    intro dp d hdp I L i1 i2 i3 i4 i5 i6 i7 i8 i9 I1 L1
    refine ⟨?_, ?_, ?_, ?_, ?_⟩
    · intro h
      rw [e_115_0] at h
      refine K_of b_115_0 h_115_0 ?_
      refine q_iload rfl ?_
      refine q_iconst (64) (by decide) ?_
      refine q_imul ?_
      refine q_istore (ls1 := [some (.ref 44), some (.int i1), some (.int i2), some (.int (i1 * (64 : Int32))), none, none, none, none, none, none]) (Nat.le_of_ble_eq_true rfl) rfl ?_
      refine q_iload rfl ?_
      refine q_aload rfl ?_
      refine q_getRs (c0 := 4) (j := 0) rfl rfl (zl hS 44 (by decide)) (sk hS 44 (by decide) rfl) rfl (by decide) (r_44_0 hS) ?_
      refine q_getRs (c0 := 6) (j := 5) rfl rfl (zl hS 26 (by decide)) (sk hS 26 (by decide) rfl) rfl (by decide) (r_26_5 hS) ?_
      refine q_iload rfl ?_
      obtain ⟨⟨u_14, v_14⟩, h⟩ := ite_some h
      refine q_ialN (Int32.toNatClampNeg i1) (nx u_14) (zl hS 32 (by decide)) (sk hS 32 (by decide) rfl) v_14 (by decide) ?_
      refine q_iadd ?_
      obtain ⟨v_16, nv_16, h⟩ := stI_some h
      refine q_eqi nv_16.symm ?_
      refine q_istore (ls1 := [some (.ref 44), some (.int i1), some (.int i2), some (.int (i1 * (64 : Int32))), some (.int v_16), none, none, none, none, none]) (Nat.le_of_ble_eq_true rfl) rfl ?_
      refine q_aload rfl ?_
      refine q_getRs (c0 := 4) (j := 0) rfl rfl (zl hS 44 (by decide)) (sk hS 44 (by decide) rfl) rfl (by decide) (r_44_0 hS) ?_
      refine q_getRs (c0 := 6) (j := 6) rfl rfl (zl hS 26 (by decide)) (sk hS 26 (by decide) rfl) rfl (by decide) (r_26_6 hS) ?_
      refine q_iload rfl ?_
      obtain ⟨⟨u_26, v_26⟩, h⟩ := ite_some h
      refine q_ialN (Int32.toNatClampNeg i1) (nx u_26) (zl hS 33 (by decide)) (sk hS 33 (by decide) rfl) v_26 (by decide) ?_
      refine q_iconst (1) (by decide) ?_
      refine q_iadd ?_
      obtain ⟨v_29, nv_29, h⟩ := stI_some h
      refine q_eqi nv_29.symm ?_
      refine q_istore (ls1 := [some (.ref 44), some (.int i1), some (.int i2), some (.int (i1 * (64 : Int32))), some (.int v_16), some (.int v_29), none, none, none, none]) (Nat.le_of_ble_eq_true rfl) rfl ?_
      refine q_aload rfl ?_
      refine q_iconst (-1) (by decide) ?_
      refine q_putI (c0 := 4) (j := 8) rfl rfl (zl hS 44 (by decide)) (sk hS 44 (by decide) rfl) rfl ?_
      obtain ⟨I_33, nI_33, h⟩ := stI_some h
      refine q_nI nI_33 ?_
      refine q_aload rfl ?_
      refine q_iconst (0) (by decide) ?_
      refine q_putI (c0 := 4) (j := 9) rfl rfl (zl hS 44 (by decide)) (sk hS 44 (by decide) rfl) rfl ?_
      obtain ⟨I_38, nI_38, h⟩ := stI_some h
      refine q_nI nI_38 ?_
      refine q_aload rfl ?_
      refine q_getRs (c0 := 4) (j := 1) rfl rfl (zl hS 44 (by decide)) (sk hS 44 (by decide) rfl) rfl (by decide) (r_44_1 hS) ?_
      refine q_aload rfl ?_
      refine q_getI (c0 := 4) (j := 3) rfl rfl (zl hS 44 (by decide)) (sk hS 44 (by decide) rfl) (Or.inl rfl) (by decide) ?_
      obtain ⟨⟨u_49, v_49⟩, h⟩ := ite_some h
      refine q_ialN (Int32.toNatClampNeg (I_38 44 3)) (nx u_49) (zl hS 45 (by decide)) (sk hS 45 (by decide) rfl) v_49 (by decide) ?_
      obtain ⟨v_50, nv_50, h⟩ := stI_some h
      refine q_eqi nv_50.symm ?_
      refine q_istore (ls1 := [some (.ref 44), some (.int i1), some (.int i2), some (.int (i1 * (64 : Int32))), some (.int v_16), some (.int v_29), some (.int v_50), none, none, none]) (Nat.le_of_ble_eq_true rfl) rfl ?_
      refine q_end ?_
      exact (ih dp d hdp _ _ i1 i2 (i1 * (64 : Int32)) v_16 v_29 v_50 0 0 0 _ _).2.1 h
    · intro h
      rw [e_115_1] at h
      refine K_of b_115_52 h_115_52 ?_
      refine q_iload rfl ?_
      refine q_aload rfl ?_
      refine q_getRs (c0 := 4) (j := 1) rfl rfl (zl hS 44 (by decide)) (sk hS 44 (by decide) rfl) rfl (by decide) (r_44_1 hS) ?_
      refine q_aload rfl ?_
      refine q_getI (c0 := 4) (j := 3) rfl rfl (zl hS 44 (by decide)) (sk hS 44 (by decide) rfl) (Or.inl rfl) (by decide) ?_
      refine q_iconst (1) (by decide) ?_
      refine q_iadd ?_
      obtain ⟨⟨u_64, v_64⟩, h⟩ := ite_some h
      refine q_ialN (Int32.toNatClampNeg ((I 44 3) + (1 : Int32))) (nx u_64) (zl hS 45 (by decide)) (sk hS 45 (by decide) rfl) v_64 (by decide) ?_
      refine q_icmp_ge (fun c_65 => ?_) (fun c_65 => ?_)
      · rw [if_pos c_65] at h
        refine K_of b_115_264 h_115_264 ?_
        cases h
        exact q_vret rfl (Nat.le_refl _) (Nat.le_refl _) rfl
      · rw [if_neg c_65] at h
        refine q_aload rfl ?_
        obtain ⟨b_69, r_69, h⟩ := Option.bind_eq_some_iff.mp h
        refine q_getRs (c0 := 4) (j := 4) rfl rfl (zl hS 44 (by decide)) (sk hS 44 (by decide) rfl) rfl (by decide) r_69 ?_
        refine q_iload rfl ?_
        obtain ⟨⟨⟨z_74, k_74, m_74⟩, u_74, v_74⟩, h⟩ := ite_some h
        refine q_ialN (Int32.toNatClampNeg i6) (nx u_74) z_74 (fst_eq k_74) v_74 m_74 ?_
        obtain ⟨v_75, nv_75, h⟩ := stI_some h
        refine q_eqi nv_75.symm ?_
        refine q_istore (ls1 := [some (.ref 44), some (.int i1), some (.int i2), some (.int i3), some (.int i4), some (.int i5), some (.int i6), some (.int v_75), none, none]) (Nat.le_of_ble_eq_true rfl) rfl ?_
        refine q_aload rfl ?_
        obtain ⟨b_78, r_78, h⟩ := Option.bind_eq_some_iff.mp h
        refine q_getRs (c0 := 4) (j := 5) rfl rfl (zl hS 44 (by decide)) (sk hS 44 (by decide) rfl) rfl (by decide) r_78 ?_
        refine q_iload rfl ?_
        obtain ⟨⟨⟨z_83, k_83, m_83⟩, u_83, v_83⟩, h⟩ := ite_some h
        refine q_ialN (Int32.toNatClampNeg i6) (nx u_83) z_83 (fst_eq k_83) v_83 m_83 ?_
        refine q_aload rfl ?_
        refine q_getRs (c0 := 4) (j := 0) rfl rfl (zl hS 44 (by decide)) (sk hS 44 (by decide) rfl) rfl (by decide) (r_44_0 hS) ?_
        refine q_iload rfl ?_
        obtain ⟨d_90, h⟩ := ite_some h
        obtain ⟨⟨x0_90, I0_90, L0_90⟩, e_90, h⟩ := Option.bind_eq_some_iff.mp h
        dsimp only at h
        refine q_fv2I (a_116 X hS (d := d - 1) (by omega) e_90) (by omega) (Nat.le_refl _) (Nat.le_refl _) rfl (Nat.le_of_ble_eq_true rfl) ⟨(zl hS 26 (by decide)), congrArg Prod.fst (sk hS 26 (by decide) rfl), by decide⟩ ?_
        refine q_iadd ?_
        refine q_iload rfl ?_
        refine q_iadd ?_
        refine q_aload rfl ?_
        refine q_getI (c0 := 4) (j := 8) rfl rfl (zl hS 44 (by decide)) (sk hS 44 (by decide) rfl) (Or.inl rfl) (by decide) ?_
        refine q_icmp_ge (fun c_101 => ?_) (fun c_101 => ?_)
        · rw [if_pos c_101] at h
          refine K_of b_115_107 h_115_107 ?_
          refine q_iload rfl ?_
          refine q_istore (ls1 := [some (.ref 44), some (.int i1), some (.int i2), some (.int i3), some (.int i4), some (.int i5), some (.int i6), some (.int v_75), some (.int i3), none]) (Nat.le_of_ble_eq_true rfl) rfl ?_
          refine q_end ?_
          exact (ih dp d hdp _ _ i1 i2 i3 i4 i5 i6 v_75 i3 0 _ _).2.2.1 h
        · rw [if_neg c_101] at h
          refine q_goto ?_
          exact (ih dp d hdp _ _ i1 i2 i3 i4 i5 i6 v_75 0 0 _ _).2.2.2.2 h
    · intro h
      rw [e_115_2] at h
      refine K_of b_115_110 h_115_110 ?_
      refine q_iload rfl ?_
      refine q_iload rfl ?_
      refine q_icmp_ge (fun c_114 => ?_) (fun c_114 => ?_)
      · rw [if_pos c_114] at h
        refine K_mask [true, true, true, true, true, true, true, true, false, false] (Nat.le_of_ble_eq_true rfl) ?_
        exact (ih dp d hdp _ _ i1 i2 i3 i4 i5 i6 i7 0 0 _ _).2.2.2.2 h
      · rw [if_neg c_114] at h
        refine q_aload rfl ?_
        obtain ⟨b_118, r_118, h⟩ := Option.bind_eq_some_iff.mp h
        refine q_getRs (c0 := 4) (j := 5) rfl rfl (zl hS 44 (by decide)) (sk hS 44 (by decide) rfl) rfl (by decide) r_118 ?_
        refine q_iload rfl ?_
        obtain ⟨⟨⟨z_123, k_123, m_123⟩, u_123, v_123⟩, h⟩ := ite_some h
        refine q_ialN (Int32.toNatClampNeg i6) (nx u_123) z_123 (fst_eq k_123) v_123 m_123 ?_
        refine q_aload rfl ?_
        refine q_getRs (c0 := 4) (j := 0) rfl rfl (zl hS 44 (by decide)) (sk hS 44 (by decide) rfl) rfl (by decide) (r_44_0 hS) ?_
        refine q_getRs (c0 := 6) (j := 1) rfl rfl (zl hS 26 (by decide)) (sk hS 26 (by decide) rfl) rfl (by decide) (r_26_1 hS) ?_
        refine q_iload rfl ?_
        obtain ⟨⟨u_133, v_133⟩, h⟩ := ite_some h
        refine q_ialN (Int32.toNatClampNeg i8) (nx u_133) (zl hS 28 (by decide)) (sk hS 28 (by decide) rfl) v_133 (by decide) ?_
        refine q_iadd ?_
        refine q_iload rfl ?_
        refine q_iload rfl ?_
        refine q_icmp_ne (fun c_138 => ?_) (fun c_138 => ?_)
        · rw [if_neg c_138] at h
          refine K_of b_115_145 h_115_145 ?_
          refine q_iconst (0) (by decide) ?_
          refine q_end ?_
          refine K_of b_115_146 h_115_146 ?_
          refine q_iadd ?_
          refine q_aload rfl ?_
          refine q_getRs (c0 := 4) (j := 0) rfl rfl (zl hS 44 (by decide)) (sk hS 44 (by decide) rfl) rfl (by decide) (r_44_0 hS) ?_
          refine q_iload rfl ?_
          refine q_aload rfl ?_
          refine q_getRs (c0 := 4) (j := 0) rfl rfl (zl hS 44 (by decide)) (sk hS 44 (by decide) rfl) rfl (by decide) (r_44_0 hS) ?_
          refine q_getRs (c0 := 6) (j := 0) rfl rfl (zl hS 26 (by decide)) (sk hS 26 (by decide) rfl) rfl (by decide) (r_26_0 hS) ?_
          refine q_iload rfl ?_
          obtain ⟨⟨u_162, v_162⟩, h⟩ := ite_some h
          refine q_ialN (Int32.toNatClampNeg i8) (nx u_162) (zl hS 27 (by decide)) (sk hS 27 (by decide) rfl) v_162 (by decide) ?_
          obtain ⟨d_163, h⟩ := ite_some h
          obtain ⟨⟨x0_163, I0_163, L0_163⟩, e_163, h⟩ := Option.bind_eq_some_iff.mp h
          dsimp only at h
          refine q_fs2I (a_111 X hS (d := d - 1) (by omega) e_163) (by omega) (Nat.le_refl _) (Nat.le_refl _) rfl (Nat.le_of_ble_eq_true rfl) ?_
          obtain ⟨d_166, h⟩ := ite_some h
          obtain ⟨⟨x1_166, I1_166, L1_166⟩, e_166, h⟩ := Option.bind_eq_some_iff.mp h
          dsimp only at h
          refine q_fv2I (a_116 X hS (d := d - 1) (by omega) e_166) (by omega) (Nat.le_refl _) (Nat.le_refl _) rfl (Nat.le_of_ble_eq_true rfl) ⟨(zl hS 26 (by decide)), congrArg Prod.fst (sk hS 26 (by decide) rfl), by decide⟩ ?_
          refine q_iadd ?_
          obtain ⟨v_170, nv_170, h⟩ := stI_some h
          refine q_eqi nv_170.symm ?_
          refine q_istore (ls1 := [some (.ref 44), some (.int i1), some (.int i2), some (.int i3), some (.int i4), some (.int i5), some (.int i6), some (.int i7), some (.int i8), some (.int v_170)]) (Nat.le_of_ble_eq_true rfl) rfl ?_
          refine q_iload rfl ?_
          refine q_aload rfl ?_
          refine q_getI (c0 := 4) (j := 8) rfl rfl (zl hS 44 (by decide)) (sk hS 44 (by decide) rfl) (Or.inl rfl) (by decide) ?_
          refine q_icmp_le (fun c_178 => ?_) (fun c_178 => ?_)
          · rw [if_pos c_178] at h
            refine K_of b_115_215 h_115_215 ?_
            refine q_iload rfl ?_
            refine q_aload rfl ?_
            refine q_getI (c0 := 4) (j := 8) rfl rfl (zl hS 44 (by decide)) (sk hS 44 (by decide) rfl) (Or.inl rfl) (by decide) ?_
            refine q_icmp_ne (fun c_221 => ?_) (fun c_221 => ?_)
            · rw [if_neg c_221] at h
              exact (ih dp d hdp _ _ i1 i2 i3 i4 i5 i6 i7 i8 v_170 _ _).2.2.2.1 h
            · rw [if_pos c_221] at h
              refine q_aload rfl ?_
              refine q_aload rfl ?_
              refine q_getI (c0 := 4) (j := 9) rfl rfl (zl hS 44 (by decide)) (sk hS 44 (by decide) rfl) (Or.inl rfl) (by decide) ?_
              refine q_aload rfl ?_
              obtain ⟨b_230, r_230, h⟩ := Option.bind_eq_some_iff.mp h
              refine q_getRs (c0 := 4) (j := 6) rfl rfl (zl hS 44 (by decide)) (sk hS 44 (by decide) rfl) rfl (by decide) r_230 ?_
              refine q_iload rfl ?_
              obtain ⟨⟨⟨z_235, k_235, m_235⟩, u_235, v_235⟩, h⟩ := ite_some h
              refine q_ialN (Int32.toNatClampNeg i6) (nx u_235) z_235 (fst_eq k_235) v_235 m_235 ?_
              refine q_aload rfl ?_
              refine q_getRs (c0 := 4) (j := 0) rfl rfl (zl hS 44 (by decide)) (sk hS 44 (by decide) rfl) rfl (by decide) (r_44_0 hS) ?_
              refine q_getRs (c0 := 6) (j := 2) rfl rfl (zl hS 26 (by decide)) (sk hS 26 (by decide) rfl) rfl (by decide) (r_26_2 hS) ?_
              refine q_iload rfl ?_
              obtain ⟨⟨u_245, v_245⟩, h⟩ := ite_some h
              refine q_ialN (Int32.toNatClampNeg i8) (nx u_245) (zl hS 29 (by decide)) (sk hS 29 (by decide) rfl) v_245 (by decide) ?_
              obtain ⟨d_246, h⟩ := ite_some h
              obtain ⟨⟨x2_246, I2_246, L2_246⟩, e_246, h⟩ := Option.bind_eq_some_iff.mp h
              dsimp only at h
              refine q_fs3I (a_113 X hS (d := d - 1) (by omega) e_246) (by omega) (Nat.le_refl _) (Nat.le_refl _) rfl (Nat.le_of_ble_eq_true rfl) ?_
              refine q_putI (c0 := 4) (j := 9) rfl rfl (zl hS 44 (by decide)) (sk hS 44 (by decide) rfl) rfl ?_
              obtain ⟨I_249, nI_249, h⟩ := stI_some h
              refine q_nI nI_249 ?_
              refine q_end ?_
              exact (ih dp d hdp _ _ i1 i2 i3 i4 i5 i6 i7 i8 v_170 _ _).2.2.2.1 h
          · rw [if_neg c_178] at h
            refine q_aload rfl ?_
            refine q_iload rfl ?_
            refine q_putI (c0 := 4) (j := 8) rfl rfl (zl hS 44 (by decide)) (sk hS 44 (by decide) rfl) rfl ?_
            obtain ⟨I_184, nI_184, h⟩ := stI_some h
            refine q_nI nI_184 ?_
            refine q_aload rfl ?_
            refine q_iconst (0) (by decide) ?_
            refine q_aload rfl ?_
            obtain ⟨b_190, r_190, h⟩ := Option.bind_eq_some_iff.mp h
            refine q_getRs (c0 := 4) (j := 6) rfl rfl (zl hS 44 (by decide)) (sk hS 44 (by decide) rfl) rfl (by decide) r_190 ?_
            refine q_iload rfl ?_
            obtain ⟨⟨⟨z_195, k_195, m_195⟩, u_195, v_195⟩, h⟩ := ite_some h
            refine q_ialN (Int32.toNatClampNeg i6) (nx u_195) z_195 (fst_eq k_195) v_195 m_195 ?_
            refine q_aload rfl ?_
            refine q_getRs (c0 := 4) (j := 0) rfl rfl (zl hS 44 (by decide)) (sk hS 44 (by decide) rfl) rfl (by decide) (r_44_0 hS) ?_
            refine q_getRs (c0 := 6) (j := 2) rfl rfl (zl hS 26 (by decide)) (sk hS 26 (by decide) rfl) rfl (by decide) (r_26_2 hS) ?_
            refine q_iload rfl ?_
            obtain ⟨⟨u_205, v_205⟩, h⟩ := ite_some h
            refine q_ialN (Int32.toNatClampNeg i8) (nx u_205) (zl hS 29 (by decide)) (sk hS 29 (by decide) rfl) v_205 (by decide) ?_
            obtain ⟨d_206, h⟩ := ite_some h
            obtain ⟨⟨x2_206, I2_206, L2_206⟩, e_206, h⟩ := Option.bind_eq_some_iff.mp h
            dsimp only at h
            refine q_fs3I (a_113 X hS (d := d - 1) (by omega) e_206) (by omega) (Nat.le_refl _) (Nat.le_refl _) rfl (Nat.le_of_ble_eq_true rfl) ?_
            refine q_putI (c0 := 4) (j := 9) rfl rfl (zl hS 44 (by decide)) (sk hS 44 (by decide) rfl) rfl ?_
            obtain ⟨I_209, nI_209, h⟩ := stI_some h
            refine q_nI nI_209 ?_
            refine q_goto ?_
            exact (ih dp d hdp _ _ i1 i2 i3 i4 i5 i6 i7 i8 v_170 _ _).2.2.2.1 h
        · rw [if_pos c_138] at h
          refine q_iconst (1) (by decide) ?_
          refine q_goto ?_
          refine K_of b_115_146 h_115_146 ?_
          refine q_iadd ?_
          refine q_aload rfl ?_
          refine q_getRs (c0 := 4) (j := 0) rfl rfl (zl hS 44 (by decide)) (sk hS 44 (by decide) rfl) rfl (by decide) (r_44_0 hS) ?_
          refine q_iload rfl ?_
          refine q_aload rfl ?_
          refine q_getRs (c0 := 4) (j := 0) rfl rfl (zl hS 44 (by decide)) (sk hS 44 (by decide) rfl) rfl (by decide) (r_44_0 hS) ?_
          refine q_getRs (c0 := 6) (j := 0) rfl rfl (zl hS 26 (by decide)) (sk hS 26 (by decide) rfl) rfl (by decide) (r_26_0 hS) ?_
          refine q_iload rfl ?_
          obtain ⟨⟨u_162, v_162⟩, h⟩ := ite_some h
          refine q_ialN (Int32.toNatClampNeg i8) (nx u_162) (zl hS 27 (by decide)) (sk hS 27 (by decide) rfl) v_162 (by decide) ?_
          obtain ⟨d_163, h⟩ := ite_some h
          obtain ⟨⟨x0_163, I0_163, L0_163⟩, e_163, h⟩ := Option.bind_eq_some_iff.mp h
          dsimp only at h
          refine q_fs2I (a_111 X hS (d := d - 1) (by omega) e_163) (by omega) (Nat.le_refl _) (Nat.le_refl _) rfl (Nat.le_of_ble_eq_true rfl) ?_
          obtain ⟨d_166, h⟩ := ite_some h
          obtain ⟨⟨x1_166, I1_166, L1_166⟩, e_166, h⟩ := Option.bind_eq_some_iff.mp h
          dsimp only at h
          refine q_fv2I (a_116 X hS (d := d - 1) (by omega) e_166) (by omega) (Nat.le_refl _) (Nat.le_refl _) rfl (Nat.le_of_ble_eq_true rfl) ⟨(zl hS 26 (by decide)), congrArg Prod.fst (sk hS 26 (by decide) rfl), by decide⟩ ?_
          refine q_iadd ?_
          obtain ⟨v_170, nv_170, h⟩ := stI_some h
          refine q_eqi nv_170.symm ?_
          refine q_istore (ls1 := [some (.ref 44), some (.int i1), some (.int i2), some (.int i3), some (.int i4), some (.int i5), some (.int i6), some (.int i7), some (.int i8), some (.int v_170)]) (Nat.le_of_ble_eq_true rfl) rfl ?_
          refine q_iload rfl ?_
          refine q_aload rfl ?_
          refine q_getI (c0 := 4) (j := 8) rfl rfl (zl hS 44 (by decide)) (sk hS 44 (by decide) rfl) (Or.inl rfl) (by decide) ?_
          refine q_icmp_le (fun c_178 => ?_) (fun c_178 => ?_)
          · rw [if_pos c_178] at h
            refine K_of b_115_215 h_115_215 ?_
            refine q_iload rfl ?_
            refine q_aload rfl ?_
            refine q_getI (c0 := 4) (j := 8) rfl rfl (zl hS 44 (by decide)) (sk hS 44 (by decide) rfl) (Or.inl rfl) (by decide) ?_
            refine q_icmp_ne (fun c_221 => ?_) (fun c_221 => ?_)
            · rw [if_neg c_221] at h
              exact (ih dp d hdp _ _ i1 i2 i3 i4 i5 i6 i7 i8 v_170 _ _).2.2.2.1 h
            · rw [if_pos c_221] at h
              refine q_aload rfl ?_
              refine q_aload rfl ?_
              refine q_getI (c0 := 4) (j := 9) rfl rfl (zl hS 44 (by decide)) (sk hS 44 (by decide) rfl) (Or.inl rfl) (by decide) ?_
              refine q_aload rfl ?_
              obtain ⟨b_230, r_230, h⟩ := Option.bind_eq_some_iff.mp h
              refine q_getRs (c0 := 4) (j := 6) rfl rfl (zl hS 44 (by decide)) (sk hS 44 (by decide) rfl) rfl (by decide) r_230 ?_
              refine q_iload rfl ?_
              obtain ⟨⟨⟨z_235, k_235, m_235⟩, u_235, v_235⟩, h⟩ := ite_some h
              refine q_ialN (Int32.toNatClampNeg i6) (nx u_235) z_235 (fst_eq k_235) v_235 m_235 ?_
              refine q_aload rfl ?_
              refine q_getRs (c0 := 4) (j := 0) rfl rfl (zl hS 44 (by decide)) (sk hS 44 (by decide) rfl) rfl (by decide) (r_44_0 hS) ?_
              refine q_getRs (c0 := 6) (j := 2) rfl rfl (zl hS 26 (by decide)) (sk hS 26 (by decide) rfl) rfl (by decide) (r_26_2 hS) ?_
              refine q_iload rfl ?_
              obtain ⟨⟨u_245, v_245⟩, h⟩ := ite_some h
              refine q_ialN (Int32.toNatClampNeg i8) (nx u_245) (zl hS 29 (by decide)) (sk hS 29 (by decide) rfl) v_245 (by decide) ?_
              obtain ⟨d_246, h⟩ := ite_some h
              obtain ⟨⟨x2_246, I2_246, L2_246⟩, e_246, h⟩ := Option.bind_eq_some_iff.mp h
              dsimp only at h
              refine q_fs3I (a_113 X hS (d := d - 1) (by omega) e_246) (by omega) (Nat.le_refl _) (Nat.le_refl _) rfl (Nat.le_of_ble_eq_true rfl) ?_
              refine q_putI (c0 := 4) (j := 9) rfl rfl (zl hS 44 (by decide)) (sk hS 44 (by decide) rfl) rfl ?_
              obtain ⟨I_249, nI_249, h⟩ := stI_some h
              refine q_nI nI_249 ?_
              refine q_end ?_
              exact (ih dp d hdp _ _ i1 i2 i3 i4 i5 i6 i7 i8 v_170 _ _).2.2.2.1 h
          · rw [if_neg c_178] at h
            refine q_aload rfl ?_
            refine q_iload rfl ?_
            refine q_putI (c0 := 4) (j := 8) rfl rfl (zl hS 44 (by decide)) (sk hS 44 (by decide) rfl) rfl ?_
            obtain ⟨I_184, nI_184, h⟩ := stI_some h
            refine q_nI nI_184 ?_
            refine q_aload rfl ?_
            refine q_iconst (0) (by decide) ?_
            refine q_aload rfl ?_
            obtain ⟨b_190, r_190, h⟩ := Option.bind_eq_some_iff.mp h
            refine q_getRs (c0 := 4) (j := 6) rfl rfl (zl hS 44 (by decide)) (sk hS 44 (by decide) rfl) rfl (by decide) r_190 ?_
            refine q_iload rfl ?_
            obtain ⟨⟨⟨z_195, k_195, m_195⟩, u_195, v_195⟩, h⟩ := ite_some h
            refine q_ialN (Int32.toNatClampNeg i6) (nx u_195) z_195 (fst_eq k_195) v_195 m_195 ?_
            refine q_aload rfl ?_
            refine q_getRs (c0 := 4) (j := 0) rfl rfl (zl hS 44 (by decide)) (sk hS 44 (by decide) rfl) rfl (by decide) (r_44_0 hS) ?_
            refine q_getRs (c0 := 6) (j := 2) rfl rfl (zl hS 26 (by decide)) (sk hS 26 (by decide) rfl) rfl (by decide) (r_26_2 hS) ?_
            refine q_iload rfl ?_
            obtain ⟨⟨u_205, v_205⟩, h⟩ := ite_some h
            refine q_ialN (Int32.toNatClampNeg i8) (nx u_205) (zl hS 29 (by decide)) (sk hS 29 (by decide) rfl) v_205 (by decide) ?_
            obtain ⟨d_206, h⟩ := ite_some h
            obtain ⟨⟨x2_206, I2_206, L2_206⟩, e_206, h⟩ := Option.bind_eq_some_iff.mp h
            dsimp only at h
            refine q_fs3I (a_113 X hS (d := d - 1) (by omega) e_206) (by omega) (Nat.le_refl _) (Nat.le_refl _) rfl (Nat.le_of_ble_eq_true rfl) ?_
            refine q_putI (c0 := 4) (j := 9) rfl rfl (zl hS 44 (by decide)) (sk hS 44 (by decide) rfl) rfl ?_
            obtain ⟨I_209, nI_209, h⟩ := stI_some h
            refine q_nI nI_209 ?_
            refine q_goto ?_
            exact (ih dp d hdp _ _ i1 i2 i3 i4 i5 i6 i7 i8 v_170 _ _).2.2.2.1 h
    · intro h
      rw [e_115_3] at h
      refine K_of b_115_252 h_115_252 ?_
      refine q_iinc (ls1 := [some (.ref 44), some (.int i1), some (.int i2), some (.int i3), some (.int i4), some (.int i5), some (.int i6), some (.int i7), some (.int (i8 + Int32.ofInt (1))), some (.int i9)]) rfl rfl ?_
      refine q_goto ?_
      refine K_mask [true, true, true, true, true, true, true, true, true, false] (Nat.le_of_ble_eq_true rfl) ?_
      exact (ih dp d hdp _ _ i1 i2 i3 i4 i5 i6 i7 (i8 + Int32.ofInt (1)) 0 _ _).2.2.1 h
    · intro h
      rw [e_115_4] at h
      refine K_of b_115_258 h_115_258 ?_
      refine q_iinc (ls1 := [some (.ref 44), some (.int i1), some (.int i2), some (.int i3), some (.int i4), some (.int i5), some (.int (i6 + Int32.ofInt (1))), some (.int i7), none, none]) rfl rfl ?_
      refine q_goto ?_
      refine K_mask [true, true, true, true, true, true, true, false, false, false] (Nat.le_of_ble_eq_true rfl) ?_
      exact (ih dp d hdp _ _ i1 i2 i3 i4 i5 (i6 + Int32.ofInt (1)) 0 0 0 _ _).2.1 h
theorem a_115 (X : GX) {z : Nat} {kd : Nat → Nat × Nat} {Rf : Nat → Nat → Option Nat} (hS : Sh z kd Rf) {n dp d : Nat} (hd : dp ≤ d) {I : (Nat → Nat → Int32)} {L : (Nat → Nat → Int64)} {i1 : Int32} {i2 : Int32} {I1 : (Nat → Nat → Int32)} {L1 : (Nat → Nat → Int64)} (h : g_115 n dp (z, kd, Rf) 0 I L i1 i2 0 0 0 0 0 0 0 = some (I1, L1)) : Ct X d 115 0 0 [.ref 44, .int i1, .int i2] (z, kd, I, L, Rf) (AV (fun τ => τ = (z, kd, I1, L1, Rf))) :=
  Ct_of mu_115 (Nat.le_of_ble_eq_true rfl) ((w_115 X hS n dp d hd I L i1 i2 0 0 0 0 0 0 0 _ _).1 h)

