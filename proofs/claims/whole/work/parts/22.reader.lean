/-! 41 CutFloor$Reader.isWord(Ljava/lang/String;)Z -/
set_option maxHeartbeats 4000000 in
set_option maxRecDepth 100000 in
def g_41 : Nat → Nat → EN → Nat → (Nat → Nat → Int32) → (Nat → Nat → Int64) → Int32 → Nat →  Option (Int32 × (Nat → Nat → Int32) × (Nat → Nat → Int64))
  | 0, _, _, _, _, _, _, _ => none
  | n + 1, dp, e, lab, I, L, i2, s1 =>
    if lab = 0 then (if (I 104 3) = (1 : Int32) then (if s1 < 13 ∧ 2 ≤ dp then (if ((I 104 5) - (I 104 4)) = (nI (sLen.getD s1 0)) then (g_41 n dp e 1 I L (0 : Int32) s1) else (some ((0 : Int32), I, L))) else none) else (some ((0 : Int32), I, L)))
    else if lab = 1 then (if s1 < 13 ∧ 2 ≤ dp then (if (nI (sLen.getD s1 0)) ≤ i2 then (some ((1 : Int32), I, L)) else (if 0 ≤ ((I 104 4) + i2) ∧ (Int32.toNatClampNeg ((I 104 4) + i2)) < 400 then (if s1 < 13 ∧ (0 ≤ i2 ∧ (Int32.toNatClampNeg i2) < sLen.getD s1 0) ∧ 4 ≤ dp then (if (I 89 (Int32.toNatClampNeg ((I 104 4) + i2))) = (sch s1 i2) then (g_41 n dp e 1 I L (i2 + Int32.ofInt (1)) s1) else (some ((0 : Int32), I, L))) else none) else none)) else none)
    else none
set_option maxRecDepth 100000 in
theorem e_41_0 (n dp : Nat) (e : EN) (I : (Nat → Nat → Int32)) (L : (Nat → Nat → Int64)) (i2 : Int32) (s1 : Nat) : g_41 (n + 1) dp e 0 I L i2 s1 = (if (I 104 3) = (1 : Int32) then (if s1 < 13 ∧ 2 ≤ dp then (if ((I 104 5) - (I 104 4)) = (nI (sLen.getD s1 0)) then (g_41 n dp e 1 I L (0 : Int32) s1) else (some ((0 : Int32), I, L))) else none) else (some ((0 : Int32), I, L))) := by rw [g_41.eq_2, if_pos (show (0 : Nat) = 0 from rfl)]
set_option maxRecDepth 100000 in
theorem e_41_1 (n dp : Nat) (e : EN) (I : (Nat → Nat → Int32)) (L : (Nat → Nat → Int64)) (i2 : Int32) (s1 : Nat) : g_41 (n + 1) dp e 1 I L i2 s1 = (if s1 < 13 ∧ 2 ≤ dp then (if (nI (sLen.getD s1 0)) ≤ i2 then (some ((1 : Int32), I, L)) else (if 0 ≤ ((I 104 4) + i2) ∧ (Int32.toNatClampNeg ((I 104 4) + i2)) < 400 then (if s1 < 13 ∧ (0 ≤ i2 ∧ (Int32.toNatClampNeg i2) < sLen.getD s1 0) ∧ 4 ≤ dp then (if (I 89 (Int32.toNatClampNeg ((I 104 4) + i2))) = (sch s1 i2) then (g_41 n dp e 1 I L (i2 + Int32.ofInt (1)) s1) else (some ((0 : Int32), I, L))) else none) else none)) else none) := by rw [g_41.eq_2, if_neg (show ¬ ((1 : Nat) = 0) by decide), if_pos (show (1 : Nat) = 1 from rfl)]
set_option maxHeartbeats 8000000 in
set_option maxRecDepth 100000 in
theorem w_41 (X : GX) {z : Nat} {kd : Nat → Nat × Nat} {Rf : Nat → Nat → Option Nat} (hS : Sh z kd Rf) : ∀ (n dp d : Nat), dp ≤ d → ∀ (I : (Nat → Nat → Int32)) (L : (Nat → Nat → Int64)) (i2 : Int32) (s1 : Nat) (r : Int32) (I1 : (Nat → Nat → Int32)) (L1 : (Nat → Nat → Int64)), (g_41 n dp (z, kd, Rf) 0 I L i2 s1 = some (r, I1, L1) → K X d 41 0 0 (AI (fun x τ => x = r ∧ τ = (z, kd, I1, L1, Rf))) 0 [some (.ref 104), some (.retAddr s1), none] [] (z, kd, I, L, Rf) 0 0) ∧
    (g_41 n dp (z, kd, Rf) 1 I L i2 s1 = some (r, I1, L1) → K X d 41 0 0 (AI (fun x τ => x = r ∧ τ = (z, kd, I1, L1, Rf))) 28 [some (.ref 104), some (.retAddr s1), some (.int i2)] [] (z, kd, I, L, Rf) 0 0) := by
  intro n
  induction n with
  | zero => intro dp d hdp I L i2 s1 r I1 L1; exact ⟨(fun h => by cases h), (fun h => by cases h)⟩
  | succ n ih =>
    intro dp d hdp I L i2 s1 r I1 L1
    refine ⟨?_, ?_⟩
    · intro h
      rw [e_41_0] at h
      refine K_of b_41_0 h_41_0 ?_
      refine q_aload rfl ?_
      refine q_getI (c0 := 8) (j := 3) rfl rfl (zl hS 104 (by decide)) (sk hS 104 (by decide) rfl) (Or.inl rfl) (by decide) ?_
      refine q_iconst (1) (by decide) ?_
      refine q_icmp_ne (fun c_5 => ?_) (fun c_5 => ?_)
      · rw [if_neg c_5] at h
        refine K_of b_41_24 h_41_24 ?_
        refine q_iconst (0) (by decide) ?_
        cases h
        exact q_iret rfl (Nat.le_refl _) (Nat.le_refl _) ⟨rfl, rfl⟩
      · rw [if_pos c_5] at h
        refine q_aload rfl ?_
        refine q_getI (c0 := 8) (j := 5) rfl rfl (zl hS 104 (by decide)) (sk hS 104 (by decide) rfl) (Or.inl rfl) (by decide) ?_
        refine q_aload rfl ?_
        refine q_getI (c0 := 8) (j := 4) rfl rfl (zl hS 104 (by decide)) (sk hS 104 (by decide) rfl) (Or.inl rfl) (by decide) ?_
        refine q_isub ?_
        refine q_aloadS rfl ?_
        obtain ⟨⟨s_18, d_18⟩, h⟩ := ite_some h
        refine q_fv1I (c_42 X (d - 1) (by omega) _ s1 s_18) (by omega) (Nat.le_refl _) (Nat.le_refl _) rfl (Nat.le_of_ble_eq_true rfl) ⟨s_18, rfl⟩ ?_
        refine q_icmp_eq (fun c_21 => ?_) (fun c_21 => ?_)
        · rw [if_pos c_21] at h
          refine K_of b_41_26 h_41_26 ?_
          refine q_iconst (0) (by decide) ?_
          refine q_istore (ls1 := [some (.ref 104), some (.retAddr s1), some (.int (0 : Int32))]) (Nat.le_of_ble_eq_true rfl) rfl ?_
          refine q_end ?_
          exact (ih dp d hdp _ _ (0 : Int32) s1 _ _ _).2 h
        · rw [if_neg c_21] at h
          refine q_end ?_
          refine K_of b_41_24 h_41_24 ?_
          refine q_iconst (0) (by decide) ?_
          cases h
          exact q_iret rfl (Nat.le_refl _) (Nat.le_refl _) ⟨rfl, rfl⟩
    · intro h
      rw [e_41_1] at h
      refine K_of b_41_28 h_41_28 ?_
      refine q_iload rfl ?_
      refine q_aloadS rfl ?_
      obtain ⟨⟨s_30, d_30⟩, h⟩ := ite_some h
      refine q_fv1I (c_42 X (d - 1) (by omega) _ s1 s_30) (by omega) (Nat.le_refl _) (Nat.le_refl _) rfl (Nat.le_of_ble_eq_true rfl) ⟨s_30, rfl⟩ ?_
      refine q_icmp_ge (fun c_33 => ?_) (fun c_33 => ?_)
      · rw [if_pos c_33] at h
        refine K_of b_41_63 h_41_63 ?_
        refine q_iconst (1) (by decide) ?_
        cases h
        exact q_iret rfl (Nat.le_refl _) (Nat.le_refl _) ⟨rfl, rfl⟩
      · rw [if_neg c_33] at h
        refine q_aload rfl ?_
        refine q_getRs (c0 := 8) (j := 0) rfl rfl (zl hS 104 (by decide)) (sk hS 104 (by decide) rfl) rfl (by decide) (r_104_0 hS) ?_
        refine q_aload rfl ?_
        refine q_getI (c0 := 8) (j := 4) rfl rfl (zl hS 104 (by decide)) (sk hS 104 (by decide) rfl) (Or.inl rfl) (by decide) ?_
        refine q_iload rfl ?_
        refine q_iadd ?_
        obtain ⟨⟨u_46, v_46⟩, h⟩ := ite_some h
        refine q_ialN (Int32.toNatClampNeg ((I 104 4) + i2)) (nx u_46) (zl hS 89 (by decide)) (sk hS 89 (by decide) rfl) v_46 (by decide) ?_
        refine q_aloadS rfl ?_
        refine q_iload rfl ?_
        obtain ⟨⟨s_49, ⟨u_49, w_49⟩, d_49⟩, h⟩ := ite_some h
        refine q_fv2I (c_44 X (d - 1) (by omega) _ s1 s_49 i2 u_49 w_49) (by omega) (Nat.le_refl _) (Nat.le_refl _) rfl (Nat.le_of_ble_eq_true rfl) ⟨s_49, rfl⟩ ?_
        refine q_icmp_eq (fun c_52 => ?_) (fun c_52 => ?_)
        · rw [if_pos c_52] at h
          refine K_of b_41_57 h_41_57 ?_
          refine q_iinc (ls1 := [some (.ref 104), some (.retAddr s1), some (.int (i2 + Int32.ofInt (1)))]) rfl rfl ?_
          refine q_goto ?_
          exact (ih dp d hdp _ _ (i2 + Int32.ofInt (1)) s1 _ _ _).2 h
        · rw [if_neg c_52] at h
          refine q_iconst (0) (by decide) ?_
          cases h
          exact q_iret rfl (Nat.le_refl _) (Nat.le_refl _) ⟨rfl, rfl⟩
theorem a_41 (X : GX) {z : Nat} {kd : Nat → Nat × Nat} {Rf : Nat → Nat → Option Nat} (hS : Sh z kd Rf) {n dp d : Nat} (hd : dp ≤ d) {I : (Nat → Nat → Int32)} {L : (Nat → Nat → Int64)} {s1 : Nat} {I1 : (Nat → Nat → Int32)} {L1 : (Nat → Nat → Int64)} {r : Int32} (h : g_41 n dp (z, kd, Rf) 0 I L 0 s1 = some (r, I1, L1)) : Ct X d 41 0 0 [.ref 104, .retAddr s1] (z, kd, I, L, Rf) (AI (fun x τ => x = r ∧ τ = (z, kd, I1, L1, Rf))) :=
  Ct_of mu_41 (Nat.le_of_ble_eq_true rfl) ((w_41 X hS n dp d hd I L 0 s1 _ _ _).1 h)

/-! 53 CutFloor$Reader.readCut(I)Z -/
set_option maxHeartbeats 4000000 in
set_option maxRecDepth 100000 in
def g_53 : Nat → Nat → EN → Nat → (Nat → Nat → Int32) → (Nat → Nat → Int64) → Int32 → Int32 → Int32 →  Option (Int32 × (Nat → Nat → Int32) × (Nat → Nat → Int64))
  | 0, _, _, _, _, _, _, _, _ => none
  | n + 1, dp, e, lab, I, L, i1, i2, i3 =>
    if lab = 0 then ((e.2.2 104 1).bind (fun b_1 => (if b_1 < e.1 ∧ (e.2.1 b_1).1 = 10 then (if (I b_1 11) < (16 : Int32) then (if 1 ≤ dp then (g_37 n (dp - 1) e 0 I L 0).bind (fun ⟨I0_17, L0_17⟩ => (if 1 ≤ dp then (g_54 n (dp - 1) e 0 I0_17 L0_17 (0 : Int32) (9 : Int32)).bind (fun ⟨x1_24, I1_24, L1_24⟩ => (if x1_24 = 0 then (some ((0 : Int32), I1_24, L1_24)) else ((e.2.2 104 1).bind (fun b_33 => (if b_33 < e.1 ∧ (e.2.1 b_33).1 = 10 then ((e.2.2 b_33 5).bind (fun b_36 => (if (b_36 < e.1 ∧ (e.2.1 b_36).1 = 13 ∧ (e.2.1 b_36).2 < 2 ^ 31) ∧ 0 ≤ (I b_1 11) ∧ (Int32.toNatClampNeg (I b_1 11)) < (e.2.1 b_36).2 then (stI (u2 I1_24 b_36 (Int32.toNatClampNeg (I b_1 11)) (I1_24 104 6)) (fun I_44 => ((e.2.2 104 1).bind (fun b_46 => (if b_46 < e.1 ∧ (e.2.1 b_46).1 = 10 then ((e.2.2 b_46 6).bind (fun b_49 => (if (b_49 < e.1 ∧ (e.2.1 b_49).1 = 13 ∧ (e.2.1 b_49).2 < 2 ^ 31) ∧ 0 ≤ (I b_1 11) ∧ (Int32.toNatClampNeg (I b_1 11)) < (e.2.1 b_49).2 then (stI (u2 I_44 b_49 (Int32.toNatClampNeg (I b_1 11)) i1) (fun I_54 => (if 1 ≤ dp then (g_37 n (dp - 1) e 0 I_54 L1_24 0).bind (fun ⟨I2_56, L2_56⟩ => (if 1 ≤ dp then (g_41 n (dp - 1) e 0 I2_56 L2_56 0 1).bind (fun ⟨x3_62, I3_62, L3_62⟩ => (if x3_62 = 0 then (some ((0 : Int32), I3_62, L3_62)) else (if 1 ≤ dp then (g_55 n (dp - 1) e 0 I3_62 L3_62 (I b_1 11)).bind (fun ⟨x4_70, I4_70, L4_70⟩ => (if x4_70 = 0 then (some ((0 : Int32), I4_70, L4_70)) else (g_53 n dp e 1 I4_70 L4_70 i1 (I b_1 11) (0 : Int32)))) else none))) else none)) else none))) else none))) else none))))) else none))) else none))))) else none)) else none) else (some ((0 : Int32), I, L))) else none)))
    else if lab = 1 then (if (400 : Int32) ≤ i3 then (g_53 n dp e 2 I L i1 i2 i3) else (if 1 ≤ dp then (g_41 n (dp - 1) e 0 I L 0 2).bind (fun ⟨x0_90, I0_90, L0_90⟩ => (if x0_90 = 0 then (g_53 n dp e 2 I0_90 L0_90 i1 i2 i3) else (if 1 ≤ dp then (g_55 n (dp - 1) e 0 I0_90 L0_90 i2).bind (fun ⟨x1_98, I1_98, L1_98⟩ => (if x1_98 = 0 then (some ((0 : Int32), I1_98, L1_98)) else (g_53 n dp e 1 I1_98 L1_98 i1 i2 (i3 + Int32.ofInt (1))))) else none))) else none))
    else if lab = 2 then ((e.2.2 104 1).bind (fun b_113 => (if b_113 < e.1 ∧ (e.2.1 b_113).1 = 10 then (stI (u2 I b_113 11 (i2 + (1 : Int32))) (fun I_119 => (some ((1 : Int32), I_119, L)))) else none)))
    else none
set_option maxRecDepth 100000 in
theorem e_53_0 (n dp : Nat) (e : EN) (I : (Nat → Nat → Int32)) (L : (Nat → Nat → Int64)) (i1 : Int32) (i2 : Int32) (i3 : Int32) : g_53 (n + 1) dp e 0 I L i1 i2 i3 = ((e.2.2 104 1).bind (fun b_1 => (if b_1 < e.1 ∧ (e.2.1 b_1).1 = 10 then (if (I b_1 11) < (16 : Int32) then (if 1 ≤ dp then (g_37 n (dp - 1) e 0 I L 0).bind (fun ⟨I0_17, L0_17⟩ => (if 1 ≤ dp then (g_54 n (dp - 1) e 0 I0_17 L0_17 (0 : Int32) (9 : Int32)).bind (fun ⟨x1_24, I1_24, L1_24⟩ => (if x1_24 = 0 then (some ((0 : Int32), I1_24, L1_24)) else ((e.2.2 104 1).bind (fun b_33 => (if b_33 < e.1 ∧ (e.2.1 b_33).1 = 10 then ((e.2.2 b_33 5).bind (fun b_36 => (if (b_36 < e.1 ∧ (e.2.1 b_36).1 = 13 ∧ (e.2.1 b_36).2 < 2 ^ 31) ∧ 0 ≤ (I b_1 11) ∧ (Int32.toNatClampNeg (I b_1 11)) < (e.2.1 b_36).2 then (stI (u2 I1_24 b_36 (Int32.toNatClampNeg (I b_1 11)) (I1_24 104 6)) (fun I_44 => ((e.2.2 104 1).bind (fun b_46 => (if b_46 < e.1 ∧ (e.2.1 b_46).1 = 10 then ((e.2.2 b_46 6).bind (fun b_49 => (if (b_49 < e.1 ∧ (e.2.1 b_49).1 = 13 ∧ (e.2.1 b_49).2 < 2 ^ 31) ∧ 0 ≤ (I b_1 11) ∧ (Int32.toNatClampNeg (I b_1 11)) < (e.2.1 b_49).2 then (stI (u2 I_44 b_49 (Int32.toNatClampNeg (I b_1 11)) i1) (fun I_54 => (if 1 ≤ dp then (g_37 n (dp - 1) e 0 I_54 L1_24 0).bind (fun ⟨I2_56, L2_56⟩ => (if 1 ≤ dp then (g_41 n (dp - 1) e 0 I2_56 L2_56 0 1).bind (fun ⟨x3_62, I3_62, L3_62⟩ => (if x3_62 = 0 then (some ((0 : Int32), I3_62, L3_62)) else (if 1 ≤ dp then (g_55 n (dp - 1) e 0 I3_62 L3_62 (I b_1 11)).bind (fun ⟨x4_70, I4_70, L4_70⟩ => (if x4_70 = 0 then (some ((0 : Int32), I4_70, L4_70)) else (g_53 n dp e 1 I4_70 L4_70 i1 (I b_1 11) (0 : Int32)))) else none))) else none)) else none))) else none))) else none))))) else none))) else none))))) else none)) else none) else (some ((0 : Int32), I, L))) else none))) := by rw [g_53.eq_2, if_pos (show (0 : Nat) = 0 from rfl)]
set_option maxRecDepth 100000 in
theorem e_53_1 (n dp : Nat) (e : EN) (I : (Nat → Nat → Int32)) (L : (Nat → Nat → Int64)) (i1 : Int32) (i2 : Int32) (i3 : Int32) : g_53 (n + 1) dp e 1 I L i1 i2 i3 = (if (400 : Int32) ≤ i3 then (g_53 n dp e 2 I L i1 i2 i3) else (if 1 ≤ dp then (g_41 n (dp - 1) e 0 I L 0 2).bind (fun ⟨x0_90, I0_90, L0_90⟩ => (if x0_90 = 0 then (g_53 n dp e 2 I0_90 L0_90 i1 i2 i3) else (if 1 ≤ dp then (g_55 n (dp - 1) e 0 I0_90 L0_90 i2).bind (fun ⟨x1_98, I1_98, L1_98⟩ => (if x1_98 = 0 then (some ((0 : Int32), I1_98, L1_98)) else (g_53 n dp e 1 I1_98 L1_98 i1 i2 (i3 + Int32.ofInt (1))))) else none))) else none)) := by rw [g_53.eq_2, if_neg (show ¬ ((1 : Nat) = 0) by decide), if_pos (show (1 : Nat) = 1 from rfl)]
set_option maxRecDepth 100000 in
theorem e_53_2 (n dp : Nat) (e : EN) (I : (Nat → Nat → Int32)) (L : (Nat → Nat → Int64)) (i1 : Int32) (i2 : Int32) (i3 : Int32) : g_53 (n + 1) dp e 2 I L i1 i2 i3 = ((e.2.2 104 1).bind (fun b_113 => (if b_113 < e.1 ∧ (e.2.1 b_113).1 = 10 then (stI (u2 I b_113 11 (i2 + (1 : Int32))) (fun I_119 => (some ((1 : Int32), I_119, L)))) else none))) := by rw [g_53.eq_2, if_neg (show ¬ ((2 : Nat) = 0) by decide), if_neg (show ¬ ((2 : Nat) = 1) by decide), if_pos (show (2 : Nat) = 2 from rfl)]
set_option maxHeartbeats 8000000 in
set_option maxRecDepth 100000 in
theorem w_53 (X : GX) {z : Nat} {kd : Nat → Nat × Nat} {Rf : Nat → Nat → Option Nat} (hS : Sh z kd Rf) : ∀ (n dp d : Nat), dp ≤ d → ∀ (I : (Nat → Nat → Int32)) (L : (Nat → Nat → Int64)) (i1 : Int32) (i2 : Int32) (i3 : Int32) (r : Int32) (I1 : (Nat → Nat → Int32)) (L1 : (Nat → Nat → Int64)), (g_53 n dp (z, kd, Rf) 0 I L i1 i2 i3 = some (r, I1, L1) → K X d 53 0 0 (AI (fun x τ => x = r ∧ τ = (z, kd, I1, L1, Rf))) 0 [some (.ref 104), some (.int i1), none, none] [] (z, kd, I, L, Rf) 0 0) ∧
    (g_53 n dp (z, kd, Rf) 1 I L i1 i2 i3 = some (r, I1, L1) → K X d 53 0 0 (AI (fun x τ => x = r ∧ τ = (z, kd, I1, L1, Rf))) 80 [some (.ref 104), some (.int i1), some (.int i2), some (.int i3)] [] (z, kd, I, L, Rf) 0 0) ∧
    (g_53 n dp (z, kd, Rf) 2 I L i1 i2 i3 = some (r, I1, L1) → K X d 53 0 0 (AI (fun x τ => x = r ∧ τ = (z, kd, I1, L1, Rf))) 112 [some (.ref 104), some (.int i1), some (.int i2), some (.int i3)] [] (z, kd, I, L, Rf) 0 0) := by
  intro n
  induction n with
  | zero => intro dp d hdp I L i1 i2 i3 r I1 L1; exact ⟨(fun h => by cases h), (fun h => by cases h), (fun h => by cases h)⟩
  | succ n ih =>
    intro dp d hdp I L i1 i2 i3 r I1 L1
    refine ⟨?_, ?_, ?_⟩
    · intro h
      rw [e_53_0] at h
      refine K_of b_53_0 h_53_0 ?_
      refine q_aload rfl ?_
      obtain ⟨b_1, r_1, h⟩ := Option.bind_eq_some_iff.mp h
      refine q_getRs (c0 := 8) (j := 1) rfl rfl (zl hS 104 (by decide)) (sk hS 104 (by decide) rfl) rfl (by decide) r_1 ?_
      obtain ⟨⟨z_4, k_4⟩, h⟩ := ite_some h
      refine q_getI (c0 := 10) (j := 11) rfl rfl z_4 (fst_eq k_4) (Or.inl rfl) (by decide) ?_
      refine q_istore (ls1 := [some (.ref 104), some (.int i1), some (.int (I b_1 11)), none]) (Nat.le_of_ble_eq_true rfl) rfl ?_
      refine q_iload rfl ?_
      refine q_iconst (16) (by decide) ?_
      refine q_icmp_lt (fun c_11 => ?_) (fun c_11 => ?_)
      · rw [if_pos c_11] at h
        refine K_of b_53_16 h_53_16 ?_
        refine q_aload rfl ?_
        obtain ⟨d_17, h⟩ := ite_some h
        obtain ⟨⟨I0_17, L0_17⟩, e_17, h⟩ := Option.bind_eq_some_iff.mp h
        dsimp only at h
        refine q_fv1V (a_37 X hS (d := d - 1) (by omega) e_17) (by omega) (Nat.le_refl _) (Nat.le_refl _) rfl (Nat.le_of_ble_eq_true rfl) ⟨(zl hS 104 (by decide)), congrArg Prod.fst (sk hS 104 (by decide) rfl), by decide⟩ ?_
        refine q_aload rfl ?_
        refine q_iconst (0) (by decide) ?_
        refine q_iconst (9) (by decide) ?_
        obtain ⟨d_24, h⟩ := ite_some h
        obtain ⟨⟨x1_24, I1_24, L1_24⟩, e_24, h⟩ := Option.bind_eq_some_iff.mp h
        dsimp only at h
        refine q_fv3I (a_54 X hS (d := d - 1) (by omega) e_24) (by omega) (Nat.le_refl _) (Nat.le_refl _) rfl (Nat.le_of_ble_eq_true rfl) ⟨(zl hS 104 (by decide)), congrArg Prod.fst (sk hS 104 (by decide) rfl), by decide⟩ ?_
        refine q_if_ne (fun c_27 => ?_) (fun c_27 => ?_)
        · rw [if_neg c_27] at h
          refine K_of b_53_32 h_53_32 ?_
          refine q_aload rfl ?_
          obtain ⟨b_33, r_33, h⟩ := Option.bind_eq_some_iff.mp h
          refine q_getRs (c0 := 8) (j := 1) rfl rfl (zl hS 104 (by decide)) (sk hS 104 (by decide) rfl) rfl (by decide) r_33 ?_
          obtain ⟨⟨z_36, k_36⟩, h⟩ := ite_some h
          obtain ⟨b_36, r_36, h⟩ := Option.bind_eq_some_iff.mp h
          refine q_getRs (c0 := 10) (j := 5) rfl rfl z_36 (fst_eq k_36) rfl (by decide) r_36 ?_
          refine q_iload rfl ?_
          refine q_aload rfl ?_
          refine q_getI (c0 := 8) (j := 6) rfl rfl (zl hS 104 (by decide)) (sk hS 104 (by decide) rfl) (Or.inl rfl) (by decide) ?_
          obtain ⟨⟨⟨z_44, k_44, m_44⟩, u_44, v_44⟩, h⟩ := ite_some h
          refine q_iasN (Int32.toNatClampNeg (I b_1 11)) (nx u_44) z_44 (fst_eq k_44) v_44 m_44 ?_
          obtain ⟨I_44, nI_44, h⟩ := stI_some h
          refine q_nI nI_44 ?_
          refine q_aload rfl ?_
          obtain ⟨b_46, r_46, h⟩ := Option.bind_eq_some_iff.mp h
          refine q_getRs (c0 := 8) (j := 1) rfl rfl (zl hS 104 (by decide)) (sk hS 104 (by decide) rfl) rfl (by decide) r_46 ?_
          obtain ⟨⟨z_49, k_49⟩, h⟩ := ite_some h
          obtain ⟨b_49, r_49, h⟩ := Option.bind_eq_some_iff.mp h
          refine q_getRs (c0 := 10) (j := 6) rfl rfl z_49 (fst_eq k_49) rfl (by decide) r_49 ?_
          refine q_iload rfl ?_
          refine q_iload rfl ?_
          obtain ⟨⟨⟨z_54, k_54, m_54⟩, u_54, v_54⟩, h⟩ := ite_some h
          refine q_iasN (Int32.toNatClampNeg (I b_1 11)) (nx u_54) z_54 (fst_eq k_54) v_54 m_54 ?_
          obtain ⟨I_54, nI_54, h⟩ := stI_some h
          refine q_nI nI_54 ?_
          refine q_aload rfl ?_
          obtain ⟨d_56, h⟩ := ite_some h
          obtain ⟨⟨I2_56, L2_56⟩, e_56, h⟩ := Option.bind_eq_some_iff.mp h
          dsimp only at h
          refine q_fv1V (a_37 X hS (d := d - 1) (by omega) e_56) (by omega) (Nat.le_refl _) (Nat.le_refl _) rfl (Nat.le_of_ble_eq_true rfl) ⟨(zl hS 104 (by decide)), congrArg Prod.fst (sk hS 104 (by decide) rfl), by decide⟩ ?_
          refine q_aload rfl ?_
          refine q_ldc (by decide) ?_
          obtain ⟨d_62, h⟩ := ite_some h
          obtain ⟨⟨x3_62, I3_62, L3_62⟩, e_62, h⟩ := Option.bind_eq_some_iff.mp h
          dsimp only at h
          refine q_fv2I (a_41 X hS (d := d - 1) (by omega) e_62) (by omega) (Nat.le_refl _) (Nat.le_refl _) rfl (Nat.le_of_ble_eq_true rfl) ⟨(zl hS 104 (by decide)), congrArg Prod.fst (sk hS 104 (by decide) rfl), by decide⟩ ?_
          refine q_if_eq (fun c_65 => ?_) (fun c_65 => ?_)
          · rw [if_pos c_65] at h
            refine K_of b_53_76 h_53_76 ?_
            refine q_iconst (0) (by decide) ?_
            cases h
            exact q_iret rfl (Nat.le_refl _) (Nat.le_refl _) ⟨rfl, rfl⟩
          · rw [if_neg c_65] at h
            refine q_aload rfl ?_
            refine q_iload rfl ?_
            obtain ⟨d_70, h⟩ := ite_some h
            obtain ⟨⟨x4_70, I4_70, L4_70⟩, e_70, h⟩ := Option.bind_eq_some_iff.mp h
            dsimp only at h
            refine q_fv2I (a_55 X hS (d := d - 1) (by omega) e_70) (by omega) (Nat.le_refl _) (Nat.le_refl _) rfl (Nat.le_of_ble_eq_true rfl) ⟨(zl hS 104 (by decide)), congrArg Prod.fst (sk hS 104 (by decide) rfl), by decide⟩ ?_
            refine q_if_ne (fun c_73 => ?_) (fun c_73 => ?_)
            · rw [if_neg c_73] at h
              refine K_of b_53_78 h_53_78 ?_
              refine q_iconst (0) (by decide) ?_
              refine q_istore (ls1 := [some (.ref 104), some (.int i1), some (.int (I b_1 11)), some (.int (0 : Int32))]) (Nat.le_of_ble_eq_true rfl) rfl ?_
              refine q_end ?_
              exact (ih dp d hdp _ _ i1 (I b_1 11) (0 : Int32) _ _ _).2.1 h
            · rw [if_pos c_73] at h
              refine q_end ?_
              refine K_of b_53_76 h_53_76 ?_
              refine q_iconst (0) (by decide) ?_
              cases h
              exact q_iret rfl (Nat.le_refl _) (Nat.le_refl _) ⟨rfl, rfl⟩
        · rw [if_pos c_27] at h
          refine q_iconst (0) (by decide) ?_
          cases h
          exact q_iret rfl (Nat.le_refl _) (Nat.le_refl _) ⟨rfl, rfl⟩
      · rw [if_neg c_11] at h
        refine q_iconst (0) (by decide) ?_
        cases h
        exact q_iret rfl (Nat.le_refl _) (Nat.le_refl _) ⟨rfl, rfl⟩
    · intro h
      rw [e_53_1] at h
      refine K_of b_53_80 h_53_80 ?_
      refine q_iload rfl ?_
      refine q_iconst (400) (by decide) ?_
      refine q_icmp_ge (fun c_84 => ?_) (fun c_84 => ?_)
      · rw [if_pos c_84] at h
        exact (ih dp d hdp _ _ i1 i2 i3 _ _ _).2.2 h
      · rw [if_neg c_84] at h
        refine q_aload rfl ?_
        refine q_ldc (by decide) ?_
        obtain ⟨d_90, h⟩ := ite_some h
        obtain ⟨⟨x0_90, I0_90, L0_90⟩, e_90, h⟩ := Option.bind_eq_some_iff.mp h
        dsimp only at h
        refine q_fv2I (a_41 X hS (d := d - 1) (by omega) e_90) (by omega) (Nat.le_refl _) (Nat.le_refl _) rfl (Nat.le_of_ble_eq_true rfl) ⟨(zl hS 104 (by decide)), congrArg Prod.fst (sk hS 104 (by decide) rfl), by decide⟩ ?_
        refine q_if_eq (fun c_93 => ?_) (fun c_93 => ?_)
        · rw [if_pos c_93] at h
          exact (ih dp d hdp _ _ i1 i2 i3 _ _ _).2.2 h
        · rw [if_neg c_93] at h
          refine q_aload rfl ?_
          refine q_iload rfl ?_
          obtain ⟨d_98, h⟩ := ite_some h
          obtain ⟨⟨x1_98, I1_98, L1_98⟩, e_98, h⟩ := Option.bind_eq_some_iff.mp h
          dsimp only at h
          refine q_fv2I (a_55 X hS (d := d - 1) (by omega) e_98) (by omega) (Nat.le_refl _) (Nat.le_refl _) rfl (Nat.le_of_ble_eq_true rfl) ⟨(zl hS 104 (by decide)), congrArg Prod.fst (sk hS 104 (by decide) rfl), by decide⟩ ?_
          refine q_if_ne (fun c_101 => ?_) (fun c_101 => ?_)
          · rw [if_neg c_101] at h
            refine K_of b_53_106 h_53_106 ?_
            refine q_iinc (ls1 := [some (.ref 104), some (.int i1), some (.int i2), some (.int (i3 + Int32.ofInt (1)))]) rfl rfl ?_
            refine q_goto ?_
            exact (ih dp d hdp _ _ i1 i2 (i3 + Int32.ofInt (1)) _ _ _).2.1 h
          · rw [if_pos c_101] at h
            refine q_iconst (0) (by decide) ?_
            cases h
            exact q_iret rfl (Nat.le_refl _) (Nat.le_refl _) ⟨rfl, rfl⟩
    · intro h
      rw [e_53_2] at h
      refine K_of b_53_112 h_53_112 ?_
      refine q_aload rfl ?_
      obtain ⟨b_113, r_113, h⟩ := Option.bind_eq_some_iff.mp h
      refine q_getRs (c0 := 8) (j := 1) rfl rfl (zl hS 104 (by decide)) (sk hS 104 (by decide) rfl) rfl (by decide) r_113 ?_
      refine q_iload rfl ?_
      refine q_iconst (1) (by decide) ?_
      refine q_iadd ?_
      obtain ⟨⟨z_119, k_119⟩, h⟩ := ite_some h
      refine q_putI (c0 := 10) (j := 11) rfl rfl z_119 (fst_eq k_119) rfl ?_
      obtain ⟨I_119, nI_119, h⟩ := stI_some h
      refine q_nI nI_119 ?_
      refine q_iconst (1) (by decide) ?_
      cases h
      exact q_iret rfl (Nat.le_refl _) (Nat.le_refl _) ⟨rfl, rfl⟩
theorem a_53 (X : GX) {z : Nat} {kd : Nat → Nat × Nat} {Rf : Nat → Nat → Option Nat} (hS : Sh z kd Rf) {n dp d : Nat} (hd : dp ≤ d) {I : (Nat → Nat → Int32)} {L : (Nat → Nat → Int64)} {i1 : Int32} {I1 : (Nat → Nat → Int32)} {L1 : (Nat → Nat → Int64)} {r : Int32} (h : g_53 n dp (z, kd, Rf) 0 I L i1 0 0 = some (r, I1, L1)) : Ct X d 53 0 0 [.ref 104, .int i1] (z, kd, I, L, Rf) (AI (fun x τ => x = r ∧ τ = (z, kd, I1, L1, Rf))) :=
  Ct_of mu_53 (Nat.le_of_ble_eq_true rfl) ((w_53 X hS n dp d hd I L i1 0 0 _ _ _).1 h)

/-! 56 CutFloor$Reader.readSum(I)Z, 57 CutFloor$Reader.readTerm(I)Z, 58 CutFloor$Reader.readFactor(I)Z, 60 CutFloor$Reader.readInnerSum(I)Z -/
set_option maxHeartbeats 4000000 in
set_option maxRecDepth 100000 in
def g_56 : Nat → Nat → EN → Nat → (Nat → Nat → Int32) → (Nat → Nat → Int64) → Int32 → Int32 →  Option (Int32 × (Nat → Nat → Int32) × (Nat → Nat → Int64))
  | 0, _, _, _, _, _, _, _ => none
  | n + 1, dp, e, lab, I, L, i1, i2 =>
    if lab = 0 then (if 1 ≤ dp then (g_56 n (dp - 1) e 3 I L i1 0).bind (fun ⟨x0_2, I0_2, L0_2⟩ => (if x0_2 = 0 then (some ((0 : Int32), I0_2, L0_2)) else (g_56 n dp e 1 I0_2 L0_2 i1 (0 : Int32)))) else none)
    else if lab = 1 then (if (400 : Int32) ≤ i2 then (some ((1 : Int32), I, L)) else (if 1 ≤ dp then (g_59 n (dp - 1) e 0 I L (43 : Int32)).bind (fun ⟨x0_22, I0_22, L0_22⟩ => (if x0_22 = 0 then (if 1 ≤ dp then (g_59 n (dp - 1) e 0 I0_22 L0_22 (45 : Int32)).bind (fun ⟨x1_31, I1_31, L1_31⟩ => (if x1_31 = 0 then (some ((1 : Int32), I1_31, L1_31)) else (g_56 n dp e 2 I1_31 L1_31 i1 i2))) else none) else (g_56 n dp e 2 I0_22 L0_22 i1 i2))) else none))
    else if lab = 2 then (if 1 ≤ dp then (g_59 n (dp - 1) e 0 I L (43 : Int32)).bind (fun ⟨x0_40, I0_40, L0_40⟩ => (if x0_40 = 0 then (if 1 ≤ dp then (g_37 n (dp - 1) e 0 I0_40 L0_40 0).bind (fun ⟨I1_53, L1_53⟩ => (if 1 ≤ dp then (g_56 n (dp - 1) e 3 I1_53 L1_53 i1 0).bind (fun ⟨x2_58, I2_58, L2_58⟩ => (if x2_58 = 0 then (some ((0 : Int32), I2_58, L2_58)) else ((e.2.2 104 1).bind (fun b_67 => (if b_67 < e.1 ∧ (e.2.1 b_67).1 = 10 then (if 1 ≤ dp then (g_61 n (dp - 1) e 0 I2_58 L2_58 (3 : Int32) (0 : Int32) b_67).bind (fun ⟨x3_72, I3_72, L3_72⟩ => (g_56 n dp e 1 I3_72 L3_72 i1 (i2 + Int32.ofInt (1)))) else none) else none))))) else none)) else none) else (if 1 ≤ dp then (g_37 n (dp - 1) e 0 I0_40 L0_40 0).bind (fun ⟨I1_53, L1_53⟩ => (if 1 ≤ dp then (g_56 n (dp - 1) e 3 I1_53 L1_53 i1 0).bind (fun ⟨x2_58, I2_58, L2_58⟩ => (if x2_58 = 0 then (some ((0 : Int32), I2_58, L2_58)) else ((e.2.2 104 1).bind (fun b_67 => (if b_67 < e.1 ∧ (e.2.1 b_67).1 = 10 then (if 1 ≤ dp then (g_61 n (dp - 1) e 0 I2_58 L2_58 (2 : Int32) (0 : Int32) b_67).bind (fun ⟨x3_72, I3_72, L3_72⟩ => (g_56 n dp e 1 I3_72 L3_72 i1 (i2 + Int32.ofInt (1)))) else none) else none))))) else none)) else none))) else none)
    else if lab = 3 then (if 1 ≤ dp then (g_56 n (dp - 1) e 6 I L i1 0).bind (fun ⟨x0_2, I0_2, L0_2⟩ => (if x0_2 = 0 then (some ((0 : Int32), I0_2, L0_2)) else (g_56 n dp e 4 I0_2 L0_2 i1 (0 : Int32)))) else none)
    else if lab = 4 then (if (400 : Int32) ≤ i2 then (some ((1 : Int32), I, L)) else (if 1 ≤ dp then (g_59 n (dp - 1) e 0 I L (42 : Int32)).bind (fun ⟨x0_22, I0_22, L0_22⟩ => (if x0_22 = 0 then (if 1 ≤ dp then (g_59 n (dp - 1) e 0 I0_22 L0_22 (47 : Int32)).bind (fun ⟨x1_31, I1_31, L1_31⟩ => (if x1_31 = 0 then (some ((1 : Int32), I1_31, L1_31)) else (g_56 n dp e 5 I1_31 L1_31 i1 i2))) else none) else (g_56 n dp e 5 I0_22 L0_22 i1 i2))) else none))
    else if lab = 5 then (if 1 ≤ dp then (g_59 n (dp - 1) e 0 I L (42 : Int32)).bind (fun ⟨x0_40, I0_40, L0_40⟩ => (if x0_40 = 0 then (if 1 ≤ dp then (g_37 n (dp - 1) e 0 I0_40 L0_40 0).bind (fun ⟨I1_53, L1_53⟩ => (if 1 ≤ dp then (g_56 n (dp - 1) e 6 I1_53 L1_53 i1 0).bind (fun ⟨x2_58, I2_58, L2_58⟩ => (if x2_58 = 0 then (some ((0 : Int32), I2_58, L2_58)) else ((e.2.2 104 1).bind (fun b_67 => (if b_67 < e.1 ∧ (e.2.1 b_67).1 = 10 then (if 1 ≤ dp then (g_61 n (dp - 1) e 0 I2_58 L2_58 (5 : Int32) (0 : Int32) b_67).bind (fun ⟨x3_72, I3_72, L3_72⟩ => (g_56 n dp e 4 I3_72 L3_72 i1 (i2 + Int32.ofInt (1)))) else none) else none))))) else none)) else none) else (if 1 ≤ dp then (g_37 n (dp - 1) e 0 I0_40 L0_40 0).bind (fun ⟨I1_53, L1_53⟩ => (if 1 ≤ dp then (g_56 n (dp - 1) e 6 I1_53 L1_53 i1 0).bind (fun ⟨x2_58, I2_58, L2_58⟩ => (if x2_58 = 0 then (some ((0 : Int32), I2_58, L2_58)) else ((e.2.2 104 1).bind (fun b_67 => (if b_67 < e.1 ∧ (e.2.1 b_67).1 = 10 then (if 1 ≤ dp then (g_61 n (dp - 1) e 0 I2_58 L2_58 (4 : Int32) (0 : Int32) b_67).bind (fun ⟨x3_72, I3_72, L3_72⟩ => (g_56 n dp e 4 I3_72 L3_72 i1 (i2 + Int32.ofInt (1)))) else none) else none))))) else none)) else none))) else none)
    else if lab = 6 then (if 1 ≤ dp then (g_59 n (dp - 1) e 0 I L (91 : Int32)).bind (fun ⟨x0_3, I0_3, L0_3⟩ => (if x0_3 = 0 then (if (I0_3 104 7) < (50 : Int32) then (if 1 ≤ dp then (g_54 n (dp - 1) e 0 I0_3 L0_3 (0 : Int32) (1000 : Int32)).bind (fun ⟨x1_31, I1_31, L1_31⟩ => (if x1_31 = 0 then (if 1 ≤ dp then (g_41 n (dp - 1) e 0 I1_31 L1_31 0 4).bind (fun ⟨x2_56, I2_56, L2_56⟩ => (if x2_56 = 0 then (if 1 ≤ dp then (g_41 n (dp - 1) e 0 I2_56 L2_56 0 5).bind (fun ⟨x3_78, I3_78, L3_78⟩ => (if x3_78 = 0 then (if 1 ≤ dp then (g_41 n (dp - 1) e 0 I3_78 L3_78 0 6).bind (fun ⟨x4_100, I4_100, L4_100⟩ => (if x4_100 = 0 then (if 1 ≤ dp then (g_41 n (dp - 1) e 0 I4_100 L4_100 0 7).bind (fun ⟨x5_122, I5_122, L5_122⟩ => (if x5_122 = 0 then (if 1 ≤ dp then (g_41 n (dp - 1) e 0 I5_122 L5_122 0 8).bind (fun ⟨x6_144, I6_144, L6_144⟩ => (if x6_144 = 0 then (some ((0 : Int32), I6_144, L6_144)) else ((e.2.2 104 1).bind (fun b_151 => (if b_151 < e.1 ∧ (e.2.1 b_151).1 = 10 then (if 1 ≤ dp then (g_61 n (dp - 1) e 0 I6_144 L6_144 (1 : Int32) (4 : Int32) b_151).bind (fun ⟨x7_156, I7_156, L7_156⟩ => (g_56 n dp e 7 I7_156 L7_156 i1 0)) else none) else none))))) else none) else ((e.2.2 104 1).bind (fun b_129 => (if b_129 < e.1 ∧ (e.2.1 b_129).1 = 10 then (if 1 ≤ dp then (g_61 n (dp - 1) e 0 I5_122 L5_122 (1 : Int32) (3 : Int32) b_129).bind (fun ⟨x6_134, I6_134, L6_134⟩ => (g_56 n dp e 7 I6_134 L6_134 i1 0)) else none) else none))))) else none) else ((e.2.2 104 1).bind (fun b_107 => (if b_107 < e.1 ∧ (e.2.1 b_107).1 = 10 then (if 1 ≤ dp then (g_61 n (dp - 1) e 0 I4_100 L4_100 (1 : Int32) (2 : Int32) b_107).bind (fun ⟨x5_112, I5_112, L5_112⟩ => (g_56 n dp e 7 I5_112 L5_112 i1 0)) else none) else none))))) else none) else ((e.2.2 104 1).bind (fun b_85 => (if b_85 < e.1 ∧ (e.2.1 b_85).1 = 10 then (if 1 ≤ dp then (g_61 n (dp - 1) e 0 I3_78 L3_78 (1 : Int32) (1 : Int32) b_85).bind (fun ⟨x4_90, I4_90, L4_90⟩ => (g_56 n dp e 7 I4_90 L4_90 i1 0)) else none) else none))))) else none) else ((e.2.2 104 1).bind (fun b_63 => (if b_63 < e.1 ∧ (e.2.1 b_63).1 = 10 then (if 1 ≤ dp then (g_61 n (dp - 1) e 0 I2_56 L2_56 (1 : Int32) (0 : Int32) b_63).bind (fun ⟨x3_68, I3_68, L3_68⟩ => (g_56 n dp e 7 I3_68 L3_68 i1 0)) else none) else none))))) else none) else ((e.2.2 104 1).bind (fun b_38 => (if b_38 < e.1 ∧ (e.2.1 b_38).1 = 10 then (if 1 ≤ dp then (g_61 n (dp - 1) e 0 I1_31 L1_31 (0 : Int32) (I1_31 104 6) b_38).bind (fun ⟨x2_46, I2_46, L2_46⟩ => (g_56 n dp e 7 I2_46 L2_46 i1 0)) else none) else none))))) else none) else (some ((0 : Int32), I0_3, L0_3))) else (if 1 ≤ dp then (g_56 n (dp - 1) e 8 I0_3 L0_3 i1 0).bind (fun ⟨x1_11, I1_11, L1_11⟩ => (if x1_11 = 0 ∨ x1_11 = 1 then (some (x1_11, I1_11, L1_11)) else none)) else none))) else none)
    else if lab = 7 then (stI (u2 I 104 7 ((I 104 7) + (1 : Int32))) (fun I_172 => (if 1 ≤ dp then (g_37 n (dp - 1) e 0 I_172 L 0).bind (fun ⟨I0_176, L0_176⟩ => (some ((1 : Int32), I0_176, L0_176))) else none)))
    else if lab = 8 then (if i1 < (8 : Int32) then (if 1 ≤ dp then (g_37 n (dp - 1) e 0 I L 0).bind (fun ⟨I0_9, L0_9⟩ => (if 1 ≤ dp then (g_56 n (dp - 1) e 0 I0_9 L0_9 (i1 + (1 : Int32)) 0).bind (fun ⟨x1_16, I1_16, L1_16⟩ => (if x1_16 = 0 then (some ((0 : Int32), I1_16, L1_16)) else (if 1 ≤ dp then (g_59 n (dp - 1) e 0 I1_16 L1_16 (93 : Int32)).bind (fun ⟨x2_25, I2_25, L2_25⟩ => (if x2_25 = 0 then (some ((0 : Int32), I2_25, L2_25)) else (if 1 ≤ dp then (g_37 n (dp - 1) e 0 I2_25 L2_25 0).bind (fun ⟨I3_34, L3_34⟩ => (some ((1 : Int32), I3_34, L3_34))) else none))) else none))) else none)) else none) else (some ((0 : Int32), I, L)))
    else none
set_option maxRecDepth 100000 in
theorem e_56_0 (n dp : Nat) (e : EN) (I : (Nat → Nat → Int32)) (L : (Nat → Nat → Int64)) (i1 : Int32) (i2 : Int32) : g_56 (n + 1) dp e 0 I L i1 i2 = (if 1 ≤ dp then (g_56 n (dp - 1) e 3 I L i1 0).bind (fun ⟨x0_2, I0_2, L0_2⟩ => (if x0_2 = 0 then (some ((0 : Int32), I0_2, L0_2)) else (g_56 n dp e 1 I0_2 L0_2 i1 (0 : Int32)))) else none) := by rw [g_56.eq_2, if_pos (show (0 : Nat) = 0 from rfl)]
set_option maxRecDepth 100000 in
theorem e_56_1 (n dp : Nat) (e : EN) (I : (Nat → Nat → Int32)) (L : (Nat → Nat → Int64)) (i1 : Int32) (i2 : Int32) : g_56 (n + 1) dp e 1 I L i1 i2 = (if (400 : Int32) ≤ i2 then (some ((1 : Int32), I, L)) else (if 1 ≤ dp then (g_59 n (dp - 1) e 0 I L (43 : Int32)).bind (fun ⟨x0_22, I0_22, L0_22⟩ => (if x0_22 = 0 then (if 1 ≤ dp then (g_59 n (dp - 1) e 0 I0_22 L0_22 (45 : Int32)).bind (fun ⟨x1_31, I1_31, L1_31⟩ => (if x1_31 = 0 then (some ((1 : Int32), I1_31, L1_31)) else (g_56 n dp e 2 I1_31 L1_31 i1 i2))) else none) else (g_56 n dp e 2 I0_22 L0_22 i1 i2))) else none)) := by rw [g_56.eq_2, if_neg (show ¬ ((1 : Nat) = 0) by decide), if_pos (show (1 : Nat) = 1 from rfl)]
set_option maxRecDepth 100000 in
theorem e_56_2 (n dp : Nat) (e : EN) (I : (Nat → Nat → Int32)) (L : (Nat → Nat → Int64)) (i1 : Int32) (i2 : Int32) : g_56 (n + 1) dp e 2 I L i1 i2 = (if 1 ≤ dp then (g_59 n (dp - 1) e 0 I L (43 : Int32)).bind (fun ⟨x0_40, I0_40, L0_40⟩ => (if x0_40 = 0 then (if 1 ≤ dp then (g_37 n (dp - 1) e 0 I0_40 L0_40 0).bind (fun ⟨I1_53, L1_53⟩ => (if 1 ≤ dp then (g_56 n (dp - 1) e 3 I1_53 L1_53 i1 0).bind (fun ⟨x2_58, I2_58, L2_58⟩ => (if x2_58 = 0 then (some ((0 : Int32), I2_58, L2_58)) else ((e.2.2 104 1).bind (fun b_67 => (if b_67 < e.1 ∧ (e.2.1 b_67).1 = 10 then (if 1 ≤ dp then (g_61 n (dp - 1) e 0 I2_58 L2_58 (3 : Int32) (0 : Int32) b_67).bind (fun ⟨x3_72, I3_72, L3_72⟩ => (g_56 n dp e 1 I3_72 L3_72 i1 (i2 + Int32.ofInt (1)))) else none) else none))))) else none)) else none) else (if 1 ≤ dp then (g_37 n (dp - 1) e 0 I0_40 L0_40 0).bind (fun ⟨I1_53, L1_53⟩ => (if 1 ≤ dp then (g_56 n (dp - 1) e 3 I1_53 L1_53 i1 0).bind (fun ⟨x2_58, I2_58, L2_58⟩ => (if x2_58 = 0 then (some ((0 : Int32), I2_58, L2_58)) else ((e.2.2 104 1).bind (fun b_67 => (if b_67 < e.1 ∧ (e.2.1 b_67).1 = 10 then (if 1 ≤ dp then (g_61 n (dp - 1) e 0 I2_58 L2_58 (2 : Int32) (0 : Int32) b_67).bind (fun ⟨x3_72, I3_72, L3_72⟩ => (g_56 n dp e 1 I3_72 L3_72 i1 (i2 + Int32.ofInt (1)))) else none) else none))))) else none)) else none))) else none) := by rw [g_56.eq_2, if_neg (show ¬ ((2 : Nat) = 0) by decide), if_neg (show ¬ ((2 : Nat) = 1) by decide), if_pos (show (2 : Nat) = 2 from rfl)]
set_option maxRecDepth 100000 in
theorem e_56_3 (n dp : Nat) (e : EN) (I : (Nat → Nat → Int32)) (L : (Nat → Nat → Int64)) (i1 : Int32) (i2 : Int32) : g_56 (n + 1) dp e 3 I L i1 i2 = (if 1 ≤ dp then (g_56 n (dp - 1) e 6 I L i1 0).bind (fun ⟨x0_2, I0_2, L0_2⟩ => (if x0_2 = 0 then (some ((0 : Int32), I0_2, L0_2)) else (g_56 n dp e 4 I0_2 L0_2 i1 (0 : Int32)))) else none) := by rw [g_56.eq_2, if_neg (show ¬ ((3 : Nat) = 0) by decide), if_neg (show ¬ ((3 : Nat) = 1) by decide), if_neg (show ¬ ((3 : Nat) = 2) by decide), if_pos (show (3 : Nat) = 3 from rfl)]
set_option maxRecDepth 100000 in
theorem e_56_4 (n dp : Nat) (e : EN) (I : (Nat → Nat → Int32)) (L : (Nat → Nat → Int64)) (i1 : Int32) (i2 : Int32) : g_56 (n + 1) dp e 4 I L i1 i2 = (if (400 : Int32) ≤ i2 then (some ((1 : Int32), I, L)) else (if 1 ≤ dp then (g_59 n (dp - 1) e 0 I L (42 : Int32)).bind (fun ⟨x0_22, I0_22, L0_22⟩ => (if x0_22 = 0 then (if 1 ≤ dp then (g_59 n (dp - 1) e 0 I0_22 L0_22 (47 : Int32)).bind (fun ⟨x1_31, I1_31, L1_31⟩ => (if x1_31 = 0 then (some ((1 : Int32), I1_31, L1_31)) else (g_56 n dp e 5 I1_31 L1_31 i1 i2))) else none) else (g_56 n dp e 5 I0_22 L0_22 i1 i2))) else none)) := by rw [g_56.eq_2, if_neg (show ¬ ((4 : Nat) = 0) by decide), if_neg (show ¬ ((4 : Nat) = 1) by decide), if_neg (show ¬ ((4 : Nat) = 2) by decide), if_neg (show ¬ ((4 : Nat) = 3) by decide), if_pos (show (4 : Nat) = 4 from rfl)]
set_option maxRecDepth 100000 in
theorem e_56_5 (n dp : Nat) (e : EN) (I : (Nat → Nat → Int32)) (L : (Nat → Nat → Int64)) (i1 : Int32) (i2 : Int32) : g_56 (n + 1) dp e 5 I L i1 i2 = (if 1 ≤ dp then (g_59 n (dp - 1) e 0 I L (42 : Int32)).bind (fun ⟨x0_40, I0_40, L0_40⟩ => (if x0_40 = 0 then (if 1 ≤ dp then (g_37 n (dp - 1) e 0 I0_40 L0_40 0).bind (fun ⟨I1_53, L1_53⟩ => (if 1 ≤ dp then (g_56 n (dp - 1) e 6 I1_53 L1_53 i1 0).bind (fun ⟨x2_58, I2_58, L2_58⟩ => (if x2_58 = 0 then (some ((0 : Int32), I2_58, L2_58)) else ((e.2.2 104 1).bind (fun b_67 => (if b_67 < e.1 ∧ (e.2.1 b_67).1 = 10 then (if 1 ≤ dp then (g_61 n (dp - 1) e 0 I2_58 L2_58 (5 : Int32) (0 : Int32) b_67).bind (fun ⟨x3_72, I3_72, L3_72⟩ => (g_56 n dp e 4 I3_72 L3_72 i1 (i2 + Int32.ofInt (1)))) else none) else none))))) else none)) else none) else (if 1 ≤ dp then (g_37 n (dp - 1) e 0 I0_40 L0_40 0).bind (fun ⟨I1_53, L1_53⟩ => (if 1 ≤ dp then (g_56 n (dp - 1) e 6 I1_53 L1_53 i1 0).bind (fun ⟨x2_58, I2_58, L2_58⟩ => (if x2_58 = 0 then (some ((0 : Int32), I2_58, L2_58)) else ((e.2.2 104 1).bind (fun b_67 => (if b_67 < e.1 ∧ (e.2.1 b_67).1 = 10 then (if 1 ≤ dp then (g_61 n (dp - 1) e 0 I2_58 L2_58 (4 : Int32) (0 : Int32) b_67).bind (fun ⟨x3_72, I3_72, L3_72⟩ => (g_56 n dp e 4 I3_72 L3_72 i1 (i2 + Int32.ofInt (1)))) else none) else none))))) else none)) else none))) else none) := by rw [g_56.eq_2, if_neg (show ¬ ((5 : Nat) = 0) by decide), if_neg (show ¬ ((5 : Nat) = 1) by decide), if_neg (show ¬ ((5 : Nat) = 2) by decide), if_neg (show ¬ ((5 : Nat) = 3) by decide), if_neg (show ¬ ((5 : Nat) = 4) by decide), if_pos (show (5 : Nat) = 5 from rfl)]
set_option maxRecDepth 100000 in
theorem e_56_6 (n dp : Nat) (e : EN) (I : (Nat → Nat → Int32)) (L : (Nat → Nat → Int64)) (i1 : Int32) (i2 : Int32) : g_56 (n + 1) dp e 6 I L i1 i2 = (if 1 ≤ dp then (g_59 n (dp - 1) e 0 I L (91 : Int32)).bind (fun ⟨x0_3, I0_3, L0_3⟩ => (if x0_3 = 0 then (if (I0_3 104 7) < (50 : Int32) then (if 1 ≤ dp then (g_54 n (dp - 1) e 0 I0_3 L0_3 (0 : Int32) (1000 : Int32)).bind (fun ⟨x1_31, I1_31, L1_31⟩ => (if x1_31 = 0 then (if 1 ≤ dp then (g_41 n (dp - 1) e 0 I1_31 L1_31 0 4).bind (fun ⟨x2_56, I2_56, L2_56⟩ => (if x2_56 = 0 then (if 1 ≤ dp then (g_41 n (dp - 1) e 0 I2_56 L2_56 0 5).bind (fun ⟨x3_78, I3_78, L3_78⟩ => (if x3_78 = 0 then (if 1 ≤ dp then (g_41 n (dp - 1) e 0 I3_78 L3_78 0 6).bind (fun ⟨x4_100, I4_100, L4_100⟩ => (if x4_100 = 0 then (if 1 ≤ dp then (g_41 n (dp - 1) e 0 I4_100 L4_100 0 7).bind (fun ⟨x5_122, I5_122, L5_122⟩ => (if x5_122 = 0 then (if 1 ≤ dp then (g_41 n (dp - 1) e 0 I5_122 L5_122 0 8).bind (fun ⟨x6_144, I6_144, L6_144⟩ => (if x6_144 = 0 then (some ((0 : Int32), I6_144, L6_144)) else ((e.2.2 104 1).bind (fun b_151 => (if b_151 < e.1 ∧ (e.2.1 b_151).1 = 10 then (if 1 ≤ dp then (g_61 n (dp - 1) e 0 I6_144 L6_144 (1 : Int32) (4 : Int32) b_151).bind (fun ⟨x7_156, I7_156, L7_156⟩ => (g_56 n dp e 7 I7_156 L7_156 i1 0)) else none) else none))))) else none) else ((e.2.2 104 1).bind (fun b_129 => (if b_129 < e.1 ∧ (e.2.1 b_129).1 = 10 then (if 1 ≤ dp then (g_61 n (dp - 1) e 0 I5_122 L5_122 (1 : Int32) (3 : Int32) b_129).bind (fun ⟨x6_134, I6_134, L6_134⟩ => (g_56 n dp e 7 I6_134 L6_134 i1 0)) else none) else none))))) else none) else ((e.2.2 104 1).bind (fun b_107 => (if b_107 < e.1 ∧ (e.2.1 b_107).1 = 10 then (if 1 ≤ dp then (g_61 n (dp - 1) e 0 I4_100 L4_100 (1 : Int32) (2 : Int32) b_107).bind (fun ⟨x5_112, I5_112, L5_112⟩ => (g_56 n dp e 7 I5_112 L5_112 i1 0)) else none) else none))))) else none) else ((e.2.2 104 1).bind (fun b_85 => (if b_85 < e.1 ∧ (e.2.1 b_85).1 = 10 then (if 1 ≤ dp then (g_61 n (dp - 1) e 0 I3_78 L3_78 (1 : Int32) (1 : Int32) b_85).bind (fun ⟨x4_90, I4_90, L4_90⟩ => (g_56 n dp e 7 I4_90 L4_90 i1 0)) else none) else none))))) else none) else ((e.2.2 104 1).bind (fun b_63 => (if b_63 < e.1 ∧ (e.2.1 b_63).1 = 10 then (if 1 ≤ dp then (g_61 n (dp - 1) e 0 I2_56 L2_56 (1 : Int32) (0 : Int32) b_63).bind (fun ⟨x3_68, I3_68, L3_68⟩ => (g_56 n dp e 7 I3_68 L3_68 i1 0)) else none) else none))))) else none) else ((e.2.2 104 1).bind (fun b_38 => (if b_38 < e.1 ∧ (e.2.1 b_38).1 = 10 then (if 1 ≤ dp then (g_61 n (dp - 1) e 0 I1_31 L1_31 (0 : Int32) (I1_31 104 6) b_38).bind (fun ⟨x2_46, I2_46, L2_46⟩ => (g_56 n dp e 7 I2_46 L2_46 i1 0)) else none) else none))))) else none) else (some ((0 : Int32), I0_3, L0_3))) else (if 1 ≤ dp then (g_56 n (dp - 1) e 8 I0_3 L0_3 i1 0).bind (fun ⟨x1_11, I1_11, L1_11⟩ => (if x1_11 = 0 ∨ x1_11 = 1 then (some (x1_11, I1_11, L1_11)) else none)) else none))) else none) := by rw [g_56.eq_2, if_neg (show ¬ ((6 : Nat) = 0) by decide), if_neg (show ¬ ((6 : Nat) = 1) by decide), if_neg (show ¬ ((6 : Nat) = 2) by decide), if_neg (show ¬ ((6 : Nat) = 3) by decide), if_neg (show ¬ ((6 : Nat) = 4) by decide), if_neg (show ¬ ((6 : Nat) = 5) by decide), if_pos (show (6 : Nat) = 6 from rfl)]
set_option maxRecDepth 100000 in
theorem e_56_7 (n dp : Nat) (e : EN) (I : (Nat → Nat → Int32)) (L : (Nat → Nat → Int64)) (i1 : Int32) (i2 : Int32) : g_56 (n + 1) dp e 7 I L i1 i2 = (stI (u2 I 104 7 ((I 104 7) + (1 : Int32))) (fun I_172 => (if 1 ≤ dp then (g_37 n (dp - 1) e 0 I_172 L 0).bind (fun ⟨I0_176, L0_176⟩ => (some ((1 : Int32), I0_176, L0_176))) else none))) := by rw [g_56.eq_2, if_neg (show ¬ ((7 : Nat) = 0) by decide), if_neg (show ¬ ((7 : Nat) = 1) by decide), if_neg (show ¬ ((7 : Nat) = 2) by decide), if_neg (show ¬ ((7 : Nat) = 3) by decide), if_neg (show ¬ ((7 : Nat) = 4) by decide), if_neg (show ¬ ((7 : Nat) = 5) by decide), if_neg (show ¬ ((7 : Nat) = 6) by decide), if_pos (show (7 : Nat) = 7 from rfl)]
set_option maxRecDepth 100000 in
theorem e_56_8 (n dp : Nat) (e : EN) (I : (Nat → Nat → Int32)) (L : (Nat → Nat → Int64)) (i1 : Int32) (i2 : Int32) : g_56 (n + 1) dp e 8 I L i1 i2 = (if i1 < (8 : Int32) then (if 1 ≤ dp then (g_37 n (dp - 1) e 0 I L 0).bind (fun ⟨I0_9, L0_9⟩ => (if 1 ≤ dp then (g_56 n (dp - 1) e 0 I0_9 L0_9 (i1 + (1 : Int32)) 0).bind (fun ⟨x1_16, I1_16, L1_16⟩ => (if x1_16 = 0 then (some ((0 : Int32), I1_16, L1_16)) else (if 1 ≤ dp then (g_59 n (dp - 1) e 0 I1_16 L1_16 (93 : Int32)).bind (fun ⟨x2_25, I2_25, L2_25⟩ => (if x2_25 = 0 then (some ((0 : Int32), I2_25, L2_25)) else (if 1 ≤ dp then (g_37 n (dp - 1) e 0 I2_25 L2_25 0).bind (fun ⟨I3_34, L3_34⟩ => (some ((1 : Int32), I3_34, L3_34))) else none))) else none))) else none)) else none) else (some ((0 : Int32), I, L))) := by rw [g_56.eq_2, if_neg (show ¬ ((8 : Nat) = 0) by decide), if_neg (show ¬ ((8 : Nat) = 1) by decide), if_neg (show ¬ ((8 : Nat) = 2) by decide), if_neg (show ¬ ((8 : Nat) = 3) by decide), if_neg (show ¬ ((8 : Nat) = 4) by decide), if_neg (show ¬ ((8 : Nat) = 5) by decide), if_neg (show ¬ ((8 : Nat) = 6) by decide), if_neg (show ¬ ((8 : Nat) = 7) by decide), if_pos (show (8 : Nat) = 8 from rfl)]
set_option maxHeartbeats 8000000 in
set_option maxRecDepth 100000 in
theorem w_56 (X : GX) {z : Nat} {kd : Nat → Nat × Nat} {Rf : Nat → Nat → Option Nat} (hS : Sh z kd Rf) : ∀ (n dp d : Nat), dp ≤ d → ∀ (I : (Nat → Nat → Int32)) (L : (Nat → Nat → Int64)) (i1 : Int32) (i2 : Int32) (r : Int32) (I1 : (Nat → Nat → Int32)) (L1 : (Nat → Nat → Int64)), (g_56 n dp (z, kd, Rf) 0 I L i1 i2 = some (r, I1, L1) → K X d 56 0 0 (AI (fun x τ => x = r ∧ τ = (z, kd, I1, L1, Rf))) 0 [some (.ref 104), some (.int i1), none, none] [] (z, kd, I, L, Rf) 0 0) ∧
    (g_56 n dp (z, kd, Rf) 1 I L i1 i2 = some (r, I1, L1) → K X d 56 0 0 (AI (fun x τ => x = r ∧ τ = (z, kd, I1, L1, Rf))) 12 [some (.ref 104), some (.int i1), some (.int i2), none] [] (z, kd, I, L, Rf) 0 0) ∧
    (g_56 n dp (z, kd, Rf) 2 I L i1 i2 = some (r, I1, L1) → K X d 56 0 0 (AI (fun x τ => x = r ∧ τ = (z, kd, I1, L1, Rf))) 37 [some (.ref 104), some (.int i1), some (.int i2), none] [] (z, kd, I, L, Rf) 0 0) ∧
    (g_56 n dp (z, kd, Rf) 3 I L i1 i2 = some (r, I1, L1) → K X d 57 0 0 (AI (fun x τ => x = r ∧ τ = (z, kd, I1, L1, Rf))) 0 [some (.ref 104), some (.int i1), none, none] [] (z, kd, I, L, Rf) 0 0) ∧
    (g_56 n dp (z, kd, Rf) 4 I L i1 i2 = some (r, I1, L1) → K X d 57 0 0 (AI (fun x τ => x = r ∧ τ = (z, kd, I1, L1, Rf))) 12 [some (.ref 104), some (.int i1), some (.int i2), none] [] (z, kd, I, L, Rf) 0 0) ∧
    (g_56 n dp (z, kd, Rf) 5 I L i1 i2 = some (r, I1, L1) → K X d 57 0 0 (AI (fun x τ => x = r ∧ τ = (z, kd, I1, L1, Rf))) 37 [some (.ref 104), some (.int i1), some (.int i2), none] [] (z, kd, I, L, Rf) 0 0) ∧
    (g_56 n dp (z, kd, Rf) 6 I L i1 i2 = some (r, I1, L1) → K X d 58 0 0 (AI (fun x τ => x = r ∧ τ = (z, kd, I1, L1, Rf))) 0 [some (.ref 104), some (.int i1)] [] (z, kd, I, L, Rf) 0 0) ∧
    (g_56 n dp (z, kd, Rf) 7 I L i1 i2 = some (r, I1, L1) → K X d 58 0 0 (AI (fun x τ => x = r ∧ τ = (z, kd, I1, L1, Rf))) 165 [some (.ref 104), some (.int i1)] [] (z, kd, I, L, Rf) 0 0) ∧
    (g_56 n dp (z, kd, Rf) 8 I L i1 i2 = some (r, I1, L1) → K X d 60 0 0 (AI (fun x τ => x = r ∧ τ = (z, kd, I1, L1, Rf))) 0 [some (.ref 104), some (.int i1)] [] (z, kd, I, L, Rf) 0 0) := by
  intro n
  induction n with
  | zero => intro dp d hdp I L i1 i2 r I1 L1; exact ⟨(fun h => by cases h), (fun h => by cases h), (fun h => by cases h), (fun h => by cases h), (fun h => by cases h), (fun h => by cases h), (fun h => by cases h), (fun h => by cases h), (fun h => by cases h)⟩
  | succ n ih =>
    intro dp d hdp I L i1 i2 r I1 L1
    refine ⟨?_, ?_, ?_, ?_, ?_, ?_, ?_, ?_, ?_⟩
    · intro h
      rw [e_56_0] at h
      refine K_of b_56_0 h_56_0 ?_
      refine q_aload rfl ?_
      refine q_iload rfl ?_
      obtain ⟨d_2, h⟩ := ite_some h
      obtain ⟨⟨x0_2, I0_2, L0_2⟩, e_2, h⟩ := Option.bind_eq_some_iff.mp h
      dsimp only at h
      refine q_fv2I (Ct_of mu_57 (Nat.le_of_ble_eq_true rfl) ((ih (dp - 1) (d - 1) (by omega) _ _ i1 0 _ _ _).2.2.2.1 e_2)) (by omega) (Nat.le_refl _) (Nat.le_refl _) rfl (Nat.le_of_ble_eq_true rfl) ⟨(zl hS 104 (by decide)), congrArg Prod.fst (sk hS 104 (by decide) rfl), by decide⟩ ?_
      refine q_if_ne (fun c_5 => ?_) (fun c_5 => ?_)
      · rw [if_neg c_5] at h
        refine K_of b_56_10 h_56_10 ?_
        refine q_iconst (0) (by decide) ?_
        refine q_istore (ls1 := [some (.ref 104), some (.int i1), some (.int (0 : Int32)), none]) (Nat.le_of_ble_eq_true rfl) rfl ?_
        refine q_end ?_
        exact (ih dp d hdp _ _ i1 (0 : Int32) _ _ _).2.1 h
      · rw [if_pos c_5] at h
        refine q_iconst (0) (by decide) ?_
        cases h
        exact q_iret rfl (Nat.le_refl _) (Nat.le_refl _) ⟨rfl, rfl⟩
    · intro h
      rw [e_56_1] at h
      refine K_of b_56_12 h_56_12 ?_
      refine q_iload rfl ?_
      refine q_iconst (400) (by decide) ?_
      refine q_icmp_ge (fun c_16 => ?_) (fun c_16 => ?_)
      · rw [if_pos c_16] at h
        refine K_of b_56_82 h_56_82 ?_
        refine q_iconst (1) (by decide) ?_
        cases h
        exact q_iret rfl (Nat.le_refl _) (Nat.le_refl _) ⟨rfl, rfl⟩
      · rw [if_neg c_16] at h
        refine q_aload rfl ?_
        refine q_iconst (43) (by decide) ?_
        obtain ⟨d_22, h⟩ := ite_some h
        obtain ⟨⟨x0_22, I0_22, L0_22⟩, e_22, h⟩ := Option.bind_eq_some_iff.mp h
        dsimp only at h
        refine q_fv2I (a_59 X hS (d := d - 1) (by omega) e_22) (by omega) (Nat.le_refl _) (Nat.le_refl _) rfl (Nat.le_of_ble_eq_true rfl) ⟨(zl hS 104 (by decide)), congrArg Prod.fst (sk hS 104 (by decide) rfl), by decide⟩ ?_
        refine q_if_ne (fun c_25 => ?_) (fun c_25 => ?_)
        · rw [if_neg c_25] at h
          exact (ih dp d hdp _ _ i1 i2 _ _ _).2.2.1 h
        · rw [if_pos c_25] at h
          refine q_aload rfl ?_
          refine q_iconst (45) (by decide) ?_
          obtain ⟨d_31, h⟩ := ite_some h
          obtain ⟨⟨x1_31, I1_31, L1_31⟩, e_31, h⟩ := Option.bind_eq_some_iff.mp h
          dsimp only at h
          refine q_fv2I (a_59 X hS (d := d - 1) (by omega) e_31) (by omega) (Nat.le_refl _) (Nat.le_refl _) rfl (Nat.le_of_ble_eq_true rfl) ⟨(zl hS 104 (by decide)), congrArg Prod.fst (sk hS 104 (by decide) rfl), by decide⟩ ?_
          refine q_if_eq (fun c_34 => ?_) (fun c_34 => ?_)
          · rw [if_pos c_34] at h
            refine K_of b_56_82 h_56_82 ?_
            refine q_iconst (1) (by decide) ?_
            cases h
            exact q_iret rfl (Nat.le_refl _) (Nat.le_refl _) ⟨rfl, rfl⟩
          · rw [if_neg c_34] at h
            refine q_end ?_
            exact (ih dp d hdp _ _ i1 i2 _ _ _).2.2.1 h
    · intro h
      rw [e_56_2] at h
      refine K_of b_56_37 h_56_37 ?_
      refine q_aload rfl ?_
      refine q_iconst (43) (by decide) ?_
      obtain ⟨d_40, h⟩ := ite_some h
      obtain ⟨⟨x0_40, I0_40, L0_40⟩, e_40, h⟩ := Option.bind_eq_some_iff.mp h
      dsimp only at h
      refine q_fv2I (a_59 X hS (d := d - 1) (by omega) e_40) (by omega) (Nat.le_refl _) (Nat.le_refl _) rfl (Nat.le_of_ble_eq_true rfl) ⟨(zl hS 104 (by decide)), congrArg Prod.fst (sk hS 104 (by decide) rfl), by decide⟩ ?_
      refine q_if_eq (fun c_43 => ?_) (fun c_43 => ?_)
      · rw [if_pos c_43] at h
        refine K_of b_56_50 h_56_50 ?_
        refine q_iconst (3) (by decide) ?_
        refine q_end ?_
        refine K_of b_56_51 h_56_51 ?_
        refine q_istore (ls1 := [some (.ref 104), some (.int i1), some (.int i2), some (.int (3 : Int32))]) (Nat.le_of_ble_eq_true rfl) rfl ?_
        refine q_aload rfl ?_
        obtain ⟨d_53, h⟩ := ite_some h
        obtain ⟨⟨I1_53, L1_53⟩, e_53, h⟩ := Option.bind_eq_some_iff.mp h
        dsimp only at h
        refine q_fv1V (a_37 X hS (d := d - 1) (by omega) e_53) (by omega) (Nat.le_refl _) (Nat.le_refl _) rfl (Nat.le_of_ble_eq_true rfl) ⟨(zl hS 104 (by decide)), congrArg Prod.fst (sk hS 104 (by decide) rfl), by decide⟩ ?_
        refine q_aload rfl ?_
        refine q_iload rfl ?_
        obtain ⟨d_58, h⟩ := ite_some h
        obtain ⟨⟨x2_58, I2_58, L2_58⟩, e_58, h⟩ := Option.bind_eq_some_iff.mp h
        dsimp only at h
        refine q_fv2I (Ct_of mu_57 (Nat.le_of_ble_eq_true rfl) ((ih (dp - 1) (d - 1) (by omega) _ _ i1 0 _ _ _).2.2.2.1 e_58)) (by omega) (Nat.le_refl _) (Nat.le_refl _) rfl (Nat.le_of_ble_eq_true rfl) ⟨(zl hS 104 (by decide)), congrArg Prod.fst (sk hS 104 (by decide) rfl), by decide⟩ ?_
        refine q_if_ne (fun c_61 => ?_) (fun c_61 => ?_)
        · rw [if_neg c_61] at h
          refine K_of b_56_66 h_56_66 ?_
          refine q_aload rfl ?_
          obtain ⟨b_67, r_67, h⟩ := Option.bind_eq_some_iff.mp h
          refine q_getRs (c0 := 8) (j := 1) rfl rfl (zl hS 104 (by decide)) (sk hS 104 (by decide) rfl) rfl (by decide) r_67 ?_
          refine q_iload rfl ?_
          refine q_iconst (0) (by decide) ?_
          obtain ⟨⟨z_72, k_72⟩, h⟩ := ite_some h
          obtain ⟨d_72, h⟩ := ite_some h
          obtain ⟨⟨x3_72, I3_72, L3_72⟩, e_72, h⟩ := Option.bind_eq_some_iff.mp h
          dsimp only at h
          refine q_fv3I (a_61 X hS (d := d - 1) (by omega) e_72) (by omega) (Nat.le_refl _) (Nat.le_refl _) rfl (Nat.le_of_ble_eq_true rfl) ⟨z_72, k_72, by decide⟩ ?_
          refine q_pop rfl ?_
          refine q_iinc (ls1 := [some (.ref 104), some (.int i1), some (.int (i2 + Int32.ofInt (1))), some (.int (3 : Int32))]) rfl rfl ?_
          refine q_goto ?_
          refine K_mask [true, true, true, false] (Nat.le_of_ble_eq_true rfl) ?_
          exact (ih dp d hdp _ _ i1 (i2 + Int32.ofInt (1)) _ _ _).2.1 h
        · rw [if_pos c_61] at h
          refine q_iconst (0) (by decide) ?_
          cases h
          exact q_iret rfl (Nat.le_refl _) (Nat.le_refl _) ⟨rfl, rfl⟩
      · rw [if_neg c_43] at h
        refine q_iconst (2) (by decide) ?_
        refine q_goto ?_
        refine K_of b_56_51 h_56_51 ?_
        refine q_istore (ls1 := [some (.ref 104), some (.int i1), some (.int i2), some (.int (2 : Int32))]) (Nat.le_of_ble_eq_true rfl) rfl ?_
        refine q_aload rfl ?_
        obtain ⟨d_53, h⟩ := ite_some h
        obtain ⟨⟨I1_53, L1_53⟩, e_53, h⟩ := Option.bind_eq_some_iff.mp h
        dsimp only at h
        refine q_fv1V (a_37 X hS (d := d - 1) (by omega) e_53) (by omega) (Nat.le_refl _) (Nat.le_refl _) rfl (Nat.le_of_ble_eq_true rfl) ⟨(zl hS 104 (by decide)), congrArg Prod.fst (sk hS 104 (by decide) rfl), by decide⟩ ?_
        refine q_aload rfl ?_
        refine q_iload rfl ?_
        obtain ⟨d_58, h⟩ := ite_some h
        obtain ⟨⟨x2_58, I2_58, L2_58⟩, e_58, h⟩ := Option.bind_eq_some_iff.mp h
        dsimp only at h
        refine q_fv2I (Ct_of mu_57 (Nat.le_of_ble_eq_true rfl) ((ih (dp - 1) (d - 1) (by omega) _ _ i1 0 _ _ _).2.2.2.1 e_58)) (by omega) (Nat.le_refl _) (Nat.le_refl _) rfl (Nat.le_of_ble_eq_true rfl) ⟨(zl hS 104 (by decide)), congrArg Prod.fst (sk hS 104 (by decide) rfl), by decide⟩ ?_
        refine q_if_ne (fun c_61 => ?_) (fun c_61 => ?_)
        · rw [if_neg c_61] at h
          refine K_of b_56_66 h_56_66 ?_
          refine q_aload rfl ?_
          obtain ⟨b_67, r_67, h⟩ := Option.bind_eq_some_iff.mp h
          refine q_getRs (c0 := 8) (j := 1) rfl rfl (zl hS 104 (by decide)) (sk hS 104 (by decide) rfl) rfl (by decide) r_67 ?_
          refine q_iload rfl ?_
          refine q_iconst (0) (by decide) ?_
          obtain ⟨⟨z_72, k_72⟩, h⟩ := ite_some h
          obtain ⟨d_72, h⟩ := ite_some h
          obtain ⟨⟨x3_72, I3_72, L3_72⟩, e_72, h⟩ := Option.bind_eq_some_iff.mp h
          dsimp only at h
          refine q_fv3I (a_61 X hS (d := d - 1) (by omega) e_72) (by omega) (Nat.le_refl _) (Nat.le_refl _) rfl (Nat.le_of_ble_eq_true rfl) ⟨z_72, k_72, by decide⟩ ?_
          refine q_pop rfl ?_
          refine q_iinc (ls1 := [some (.ref 104), some (.int i1), some (.int (i2 + Int32.ofInt (1))), some (.int (2 : Int32))]) rfl rfl ?_
          refine q_goto ?_
          refine K_mask [true, true, true, false] (Nat.le_of_ble_eq_true rfl) ?_
          exact (ih dp d hdp _ _ i1 (i2 + Int32.ofInt (1)) _ _ _).2.1 h
        · rw [if_pos c_61] at h
          refine q_iconst (0) (by decide) ?_
          cases h
          exact q_iret rfl (Nat.le_refl _) (Nat.le_refl _) ⟨rfl, rfl⟩
    · intro h
      rw [e_56_3] at h
      refine K_of b_57_0 h_57_0 ?_
      refine q_aload rfl ?_
      refine q_iload rfl ?_
      obtain ⟨d_2, h⟩ := ite_some h
      obtain ⟨⟨x0_2, I0_2, L0_2⟩, e_2, h⟩ := Option.bind_eq_some_iff.mp h
      dsimp only at h
      refine q_fv2I (Ct_of mu_58 (Nat.le_of_ble_eq_true rfl) ((ih (dp - 1) (d - 1) (by omega) _ _ i1 0 _ _ _).2.2.2.2.2.2.1 e_2)) (by omega) (Nat.le_refl _) (Nat.le_refl _) rfl (Nat.le_of_ble_eq_true rfl) ⟨(zl hS 104 (by decide)), congrArg Prod.fst (sk hS 104 (by decide) rfl), by decide⟩ ?_
      refine q_if_ne (fun c_5 => ?_) (fun c_5 => ?_)
      · rw [if_neg c_5] at h
        refine K_of b_57_10 h_57_10 ?_
        refine q_iconst (0) (by decide) ?_
        refine q_istore (ls1 := [some (.ref 104), some (.int i1), some (.int (0 : Int32)), none]) (Nat.le_of_ble_eq_true rfl) rfl ?_
        refine q_end ?_
        exact (ih dp d hdp _ _ i1 (0 : Int32) _ _ _).2.2.2.2.1 h
      · rw [if_pos c_5] at h
        refine q_iconst (0) (by decide) ?_
        cases h
        exact q_iret rfl (Nat.le_refl _) (Nat.le_refl _) ⟨rfl, rfl⟩
    · intro h
      rw [e_56_4] at h
      refine K_of b_57_12 h_57_12 ?_
      refine q_iload rfl ?_
      refine q_iconst (400) (by decide) ?_
      refine q_icmp_ge (fun c_16 => ?_) (fun c_16 => ?_)
      · rw [if_pos c_16] at h
        refine K_of b_57_82 h_57_82 ?_
        refine q_iconst (1) (by decide) ?_
        cases h
        exact q_iret rfl (Nat.le_refl _) (Nat.le_refl _) ⟨rfl, rfl⟩
      · rw [if_neg c_16] at h
        refine q_aload rfl ?_
        refine q_iconst (42) (by decide) ?_
        obtain ⟨d_22, h⟩ := ite_some h
        obtain ⟨⟨x0_22, I0_22, L0_22⟩, e_22, h⟩ := Option.bind_eq_some_iff.mp h
        dsimp only at h
        refine q_fv2I (a_59 X hS (d := d - 1) (by omega) e_22) (by omega) (Nat.le_refl _) (Nat.le_refl _) rfl (Nat.le_of_ble_eq_true rfl) ⟨(zl hS 104 (by decide)), congrArg Prod.fst (sk hS 104 (by decide) rfl), by decide⟩ ?_
        refine q_if_ne (fun c_25 => ?_) (fun c_25 => ?_)
        · rw [if_neg c_25] at h
          exact (ih dp d hdp _ _ i1 i2 _ _ _).2.2.2.2.2.1 h
        · rw [if_pos c_25] at h
          refine q_aload rfl ?_
          refine q_iconst (47) (by decide) ?_
          obtain ⟨d_31, h⟩ := ite_some h
          obtain ⟨⟨x1_31, I1_31, L1_31⟩, e_31, h⟩ := Option.bind_eq_some_iff.mp h
          dsimp only at h
          refine q_fv2I (a_59 X hS (d := d - 1) (by omega) e_31) (by omega) (Nat.le_refl _) (Nat.le_refl _) rfl (Nat.le_of_ble_eq_true rfl) ⟨(zl hS 104 (by decide)), congrArg Prod.fst (sk hS 104 (by decide) rfl), by decide⟩ ?_
          refine q_if_eq (fun c_34 => ?_) (fun c_34 => ?_)
          · rw [if_pos c_34] at h
            refine K_of b_57_82 h_57_82 ?_
            refine q_iconst (1) (by decide) ?_
            cases h
            exact q_iret rfl (Nat.le_refl _) (Nat.le_refl _) ⟨rfl, rfl⟩
          · rw [if_neg c_34] at h
            refine q_end ?_
            exact (ih dp d hdp _ _ i1 i2 _ _ _).2.2.2.2.2.1 h
    · intro h
      rw [e_56_5] at h
      refine K_of b_57_37 h_57_37 ?_
      refine q_aload rfl ?_
      refine q_iconst (42) (by decide) ?_
      obtain ⟨d_40, h⟩ := ite_some h
      obtain ⟨⟨x0_40, I0_40, L0_40⟩, e_40, h⟩ := Option.bind_eq_some_iff.mp h
      dsimp only at h
      refine q_fv2I (a_59 X hS (d := d - 1) (by omega) e_40) (by omega) (Nat.le_refl _) (Nat.le_refl _) rfl (Nat.le_of_ble_eq_true rfl) ⟨(zl hS 104 (by decide)), congrArg Prod.fst (sk hS 104 (by decide) rfl), by decide⟩ ?_
      refine q_if_eq (fun c_43 => ?_) (fun c_43 => ?_)
      · rw [if_pos c_43] at h
        refine K_of b_57_50 h_57_50 ?_
        refine q_iconst (5) (by decide) ?_
        refine q_end ?_
        refine K_of b_57_51 h_57_51 ?_
        refine q_istore (ls1 := [some (.ref 104), some (.int i1), some (.int i2), some (.int (5 : Int32))]) (Nat.le_of_ble_eq_true rfl) rfl ?_
        refine q_aload rfl ?_
        obtain ⟨d_53, h⟩ := ite_some h
        obtain ⟨⟨I1_53, L1_53⟩, e_53, h⟩ := Option.bind_eq_some_iff.mp h
        dsimp only at h
        refine q_fv1V (a_37 X hS (d := d - 1) (by omega) e_53) (by omega) (Nat.le_refl _) (Nat.le_refl _) rfl (Nat.le_of_ble_eq_true rfl) ⟨(zl hS 104 (by decide)), congrArg Prod.fst (sk hS 104 (by decide) rfl), by decide⟩ ?_
        refine q_aload rfl ?_
        refine q_iload rfl ?_
        obtain ⟨d_58, h⟩ := ite_some h
        obtain ⟨⟨x2_58, I2_58, L2_58⟩, e_58, h⟩ := Option.bind_eq_some_iff.mp h
        dsimp only at h
        refine q_fv2I (Ct_of mu_58 (Nat.le_of_ble_eq_true rfl) ((ih (dp - 1) (d - 1) (by omega) _ _ i1 0 _ _ _).2.2.2.2.2.2.1 e_58)) (by omega) (Nat.le_refl _) (Nat.le_refl _) rfl (Nat.le_of_ble_eq_true rfl) ⟨(zl hS 104 (by decide)), congrArg Prod.fst (sk hS 104 (by decide) rfl), by decide⟩ ?_
        refine q_if_ne (fun c_61 => ?_) (fun c_61 => ?_)
        · rw [if_neg c_61] at h
          refine K_of b_57_66 h_57_66 ?_
          refine q_aload rfl ?_
          obtain ⟨b_67, r_67, h⟩ := Option.bind_eq_some_iff.mp h
          refine q_getRs (c0 := 8) (j := 1) rfl rfl (zl hS 104 (by decide)) (sk hS 104 (by decide) rfl) rfl (by decide) r_67 ?_
          refine q_iload rfl ?_
          refine q_iconst (0) (by decide) ?_
          obtain ⟨⟨z_72, k_72⟩, h⟩ := ite_some h
          obtain ⟨d_72, h⟩ := ite_some h
          obtain ⟨⟨x3_72, I3_72, L3_72⟩, e_72, h⟩ := Option.bind_eq_some_iff.mp h
          dsimp only at h
          refine q_fv3I (a_61 X hS (d := d - 1) (by omega) e_72) (by omega) (Nat.le_refl _) (Nat.le_refl _) rfl (Nat.le_of_ble_eq_true rfl) ⟨z_72, k_72, by decide⟩ ?_
          refine q_pop rfl ?_
          refine q_iinc (ls1 := [some (.ref 104), some (.int i1), some (.int (i2 + Int32.ofInt (1))), some (.int (5 : Int32))]) rfl rfl ?_
          refine q_goto ?_
          refine K_mask [true, true, true, false] (Nat.le_of_ble_eq_true rfl) ?_
          exact (ih dp d hdp _ _ i1 (i2 + Int32.ofInt (1)) _ _ _).2.2.2.2.1 h
        · rw [if_pos c_61] at h
          refine q_iconst (0) (by decide) ?_
          cases h
          exact q_iret rfl (Nat.le_refl _) (Nat.le_refl _) ⟨rfl, rfl⟩
      · rw [if_neg c_43] at h
        refine q_iconst (4) (by decide) ?_
        refine q_goto ?_
        refine K_of b_57_51 h_57_51 ?_
        refine q_istore (ls1 := [some (.ref 104), some (.int i1), some (.int i2), some (.int (4 : Int32))]) (Nat.le_of_ble_eq_true rfl) rfl ?_
        refine q_aload rfl ?_
        obtain ⟨d_53, h⟩ := ite_some h
        obtain ⟨⟨I1_53, L1_53⟩, e_53, h⟩ := Option.bind_eq_some_iff.mp h
        dsimp only at h
        refine q_fv1V (a_37 X hS (d := d - 1) (by omega) e_53) (by omega) (Nat.le_refl _) (Nat.le_refl _) rfl (Nat.le_of_ble_eq_true rfl) ⟨(zl hS 104 (by decide)), congrArg Prod.fst (sk hS 104 (by decide) rfl), by decide⟩ ?_
        refine q_aload rfl ?_
        refine q_iload rfl ?_
        obtain ⟨d_58, h⟩ := ite_some h
        obtain ⟨⟨x2_58, I2_58, L2_58⟩, e_58, h⟩ := Option.bind_eq_some_iff.mp h
        dsimp only at h
        refine q_fv2I (Ct_of mu_58 (Nat.le_of_ble_eq_true rfl) ((ih (dp - 1) (d - 1) (by omega) _ _ i1 0 _ _ _).2.2.2.2.2.2.1 e_58)) (by omega) (Nat.le_refl _) (Nat.le_refl _) rfl (Nat.le_of_ble_eq_true rfl) ⟨(zl hS 104 (by decide)), congrArg Prod.fst (sk hS 104 (by decide) rfl), by decide⟩ ?_
        refine q_if_ne (fun c_61 => ?_) (fun c_61 => ?_)
        · rw [if_neg c_61] at h
          refine K_of b_57_66 h_57_66 ?_
          refine q_aload rfl ?_
          obtain ⟨b_67, r_67, h⟩ := Option.bind_eq_some_iff.mp h
          refine q_getRs (c0 := 8) (j := 1) rfl rfl (zl hS 104 (by decide)) (sk hS 104 (by decide) rfl) rfl (by decide) r_67 ?_
          refine q_iload rfl ?_
          refine q_iconst (0) (by decide) ?_
          obtain ⟨⟨z_72, k_72⟩, h⟩ := ite_some h
          obtain ⟨d_72, h⟩ := ite_some h
          obtain ⟨⟨x3_72, I3_72, L3_72⟩, e_72, h⟩ := Option.bind_eq_some_iff.mp h
          dsimp only at h
          refine q_fv3I (a_61 X hS (d := d - 1) (by omega) e_72) (by omega) (Nat.le_refl _) (Nat.le_refl _) rfl (Nat.le_of_ble_eq_true rfl) ⟨z_72, k_72, by decide⟩ ?_
          refine q_pop rfl ?_
          refine q_iinc (ls1 := [some (.ref 104), some (.int i1), some (.int (i2 + Int32.ofInt (1))), some (.int (4 : Int32))]) rfl rfl ?_
          refine q_goto ?_
          refine K_mask [true, true, true, false] (Nat.le_of_ble_eq_true rfl) ?_
          exact (ih dp d hdp _ _ i1 (i2 + Int32.ofInt (1)) _ _ _).2.2.2.2.1 h
        · rw [if_pos c_61] at h
          refine q_iconst (0) (by decide) ?_
          cases h
          exact q_iret rfl (Nat.le_refl _) (Nat.le_refl _) ⟨rfl, rfl⟩
    · intro h
      rw [e_56_6] at h
      refine K_of b_58_0 h_58_0 ?_
      refine q_aload rfl ?_
      refine q_iconst (91) (by decide) ?_
      obtain ⟨d_3, h⟩ := ite_some h
      obtain ⟨⟨x0_3, I0_3, L0_3⟩, e_3, h⟩ := Option.bind_eq_some_iff.mp h
      dsimp only at h
      refine q_fv2I (a_59 X hS (d := d - 1) (by omega) e_3) (by omega) (Nat.le_refl _) (Nat.le_refl _) rfl (Nat.le_of_ble_eq_true rfl) ⟨(zl hS 104 (by decide)), congrArg Prod.fst (sk hS 104 (by decide) rfl), by decide⟩ ?_
      refine q_if_eq (fun c_6 => ?_) (fun c_6 => ?_)
      · rw [if_pos c_6] at h
        refine K_of b_58_15 h_58_15 ?_
        refine q_aload rfl ?_
        refine q_getI (c0 := 8) (j := 7) rfl rfl (zl hS 104 (by decide)) (sk hS 104 (by decide) rfl) (Or.inl rfl) (by decide) ?_
        refine q_iconst (50) (by decide) ?_
        refine q_icmp_lt (fun c_21 => ?_) (fun c_21 => ?_)
        · rw [if_pos c_21] at h
          refine K_of b_58_26 h_58_26 ?_
          refine q_aload rfl ?_
          refine q_iconst (0) (by decide) ?_
          refine q_iconst (1000) (by decide) ?_
          obtain ⟨d_31, h⟩ := ite_some h
          obtain ⟨⟨x1_31, I1_31, L1_31⟩, e_31, h⟩ := Option.bind_eq_some_iff.mp h
          dsimp only at h
          refine q_fv3I (a_54 X hS (d := d - 1) (by omega) e_31) (by omega) (Nat.le_refl _) (Nat.le_refl _) rfl (Nat.le_of_ble_eq_true rfl) ⟨(zl hS 104 (by decide)), congrArg Prod.fst (sk hS 104 (by decide) rfl), by decide⟩ ?_
          refine q_if_eq (fun c_34 => ?_) (fun c_34 => ?_)
          · rw [if_pos c_34] at h
            refine K_of b_58_53 h_58_53 ?_
            refine q_aload rfl ?_
            refine q_ldc (by decide) ?_
            obtain ⟨d_56, h⟩ := ite_some h
            obtain ⟨⟨x2_56, I2_56, L2_56⟩, e_56, h⟩ := Option.bind_eq_some_iff.mp h
            dsimp only at h
            refine q_fv2I (a_41 X hS (d := d - 1) (by omega) e_56) (by omega) (Nat.le_refl _) (Nat.le_refl _) rfl (Nat.le_of_ble_eq_true rfl) ⟨(zl hS 104 (by decide)), congrArg Prod.fst (sk hS 104 (by decide) rfl), by decide⟩ ?_
            refine q_if_eq (fun c_59 => ?_) (fun c_59 => ?_)
            · rw [if_pos c_59] at h
              refine K_of b_58_75 h_58_75 ?_
              refine q_aload rfl ?_
              refine q_ldc (by decide) ?_
              obtain ⟨d_78, h⟩ := ite_some h
              obtain ⟨⟨x3_78, I3_78, L3_78⟩, e_78, h⟩ := Option.bind_eq_some_iff.mp h
              dsimp only at h
              refine q_fv2I (a_41 X hS (d := d - 1) (by omega) e_78) (by omega) (Nat.le_refl _) (Nat.le_refl _) rfl (Nat.le_of_ble_eq_true rfl) ⟨(zl hS 104 (by decide)), congrArg Prod.fst (sk hS 104 (by decide) rfl), by decide⟩ ?_
              refine q_if_eq (fun c_81 => ?_) (fun c_81 => ?_)
              · rw [if_pos c_81] at h
                refine K_of b_58_97 h_58_97 ?_
                refine q_aload rfl ?_
                refine q_ldc (by decide) ?_
                obtain ⟨d_100, h⟩ := ite_some h
                obtain ⟨⟨x4_100, I4_100, L4_100⟩, e_100, h⟩ := Option.bind_eq_some_iff.mp h
                dsimp only at h
                refine q_fv2I (a_41 X hS (d := d - 1) (by omega) e_100) (by omega) (Nat.le_refl _) (Nat.le_refl _) rfl (Nat.le_of_ble_eq_true rfl) ⟨(zl hS 104 (by decide)), congrArg Prod.fst (sk hS 104 (by decide) rfl), by decide⟩ ?_
                refine q_if_eq (fun c_103 => ?_) (fun c_103 => ?_)
                · rw [if_pos c_103] at h
                  refine K_of b_58_119 h_58_119 ?_
                  refine q_aload rfl ?_
                  refine q_ldc (by decide) ?_
                  obtain ⟨d_122, h⟩ := ite_some h
                  obtain ⟨⟨x5_122, I5_122, L5_122⟩, e_122, h⟩ := Option.bind_eq_some_iff.mp h
                  dsimp only at h
                  refine q_fv2I (a_41 X hS (d := d - 1) (by omega) e_122) (by omega) (Nat.le_refl _) (Nat.le_refl _) rfl (Nat.le_of_ble_eq_true rfl) ⟨(zl hS 104 (by decide)), congrArg Prod.fst (sk hS 104 (by decide) rfl), by decide⟩ ?_
                  refine q_if_eq (fun c_125 => ?_) (fun c_125 => ?_)
                  · rw [if_pos c_125] at h
                    refine K_of b_58_141 h_58_141 ?_
                    refine q_aload rfl ?_
                    refine q_ldc (by decide) ?_
                    obtain ⟨d_144, h⟩ := ite_some h
                    obtain ⟨⟨x6_144, I6_144, L6_144⟩, e_144, h⟩ := Option.bind_eq_some_iff.mp h
                    dsimp only at h
                    refine q_fv2I (a_41 X hS (d := d - 1) (by omega) e_144) (by omega) (Nat.le_refl _) (Nat.le_refl _) rfl (Nat.le_of_ble_eq_true rfl) ⟨(zl hS 104 (by decide)), congrArg Prod.fst (sk hS 104 (by decide) rfl), by decide⟩ ?_
                    refine q_if_eq (fun c_147 => ?_) (fun c_147 => ?_)
                    · rw [if_pos c_147] at h
                      refine K_of b_58_163 h_58_163 ?_
                      refine q_iconst (0) (by decide) ?_
                      cases h
                      exact q_iret rfl (Nat.le_refl _) (Nat.le_refl _) ⟨rfl, rfl⟩
                    · rw [if_neg c_147] at h
                      refine q_aload rfl ?_
                      obtain ⟨b_151, r_151, h⟩ := Option.bind_eq_some_iff.mp h
                      refine q_getRs (c0 := 8) (j := 1) rfl rfl (zl hS 104 (by decide)) (sk hS 104 (by decide) rfl) rfl (by decide) r_151 ?_
                      refine q_iconst (1) (by decide) ?_
                      refine q_iconst (4) (by decide) ?_
                      obtain ⟨⟨z_156, k_156⟩, h⟩ := ite_some h
                      obtain ⟨d_156, h⟩ := ite_some h
                      obtain ⟨⟨x7_156, I7_156, L7_156⟩, e_156, h⟩ := Option.bind_eq_some_iff.mp h
                      dsimp only at h
                      refine q_fv3I (a_61 X hS (d := d - 1) (by omega) e_156) (by omega) (Nat.le_refl _) (Nat.le_refl _) rfl (Nat.le_of_ble_eq_true rfl) ⟨z_156, k_156, by decide⟩ ?_
                      refine q_pop rfl ?_
                      refine q_goto ?_
                      exact (ih dp d hdp _ _ i1 0 _ _ _).2.2.2.2.2.2.2.1 h
                  · rw [if_neg c_125] at h
                    refine q_aload rfl ?_
                    obtain ⟨b_129, r_129, h⟩ := Option.bind_eq_some_iff.mp h
                    refine q_getRs (c0 := 8) (j := 1) rfl rfl (zl hS 104 (by decide)) (sk hS 104 (by decide) rfl) rfl (by decide) r_129 ?_
                    refine q_iconst (1) (by decide) ?_
                    refine q_iconst (3) (by decide) ?_
                    obtain ⟨⟨z_134, k_134⟩, h⟩ := ite_some h
                    obtain ⟨d_134, h⟩ := ite_some h
                    obtain ⟨⟨x6_134, I6_134, L6_134⟩, e_134, h⟩ := Option.bind_eq_some_iff.mp h
                    dsimp only at h
                    refine q_fv3I (a_61 X hS (d := d - 1) (by omega) e_134) (by omega) (Nat.le_refl _) (Nat.le_refl _) rfl (Nat.le_of_ble_eq_true rfl) ⟨z_134, k_134, by decide⟩ ?_
                    refine q_pop rfl ?_
                    refine q_goto ?_
                    exact (ih dp d hdp _ _ i1 0 _ _ _).2.2.2.2.2.2.2.1 h
                · rw [if_neg c_103] at h
                  refine q_aload rfl ?_
                  obtain ⟨b_107, r_107, h⟩ := Option.bind_eq_some_iff.mp h
                  refine q_getRs (c0 := 8) (j := 1) rfl rfl (zl hS 104 (by decide)) (sk hS 104 (by decide) rfl) rfl (by decide) r_107 ?_
                  refine q_iconst (1) (by decide) ?_
                  refine q_iconst (2) (by decide) ?_
                  obtain ⟨⟨z_112, k_112⟩, h⟩ := ite_some h
                  obtain ⟨d_112, h⟩ := ite_some h
                  obtain ⟨⟨x5_112, I5_112, L5_112⟩, e_112, h⟩ := Option.bind_eq_some_iff.mp h
                  dsimp only at h
                  refine q_fv3I (a_61 X hS (d := d - 1) (by omega) e_112) (by omega) (Nat.le_refl _) (Nat.le_refl _) rfl (Nat.le_of_ble_eq_true rfl) ⟨z_112, k_112, by decide⟩ ?_
                  refine q_pop rfl ?_
                  refine q_goto ?_
                  exact (ih dp d hdp _ _ i1 0 _ _ _).2.2.2.2.2.2.2.1 h
              · rw [if_neg c_81] at h
                refine q_aload rfl ?_
                obtain ⟨b_85, r_85, h⟩ := Option.bind_eq_some_iff.mp h
                refine q_getRs (c0 := 8) (j := 1) rfl rfl (zl hS 104 (by decide)) (sk hS 104 (by decide) rfl) rfl (by decide) r_85 ?_
                refine q_iconst (1) (by decide) ?_
                refine q_iconst (1) (by decide) ?_
                obtain ⟨⟨z_90, k_90⟩, h⟩ := ite_some h
                obtain ⟨d_90, h⟩ := ite_some h
                obtain ⟨⟨x4_90, I4_90, L4_90⟩, e_90, h⟩ := Option.bind_eq_some_iff.mp h
                dsimp only at h
                refine q_fv3I (a_61 X hS (d := d - 1) (by omega) e_90) (by omega) (Nat.le_refl _) (Nat.le_refl _) rfl (Nat.le_of_ble_eq_true rfl) ⟨z_90, k_90, by decide⟩ ?_
                refine q_pop rfl ?_
                refine q_goto ?_
                exact (ih dp d hdp _ _ i1 0 _ _ _).2.2.2.2.2.2.2.1 h
            · rw [if_neg c_59] at h
              refine q_aload rfl ?_
              obtain ⟨b_63, r_63, h⟩ := Option.bind_eq_some_iff.mp h
              refine q_getRs (c0 := 8) (j := 1) rfl rfl (zl hS 104 (by decide)) (sk hS 104 (by decide) rfl) rfl (by decide) r_63 ?_
              refine q_iconst (1) (by decide) ?_
              refine q_iconst (0) (by decide) ?_
              obtain ⟨⟨z_68, k_68⟩, h⟩ := ite_some h
              obtain ⟨d_68, h⟩ := ite_some h
              obtain ⟨⟨x3_68, I3_68, L3_68⟩, e_68, h⟩ := Option.bind_eq_some_iff.mp h
              dsimp only at h
              refine q_fv3I (a_61 X hS (d := d - 1) (by omega) e_68) (by omega) (Nat.le_refl _) (Nat.le_refl _) rfl (Nat.le_of_ble_eq_true rfl) ⟨z_68, k_68, by decide⟩ ?_
              refine q_pop rfl ?_
              refine q_goto ?_
              exact (ih dp d hdp _ _ i1 0 _ _ _).2.2.2.2.2.2.2.1 h
          · rw [if_neg c_34] at h
            refine q_aload rfl ?_
            obtain ⟨b_38, r_38, h⟩ := Option.bind_eq_some_iff.mp h
            refine q_getRs (c0 := 8) (j := 1) rfl rfl (zl hS 104 (by decide)) (sk hS 104 (by decide) rfl) rfl (by decide) r_38 ?_
            refine q_iconst (0) (by decide) ?_
            refine q_aload rfl ?_
            refine q_getI (c0 := 8) (j := 6) rfl rfl (zl hS 104 (by decide)) (sk hS 104 (by decide) rfl) (Or.inl rfl) (by decide) ?_
            obtain ⟨⟨z_46, k_46⟩, h⟩ := ite_some h
            obtain ⟨d_46, h⟩ := ite_some h
            obtain ⟨⟨x2_46, I2_46, L2_46⟩, e_46, h⟩ := Option.bind_eq_some_iff.mp h
            dsimp only at h
            refine q_fv3I (a_61 X hS (d := d - 1) (by omega) e_46) (by omega) (Nat.le_refl _) (Nat.le_refl _) rfl (Nat.le_of_ble_eq_true rfl) ⟨z_46, k_46, by decide⟩ ?_
            refine q_pop rfl ?_
            refine q_goto ?_
            exact (ih dp d hdp _ _ i1 0 _ _ _).2.2.2.2.2.2.2.1 h
        · rw [if_neg c_21] at h
          refine q_iconst (0) (by decide) ?_
          cases h
          exact q_iret rfl (Nat.le_refl _) (Nat.le_refl _) ⟨rfl, rfl⟩
      · rw [if_neg c_6] at h
        refine q_aload rfl ?_
        refine q_iload rfl ?_
        obtain ⟨d_11, h⟩ := ite_some h
        obtain ⟨⟨x1_11, I1_11, L1_11⟩, e_11, h⟩ := Option.bind_eq_some_iff.mp h
        dsimp only at h
        refine q_fv2I (Ct_of mu_60 (Nat.le_of_ble_eq_true rfl) ((ih (dp - 1) (d - 1) (by omega) _ _ i1 0 _ _ _).2.2.2.2.2.2.2.2 e_11)) (by omega) (Nat.le_refl _) (Nat.le_refl _) rfl (Nat.le_of_ble_eq_true rfl) ⟨(zl hS 104 (by decide)), congrArg Prod.fst (sk hS 104 (by decide) rfl), by decide⟩ ?_
        obtain ⟨w_14, h⟩ := ite_some h
        cases h
        exact q_iret (narB w_14) (Nat.le_refl _) (Nat.le_refl _) ⟨rfl, rfl⟩
    · intro h
      rw [e_56_7] at h
      refine K_of b_58_165 h_58_165 ?_
      refine q_aload rfl ?_
      refine q_dup rfl ?_
      refine q_getI (c0 := 8) (j := 7) rfl rfl (zl hS 104 (by decide)) (sk hS 104 (by decide) rfl) (Or.inl rfl) (by decide) ?_
      refine q_iconst (1) (by decide) ?_
      refine q_iadd ?_
      refine q_putI (c0 := 8) (j := 7) rfl rfl (zl hS 104 (by decide)) (sk hS 104 (by decide) rfl) rfl ?_
      obtain ⟨I_172, nI_172, h⟩ := stI_some h
      refine q_nI nI_172 ?_
      refine q_aload rfl ?_
      obtain ⟨d_176, h⟩ := ite_some h
      obtain ⟨⟨I0_176, L0_176⟩, e_176, h⟩ := Option.bind_eq_some_iff.mp h
      dsimp only at h
      refine q_fv1V (a_37 X hS (d := d - 1) (by omega) e_176) (by omega) (Nat.le_refl _) (Nat.le_refl _) rfl (Nat.le_of_ble_eq_true rfl) ⟨(zl hS 104 (by decide)), congrArg Prod.fst (sk hS 104 (by decide) rfl), by decide⟩ ?_
      refine q_iconst (1) (by decide) ?_
      cases h
      exact q_iret rfl (Nat.le_refl _) (Nat.le_refl _) ⟨rfl, rfl⟩
    · intro h
      rw [e_56_8] at h
      refine K_of b_60_0 h_60_0 ?_
      refine q_iload rfl ?_
      refine q_iconst (8) (by decide) ?_
      refine q_icmp_lt (fun c_3 => ?_) (fun c_3 => ?_)
      · rw [if_pos c_3] at h
        refine K_of b_60_8 h_60_8 ?_
        refine q_aload rfl ?_
        obtain ⟨d_9, h⟩ := ite_some h
        obtain ⟨⟨I0_9, L0_9⟩, e_9, h⟩ := Option.bind_eq_some_iff.mp h
        dsimp only at h
        refine q_fv1V (a_37 X hS (d := d - 1) (by omega) e_9) (by omega) (Nat.le_refl _) (Nat.le_refl _) rfl (Nat.le_of_ble_eq_true rfl) ⟨(zl hS 104 (by decide)), congrArg Prod.fst (sk hS 104 (by decide) rfl), by decide⟩ ?_
        refine q_aload rfl ?_
        refine q_iload rfl ?_
        refine q_iconst (1) (by decide) ?_
        refine q_iadd ?_
        obtain ⟨d_16, h⟩ := ite_some h
        obtain ⟨⟨x1_16, I1_16, L1_16⟩, e_16, h⟩ := Option.bind_eq_some_iff.mp h
        dsimp only at h
        refine q_fv2I (Ct_of mu_56 (Nat.le_of_ble_eq_true rfl) ((ih (dp - 1) (d - 1) (by omega) _ _ (i1 + (1 : Int32)) 0 _ _ _).1 e_16)) (by omega) (Nat.le_refl _) (Nat.le_refl _) rfl (Nat.le_of_ble_eq_true rfl) ⟨(zl hS 104 (by decide)), congrArg Prod.fst (sk hS 104 (by decide) rfl), by decide⟩ ?_
        refine q_if_eq (fun c_19 => ?_) (fun c_19 => ?_)
        · rw [if_pos c_19] at h
          refine K_of b_60_31 h_60_31 ?_
          refine q_iconst (0) (by decide) ?_
          cases h
          exact q_iret rfl (Nat.le_refl _) (Nat.le_refl _) ⟨rfl, rfl⟩
        · rw [if_neg c_19] at h
          refine q_aload rfl ?_
          refine q_iconst (93) (by decide) ?_
          obtain ⟨d_25, h⟩ := ite_some h
          obtain ⟨⟨x2_25, I2_25, L2_25⟩, e_25, h⟩ := Option.bind_eq_some_iff.mp h
          dsimp only at h
          refine q_fv2I (a_59 X hS (d := d - 1) (by omega) e_25) (by omega) (Nat.le_refl _) (Nat.le_refl _) rfl (Nat.le_of_ble_eq_true rfl) ⟨(zl hS 104 (by decide)), congrArg Prod.fst (sk hS 104 (by decide) rfl), by decide⟩ ?_
          refine q_if_ne (fun c_28 => ?_) (fun c_28 => ?_)
          · rw [if_neg c_28] at h
            refine K_of b_60_33 h_60_33 ?_
            refine q_aload rfl ?_
            obtain ⟨d_34, h⟩ := ite_some h
            obtain ⟨⟨I3_34, L3_34⟩, e_34, h⟩ := Option.bind_eq_some_iff.mp h
            dsimp only at h
            refine q_fv1V (a_37 X hS (d := d - 1) (by omega) e_34) (by omega) (Nat.le_refl _) (Nat.le_refl _) rfl (Nat.le_of_ble_eq_true rfl) ⟨(zl hS 104 (by decide)), congrArg Prod.fst (sk hS 104 (by decide) rfl), by decide⟩ ?_
            refine q_iconst (1) (by decide) ?_
            cases h
            exact q_iret rfl (Nat.le_refl _) (Nat.le_refl _) ⟨rfl, rfl⟩
          · rw [if_pos c_28] at h
            refine q_end ?_
            refine K_of b_60_31 h_60_31 ?_
            refine q_iconst (0) (by decide) ?_
            cases h
            exact q_iret rfl (Nat.le_refl _) (Nat.le_refl _) ⟨rfl, rfl⟩
      · rw [if_neg c_3] at h
        refine q_iconst (0) (by decide) ?_
        cases h
        exact q_iret rfl (Nat.le_refl _) (Nat.le_refl _) ⟨rfl, rfl⟩
theorem a_56 (X : GX) {z : Nat} {kd : Nat → Nat × Nat} {Rf : Nat → Nat → Option Nat} (hS : Sh z kd Rf) {n dp d : Nat} (hd : dp ≤ d) {I : (Nat → Nat → Int32)} {L : (Nat → Nat → Int64)} {i1 : Int32} {I1 : (Nat → Nat → Int32)} {L1 : (Nat → Nat → Int64)} {r : Int32} (h : g_56 n dp (z, kd, Rf) 0 I L i1 0 = some (r, I1, L1)) : Ct X d 56 0 0 [.ref 104, .int i1] (z, kd, I, L, Rf) (AI (fun x τ => x = r ∧ τ = (z, kd, I1, L1, Rf))) :=
  Ct_of mu_56 (Nat.le_of_ble_eq_true rfl) ((w_56 X hS n dp d hd I L i1 0 _ _ _).1 h)
theorem a_57 (X : GX) {z : Nat} {kd : Nat → Nat × Nat} {Rf : Nat → Nat → Option Nat} (hS : Sh z kd Rf) {n dp d : Nat} (hd : dp ≤ d) {I : (Nat → Nat → Int32)} {L : (Nat → Nat → Int64)} {i1 : Int32} {I1 : (Nat → Nat → Int32)} {L1 : (Nat → Nat → Int64)} {r : Int32} (h : g_56 n dp (z, kd, Rf) 3 I L i1 0 = some (r, I1, L1)) : Ct X d 57 0 0 [.ref 104, .int i1] (z, kd, I, L, Rf) (AI (fun x τ => x = r ∧ τ = (z, kd, I1, L1, Rf))) :=
  Ct_of mu_57 (Nat.le_of_ble_eq_true rfl) ((w_56 X hS n dp d hd I L i1 0 _ _ _).2.2.2.1 h)
theorem a_58 (X : GX) {z : Nat} {kd : Nat → Nat × Nat} {Rf : Nat → Nat → Option Nat} (hS : Sh z kd Rf) {n dp d : Nat} (hd : dp ≤ d) {I : (Nat → Nat → Int32)} {L : (Nat → Nat → Int64)} {i1 : Int32} {I1 : (Nat → Nat → Int32)} {L1 : (Nat → Nat → Int64)} {r : Int32} (h : g_56 n dp (z, kd, Rf) 6 I L i1 0 = some (r, I1, L1)) : Ct X d 58 0 0 [.ref 104, .int i1] (z, kd, I, L, Rf) (AI (fun x τ => x = r ∧ τ = (z, kd, I1, L1, Rf))) :=
  Ct_of mu_58 (Nat.le_of_ble_eq_true rfl) ((w_56 X hS n dp d hd I L i1 0 _ _ _).2.2.2.2.2.2.1 h)
theorem a_60 (X : GX) {z : Nat} {kd : Nat → Nat × Nat} {Rf : Nat → Nat → Option Nat} (hS : Sh z kd Rf) {n dp d : Nat} (hd : dp ≤ d) {I : (Nat → Nat → Int32)} {L : (Nat → Nat → Int64)} {i1 : Int32} {I1 : (Nat → Nat → Int32)} {L1 : (Nat → Nat → Int64)} {r : Int32} (h : g_56 n dp (z, kd, Rf) 8 I L i1 0 = some (r, I1, L1)) : Ct X d 60 0 0 [.ref 104, .int i1] (z, kd, I, L, Rf) (AI (fun x τ => x = r ∧ τ = (z, kd, I1, L1, Rf))) :=
  Ct_of mu_60 (Nat.le_of_ble_eq_true rfl) ((w_56 X hS n dp d hd I L i1 0 _ _ _).2.2.2.2.2.2.2.2 h)

/-! 66 CutFloor$Reader.readComparison(I)Z -/
set_option maxHeartbeats 4000000 in
set_option maxRecDepth 100000 in
def g_66 : Nat → Nat → EN → Nat → (Nat → Nat → Int32) → (Nat → Nat → Int64) → Int32 → Int32 →  Option (Int32 × (Nat → Nat → Int32) × (Nat → Nat → Int64))
  | 0, _, _, _, _, _, _, _ => none
  | n + 1, dp, e, lab, I, L, i1, i2 =>
    if lab = 0 then (if 1 ≤ dp then (g_56 n (dp - 1) e 0 I L i1 0).bind (fun ⟨x0_2, I0_2, L0_2⟩ => (if x0_2 = 0 then (some ((0 : Int32), I0_2, L0_2)) else (if 1 ≤ dp then (g_59 n (dp - 1) e 0 I0_2 L0_2 (60 : Int32)).bind (fun ⟨x1_13, I1_13, L1_13⟩ => (if x1_13 = 0 then (if 1 ≤ dp then (g_59 n (dp - 1) e 0 I1_13 L1_13 (62 : Int32)).bind (fun ⟨x2_28, I2_28, L2_28⟩ => (if x2_28 = 0 then (if 1 ≤ dp then (g_59 n (dp - 1) e 0 I2_28 L2_28 (61 : Int32)).bind (fun ⟨x3_43, I3_43, L3_43⟩ => (if x3_43 = 0 then (some ((0 : Int32), I3_43, L3_43)) else (g_66 n dp e 1 I3_43 L3_43 i1 (8 : Int32)))) else none) else (g_66 n dp e 1 I2_28 L2_28 i1 (7 : Int32)))) else none) else (g_66 n dp e 1 I1_13 L1_13 i1 (6 : Int32)))) else none))) else none)
    else if lab = 1 then (if 1 ≤ dp then (g_37 n (dp - 1) e 0 I L 0).bind (fun ⟨I0_58, L0_58⟩ => (if 1 ≤ dp then (g_56 n (dp - 1) e 0 I0_58 L0_58 i1 0).bind (fun ⟨x1_63, I1_63, L1_63⟩ => (if x1_63 = 0 then (some ((0 : Int32), I1_63, L1_63)) else ((e.2.2 104 1).bind (fun b_72 => (if b_72 < e.1 ∧ (e.2.1 b_72).1 = 10 then (if 1 ≤ dp then (g_61 n (dp - 1) e 0 I1_63 L1_63 i2 (0 : Int32) b_72).bind (fun ⟨x2_77, I2_77, L2_77⟩ => (some ((1 : Int32), I2_77, L2_77))) else none) else none))))) else none)) else none)
    else none
set_option maxRecDepth 100000 in
theorem e_66_0 (n dp : Nat) (e : EN) (I : (Nat → Nat → Int32)) (L : (Nat → Nat → Int64)) (i1 : Int32) (i2 : Int32) : g_66 (n + 1) dp e 0 I L i1 i2 = (if 1 ≤ dp then (g_56 n (dp - 1) e 0 I L i1 0).bind (fun ⟨x0_2, I0_2, L0_2⟩ => (if x0_2 = 0 then (some ((0 : Int32), I0_2, L0_2)) else (if 1 ≤ dp then (g_59 n (dp - 1) e 0 I0_2 L0_2 (60 : Int32)).bind (fun ⟨x1_13, I1_13, L1_13⟩ => (if x1_13 = 0 then (if 1 ≤ dp then (g_59 n (dp - 1) e 0 I1_13 L1_13 (62 : Int32)).bind (fun ⟨x2_28, I2_28, L2_28⟩ => (if x2_28 = 0 then (if 1 ≤ dp then (g_59 n (dp - 1) e 0 I2_28 L2_28 (61 : Int32)).bind (fun ⟨x3_43, I3_43, L3_43⟩ => (if x3_43 = 0 then (some ((0 : Int32), I3_43, L3_43)) else (g_66 n dp e 1 I3_43 L3_43 i1 (8 : Int32)))) else none) else (g_66 n dp e 1 I2_28 L2_28 i1 (7 : Int32)))) else none) else (g_66 n dp e 1 I1_13 L1_13 i1 (6 : Int32)))) else none))) else none) := by rw [g_66.eq_2, if_pos (show (0 : Nat) = 0 from rfl)]
set_option maxRecDepth 100000 in
theorem e_66_1 (n dp : Nat) (e : EN) (I : (Nat → Nat → Int32)) (L : (Nat → Nat → Int64)) (i1 : Int32) (i2 : Int32) : g_66 (n + 1) dp e 1 I L i1 i2 = (if 1 ≤ dp then (g_37 n (dp - 1) e 0 I L 0).bind (fun ⟨I0_58, L0_58⟩ => (if 1 ≤ dp then (g_56 n (dp - 1) e 0 I0_58 L0_58 i1 0).bind (fun ⟨x1_63, I1_63, L1_63⟩ => (if x1_63 = 0 then (some ((0 : Int32), I1_63, L1_63)) else ((e.2.2 104 1).bind (fun b_72 => (if b_72 < e.1 ∧ (e.2.1 b_72).1 = 10 then (if 1 ≤ dp then (g_61 n (dp - 1) e 0 I1_63 L1_63 i2 (0 : Int32) b_72).bind (fun ⟨x2_77, I2_77, L2_77⟩ => (some ((1 : Int32), I2_77, L2_77))) else none) else none))))) else none)) else none) := by rw [g_66.eq_2, if_neg (show ¬ ((1 : Nat) = 0) by decide), if_pos (show (1 : Nat) = 1 from rfl)]
set_option maxHeartbeats 8000000 in
set_option maxRecDepth 100000 in
theorem w_66 (X : GX) {z : Nat} {kd : Nat → Nat × Nat} {Rf : Nat → Nat → Option Nat} (hS : Sh z kd Rf) : ∀ (n dp d : Nat), dp ≤ d → ∀ (I : (Nat → Nat → Int32)) (L : (Nat → Nat → Int64)) (i1 : Int32) (i2 : Int32) (r : Int32) (I1 : (Nat → Nat → Int32)) (L1 : (Nat → Nat → Int64)), (g_66 n dp (z, kd, Rf) 0 I L i1 i2 = some (r, I1, L1) → K X d 66 0 0 (AI (fun x τ => x = r ∧ τ = (z, kd, I1, L1, Rf))) 0 [some (.ref 104), some (.int i1), none] [] (z, kd, I, L, Rf) 0 0) ∧
    (g_66 n dp (z, kd, Rf) 1 I L i1 i2 = some (r, I1, L1) → K X d 66 0 0 (AI (fun x τ => x = r ∧ τ = (z, kd, I1, L1, Rf))) 57 [some (.ref 104), some (.int i1), some (.int i2)] [] (z, kd, I, L, Rf) 0 0) := by
  intro n
  induction n with
  | zero => intro dp d hdp I L i1 i2 r I1 L1; exact ⟨(fun h => by cases h), (fun h => by cases h)⟩
  | succ n ih =>
    intro dp d hdp I L i1 i2 r I1 L1
    refine ⟨?_, ?_⟩
    · intro h
      rw [e_66_0] at h
      refine K_of b_66_0 h_66_0 ?_
      refine q_aload rfl ?_
      refine q_iload rfl ?_
      obtain ⟨d_2, h⟩ := ite_some h
      obtain ⟨⟨x0_2, I0_2, L0_2⟩, e_2, h⟩ := Option.bind_eq_some_iff.mp h
      dsimp only at h
      refine q_fv2I (a_56 X hS (d := d - 1) (by omega) e_2) (by omega) (Nat.le_refl _) (Nat.le_refl _) rfl (Nat.le_of_ble_eq_true rfl) ⟨(zl hS 104 (by decide)), congrArg Prod.fst (sk hS 104 (by decide) rfl), by decide⟩ ?_
      refine q_if_ne (fun c_5 => ?_) (fun c_5 => ?_)
      · rw [if_neg c_5] at h
        refine K_of b_66_10 h_66_10 ?_
        refine q_aload rfl ?_
        refine q_iconst (60) (by decide) ?_
        obtain ⟨d_13, h⟩ := ite_some h
        obtain ⟨⟨x1_13, I1_13, L1_13⟩, e_13, h⟩ := Option.bind_eq_some_iff.mp h
        dsimp only at h
        refine q_fv2I (a_59 X hS (d := d - 1) (by omega) e_13) (by omega) (Nat.le_refl _) (Nat.le_refl _) rfl (Nat.le_of_ble_eq_true rfl) ⟨(zl hS 104 (by decide)), congrArg Prod.fst (sk hS 104 (by decide) rfl), by decide⟩ ?_
        refine q_if_eq (fun c_16 => ?_) (fun c_16 => ?_)
        · rw [if_pos c_16] at h
          refine K_of b_66_25 h_66_25 ?_
          refine q_aload rfl ?_
          refine q_iconst (62) (by decide) ?_
          obtain ⟨d_28, h⟩ := ite_some h
          obtain ⟨⟨x2_28, I2_28, L2_28⟩, e_28, h⟩ := Option.bind_eq_some_iff.mp h
          dsimp only at h
          refine q_fv2I (a_59 X hS (d := d - 1) (by omega) e_28) (by omega) (Nat.le_refl _) (Nat.le_refl _) rfl (Nat.le_of_ble_eq_true rfl) ⟨(zl hS 104 (by decide)), congrArg Prod.fst (sk hS 104 (by decide) rfl), by decide⟩ ?_
          refine q_if_eq (fun c_31 => ?_) (fun c_31 => ?_)
          · rw [if_pos c_31] at h
            refine K_of b_66_40 h_66_40 ?_
            refine q_aload rfl ?_
            refine q_iconst (61) (by decide) ?_
            obtain ⟨d_43, h⟩ := ite_some h
            obtain ⟨⟨x3_43, I3_43, L3_43⟩, e_43, h⟩ := Option.bind_eq_some_iff.mp h
            dsimp only at h
            refine q_fv2I (a_59 X hS (d := d - 1) (by omega) e_43) (by omega) (Nat.le_refl _) (Nat.le_refl _) rfl (Nat.le_of_ble_eq_true rfl) ⟨(zl hS 104 (by decide)), congrArg Prod.fst (sk hS 104 (by decide) rfl), by decide⟩ ?_
            refine q_if_eq (fun c_46 => ?_) (fun c_46 => ?_)
            · rw [if_pos c_46] at h
              refine K_of b_66_55 h_66_55 ?_
              refine q_iconst (0) (by decide) ?_
              cases h
              exact q_iret rfl (Nat.le_refl _) (Nat.le_refl _) ⟨rfl, rfl⟩
            · rw [if_neg c_46] at h
              refine q_iconst (8) (by decide) ?_
              refine q_istore (ls1 := [some (.ref 104), some (.int i1), some (.int (8 : Int32))]) (Nat.le_of_ble_eq_true rfl) rfl ?_
              refine q_goto ?_
              exact (ih dp d hdp _ _ i1 (8 : Int32) _ _ _).2 h
          · rw [if_neg c_31] at h
            refine q_iconst (7) (by decide) ?_
            refine q_istore (ls1 := [some (.ref 104), some (.int i1), some (.int (7 : Int32))]) (Nat.le_of_ble_eq_true rfl) rfl ?_
            refine q_goto ?_
            exact (ih dp d hdp _ _ i1 (7 : Int32) _ _ _).2 h
        · rw [if_neg c_16] at h
          refine q_iconst (6) (by decide) ?_
          refine q_istore (ls1 := [some (.ref 104), some (.int i1), some (.int (6 : Int32))]) (Nat.le_of_ble_eq_true rfl) rfl ?_
          refine q_goto ?_
          exact (ih dp d hdp _ _ i1 (6 : Int32) _ _ _).2 h
      · rw [if_pos c_5] at h
        refine q_iconst (0) (by decide) ?_
        cases h
        exact q_iret rfl (Nat.le_refl _) (Nat.le_refl _) ⟨rfl, rfl⟩
    · intro h
      rw [e_66_1] at h
      refine K_of b_66_57 h_66_57 ?_
      refine q_aload rfl ?_
      obtain ⟨d_58, h⟩ := ite_some h
      obtain ⟨⟨I0_58, L0_58⟩, e_58, h⟩ := Option.bind_eq_some_iff.mp h
      dsimp only at h
      refine q_fv1V (a_37 X hS (d := d - 1) (by omega) e_58) (by omega) (Nat.le_refl _) (Nat.le_refl _) rfl (Nat.le_of_ble_eq_true rfl) ⟨(zl hS 104 (by decide)), congrArg Prod.fst (sk hS 104 (by decide) rfl), by decide⟩ ?_
      refine q_aload rfl ?_
      refine q_iload rfl ?_
      obtain ⟨d_63, h⟩ := ite_some h
      obtain ⟨⟨x1_63, I1_63, L1_63⟩, e_63, h⟩ := Option.bind_eq_some_iff.mp h
      dsimp only at h
      refine q_fv2I (a_56 X hS (d := d - 1) (by omega) e_63) (by omega) (Nat.le_refl _) (Nat.le_refl _) rfl (Nat.le_of_ble_eq_true rfl) ⟨(zl hS 104 (by decide)), congrArg Prod.fst (sk hS 104 (by decide) rfl), by decide⟩ ?_
      refine q_if_ne (fun c_66 => ?_) (fun c_66 => ?_)
      · rw [if_neg c_66] at h
        refine K_of b_66_71 h_66_71 ?_
        refine q_aload rfl ?_
        obtain ⟨b_72, r_72, h⟩ := Option.bind_eq_some_iff.mp h
        refine q_getRs (c0 := 8) (j := 1) rfl rfl (zl hS 104 (by decide)) (sk hS 104 (by decide) rfl) rfl (by decide) r_72 ?_
        refine q_iload rfl ?_
        refine q_iconst (0) (by decide) ?_
        obtain ⟨⟨z_77, k_77⟩, h⟩ := ite_some h
        obtain ⟨d_77, h⟩ := ite_some h
        obtain ⟨⟨x2_77, I2_77, L2_77⟩, e_77, h⟩ := Option.bind_eq_some_iff.mp h
        dsimp only at h
        refine q_fv3I (a_61 X hS (d := d - 1) (by omega) e_77) (by omega) (Nat.le_refl _) (Nat.le_refl _) rfl (Nat.le_of_ble_eq_true rfl) ⟨z_77, k_77, by decide⟩ ?_
        refine q_pop rfl ?_
        refine q_iconst (1) (by decide) ?_
        cases h
        exact q_iret rfl (Nat.le_refl _) (Nat.le_refl _) ⟨rfl, rfl⟩
      · rw [if_pos c_66] at h
        refine q_iconst (0) (by decide) ?_
        cases h
        exact q_iret rfl (Nat.le_refl _) (Nat.le_refl _) ⟨rfl, rfl⟩
theorem a_66 (X : GX) {z : Nat} {kd : Nat → Nat × Nat} {Rf : Nat → Nat → Option Nat} (hS : Sh z kd Rf) {n dp d : Nat} (hd : dp ≤ d) {I : (Nat → Nat → Int32)} {L : (Nat → Nat → Int64)} {i1 : Int32} {I1 : (Nat → Nat → Int32)} {L1 : (Nat → Nat → Int64)} {r : Int32} (h : g_66 n dp (z, kd, Rf) 0 I L i1 0 = some (r, I1, L1)) : Ct X d 66 0 0 [.ref 104, .int i1] (z, kd, I, L, Rf) (AI (fun x τ => x = r ∧ τ = (z, kd, I1, L1, Rf))) :=
  Ct_of mu_66 (Nat.le_of_ble_eq_true rfl) ((w_66 X hS n dp d hd I L i1 0 _ _ _).1 h)

/-! 62 CutFloor$Reader.readTest(I)Z, 63 CutFloor$Reader.readBoth(I)Z, 64 CutFloor$Reader.readPlain(I)Z, 65 CutFloor$Reader.readInner(I)Z -/
set_option maxHeartbeats 4000000 in
set_option maxRecDepth 100000 in
def g_62 : Nat → Nat → EN → Nat → (Nat → Nat → Int32) → (Nat → Nat → Int64) → Int32 → Int32 → Int32 →  Option (Int32 × (Nat → Nat → Int32) × (Nat → Nat → Int64))
  | 0, _, _, _, _, _, _, _, _ => none
  | n + 1, dp, e, lab, I, L, i1, i2, i3 =>
    if lab = 0 then (if 1 ≤ dp then (g_62 n (dp - 1) e 2 I L i1 0 0).bind (fun ⟨x0_2, I0_2, L0_2⟩ => (if x0_2 = 0 then (some ((0 : Int32), I0_2, L0_2)) else (g_62 n dp e 1 I0_2 L0_2 i1 (0 : Int32) 0))) else none)
    else if lab = 1 then (if (400 : Int32) ≤ i2 then (some ((1 : Int32), I, L)) else (if 1 ≤ dp then (g_41 n (dp - 1) e 0 I L 0 12).bind (fun ⟨x0_22, I0_22, L0_22⟩ => (if x0_22 = 0 then (some ((1 : Int32), I0_22, L0_22)) else ((e.2.2 104 1).bind (fun b_29 => (if b_29 < e.1 ∧ (e.2.1 b_29).1 = 10 then (if 1 ≤ dp then (g_61 n (dp - 1) e 0 I0_22 L0_22 (10 : Int32) (0 : Int32) b_29).bind (fun ⟨x1_35, I1_35, L1_35⟩ => (if 1 ≤ dp then (g_37 n (dp - 1) e 0 I1_35 L1_35 0).bind (fun ⟨I2_40, L2_40⟩ => (if 1 ≤ dp then (g_62 n (dp - 1) e 2 I2_40 L2_40 i1 0 0).bind (fun ⟨x3_45, I3_45, L3_45⟩ => (if x3_45 = 0 then (some ((0 : Int32), I3_45, L3_45)) else ((e.2.2 104 1).bind (fun b_54 => (if b_54 < e.1 ∧ (e.2.1 b_54).1 = 10 then ((e.2.2 b_54 9).bind (fun b_57 => ((e.2.2 104 1).bind (fun b_62 => (if b_62 < e.1 ∧ (e.2.1 b_62).1 = 10 then (if (b_57 < e.1 ∧ (e.2.1 b_57).1 = 13 ∧ (e.2.1 b_57).2 < 2 ^ 31) ∧ 0 ≤ x1_35 ∧ (Int32.toNatClampNeg x1_35) < (e.2.1 b_57).2 then (stI (u2 I3_45 b_57 (Int32.toNatClampNeg x1_35) (I3_45 b_62 12)) (fun I_68 => (g_62 n dp e 1 I_68 L3_45 i1 (i2 + Int32.ofInt (1)) 0))) else none) else none))))) else none))))) else none)) else none)) else none) else none))))) else none))
    else if lab = 2 then (if 1 ≤ dp then (g_62 n (dp - 1) e 4 I L i1 0 0).bind (fun ⟨x0_2, I0_2, L0_2⟩ => (if x0_2 = 0 then (some ((0 : Int32), I0_2, L0_2)) else (g_62 n dp e 3 I0_2 L0_2 i1 (0 : Int32) 0))) else none)
    else if lab = 3 then (if (400 : Int32) ≤ i2 then (some ((1 : Int32), I, L)) else (if 1 ≤ dp then (g_41 n (dp - 1) e 0 I L 0 2).bind (fun ⟨x0_22, I0_22, L0_22⟩ => (if x0_22 = 0 then (some ((1 : Int32), I0_22, L0_22)) else ((e.2.2 104 1).bind (fun b_29 => (if b_29 < e.1 ∧ (e.2.1 b_29).1 = 10 then (if 1 ≤ dp then (g_61 n (dp - 1) e 0 I0_22 L0_22 (11 : Int32) (0 : Int32) b_29).bind (fun ⟨x1_35, I1_35, L1_35⟩ => (if 1 ≤ dp then (g_37 n (dp - 1) e 0 I1_35 L1_35 0).bind (fun ⟨I2_40, L2_40⟩ => (if 1 ≤ dp then (g_62 n (dp - 1) e 4 I2_40 L2_40 i1 0 0).bind (fun ⟨x3_45, I3_45, L3_45⟩ => (if x3_45 = 0 then (some ((0 : Int32), I3_45, L3_45)) else ((e.2.2 104 1).bind (fun b_54 => (if b_54 < e.1 ∧ (e.2.1 b_54).1 = 10 then ((e.2.2 b_54 9).bind (fun b_57 => ((e.2.2 104 1).bind (fun b_62 => (if b_62 < e.1 ∧ (e.2.1 b_62).1 = 10 then (if (b_57 < e.1 ∧ (e.2.1 b_57).1 = 13 ∧ (e.2.1 b_57).2 < 2 ^ 31) ∧ 0 ≤ x1_35 ∧ (Int32.toNatClampNeg x1_35) < (e.2.1 b_57).2 then (stI (u2 I3_45 b_57 (Int32.toNatClampNeg x1_35) (I3_45 b_62 12)) (fun I_68 => (g_62 n dp e 3 I_68 L3_45 i1 (i2 + Int32.ofInt (1)) 0))) else none) else none))))) else none))))) else none)) else none)) else none) else none))))) else none))
    else if lab = 4 then (g_62 n dp e 5 I L i1 (0 : Int32) (0 : Int32))
    else if lab = 5 then (if (400 : Int32) ≤ i3 then (g_62 n dp e 6 I L i1 i2 i3) else (if 1 ≤ dp then (g_41 n (dp - 1) e 0 I L 0 11).bind (fun ⟨x0_14, I0_14, L0_14⟩ => (if x0_14 = 0 then (g_62 n dp e 6 I0_14 L0_14 i1 i2 i3) else (if i2 = 0 then (if 1 ≤ dp then (g_37 n (dp - 1) e 0 I0_14 L0_14 0).bind (fun ⟨I1_31, L1_31⟩ => (g_62 n dp e 5 I1_31 L1_31 i1 (1 : Int32) (i3 + Int32.ofInt (1)))) else none) else (if 1 ≤ dp then (g_37 n (dp - 1) e 0 I0_14 L0_14 0).bind (fun ⟨I1_31, L1_31⟩ => (g_62 n dp e 5 I1_31 L1_31 i1 (0 : Int32) (i3 + Int32.ofInt (1)))) else none)))) else none))
    else if lab = 6 then (if 1 ≤ dp then (g_59 n (dp - 1) e 0 I L (40 : Int32)).bind (fun ⟨x0_43, I0_43, L0_43⟩ => (if x0_43 = 0 then (if 1 ≤ dp then (g_66 n (dp - 1) e 0 I0_43 L0_43 i1 0).bind (fun ⟨x1_59, I1_59, L1_59⟩ => (if x1_59 = 0 then (if x1_59 = 0 ∨ x1_59 = 1 then (some (x1_59, I1_59, L1_59)) else none) else (if i2 = 0 then (if x1_59 = 0 ∨ x1_59 = 1 then (some (x1_59, I1_59, L1_59)) else none) else ((e.2.2 104 1).bind (fun b_72 => (if b_72 < e.1 ∧ (e.2.1 b_72).1 = 10 then (if 1 ≤ dp then (g_61 n (dp - 1) e 0 I1_59 L1_59 (9 : Int32) (0 : Int32) b_72).bind (fun ⟨x2_78, I2_78, L2_78⟩ => (if x1_59 = 0 ∨ x1_59 = 1 then (some (x1_59, I2_78, L2_78)) else none)) else none) else none)))))) else none) else (if 1 ≤ dp then (g_62 n (dp - 1) e 7 I0_43 L0_43 i1 0 0).bind (fun ⟨x1_51, I1_51, L1_51⟩ => (if x1_51 = 0 then (if x1_51 = 0 ∨ x1_51 = 1 then (some (x1_51, I1_51, L1_51)) else none) else (if i2 = 0 then (if x1_51 = 0 ∨ x1_51 = 1 then (some (x1_51, I1_51, L1_51)) else none) else ((e.2.2 104 1).bind (fun b_72 => (if b_72 < e.1 ∧ (e.2.1 b_72).1 = 10 then (if 1 ≤ dp then (g_61 n (dp - 1) e 0 I1_51 L1_51 (9 : Int32) (0 : Int32) b_72).bind (fun ⟨x2_78, I2_78, L2_78⟩ => (if x1_51 = 0 ∨ x1_51 = 1 then (some (x1_51, I2_78, L2_78)) else none)) else none) else none)))))) else none))) else none)
    else if lab = 7 then (if i1 < (8 : Int32) then (if 1 ≤ dp then (g_37 n (dp - 1) e 0 I L 0).bind (fun ⟨I0_9, L0_9⟩ => (if 1 ≤ dp then (g_62 n (dp - 1) e 0 I0_9 L0_9 (i1 + (1 : Int32)) 0 0).bind (fun ⟨x1_16, I1_16, L1_16⟩ => (if x1_16 = 0 then (some ((0 : Int32), I1_16, L1_16)) else (if 1 ≤ dp then (g_59 n (dp - 1) e 0 I1_16 L1_16 (41 : Int32)).bind (fun ⟨x2_25, I2_25, L2_25⟩ => (if x2_25 = 0 then (some ((0 : Int32), I2_25, L2_25)) else (if 1 ≤ dp then (g_37 n (dp - 1) e 0 I2_25 L2_25 0).bind (fun ⟨I3_34, L3_34⟩ => (some ((1 : Int32), I3_34, L3_34))) else none))) else none))) else none)) else none) else (some ((0 : Int32), I, L)))
    else none
set_option maxRecDepth 100000 in
theorem e_62_0 (n dp : Nat) (e : EN) (I : (Nat → Nat → Int32)) (L : (Nat → Nat → Int64)) (i1 : Int32) (i2 : Int32) (i3 : Int32) : g_62 (n + 1) dp e 0 I L i1 i2 i3 = (if 1 ≤ dp then (g_62 n (dp - 1) e 2 I L i1 0 0).bind (fun ⟨x0_2, I0_2, L0_2⟩ => (if x0_2 = 0 then (some ((0 : Int32), I0_2, L0_2)) else (g_62 n dp e 1 I0_2 L0_2 i1 (0 : Int32) 0))) else none) := by rw [g_62.eq_2, if_pos (show (0 : Nat) = 0 from rfl)]
set_option maxRecDepth 100000 in
theorem e_62_1 (n dp : Nat) (e : EN) (I : (Nat → Nat → Int32)) (L : (Nat → Nat → Int64)) (i1 : Int32) (i2 : Int32) (i3 : Int32) : g_62 (n + 1) dp e 1 I L i1 i2 i3 = (if (400 : Int32) ≤ i2 then (some ((1 : Int32), I, L)) else (if 1 ≤ dp then (g_41 n (dp - 1) e 0 I L 0 12).bind (fun ⟨x0_22, I0_22, L0_22⟩ => (if x0_22 = 0 then (some ((1 : Int32), I0_22, L0_22)) else ((e.2.2 104 1).bind (fun b_29 => (if b_29 < e.1 ∧ (e.2.1 b_29).1 = 10 then (if 1 ≤ dp then (g_61 n (dp - 1) e 0 I0_22 L0_22 (10 : Int32) (0 : Int32) b_29).bind (fun ⟨x1_35, I1_35, L1_35⟩ => (if 1 ≤ dp then (g_37 n (dp - 1) e 0 I1_35 L1_35 0).bind (fun ⟨I2_40, L2_40⟩ => (if 1 ≤ dp then (g_62 n (dp - 1) e 2 I2_40 L2_40 i1 0 0).bind (fun ⟨x3_45, I3_45, L3_45⟩ => (if x3_45 = 0 then (some ((0 : Int32), I3_45, L3_45)) else ((e.2.2 104 1).bind (fun b_54 => (if b_54 < e.1 ∧ (e.2.1 b_54).1 = 10 then ((e.2.2 b_54 9).bind (fun b_57 => ((e.2.2 104 1).bind (fun b_62 => (if b_62 < e.1 ∧ (e.2.1 b_62).1 = 10 then (if (b_57 < e.1 ∧ (e.2.1 b_57).1 = 13 ∧ (e.2.1 b_57).2 < 2 ^ 31) ∧ 0 ≤ x1_35 ∧ (Int32.toNatClampNeg x1_35) < (e.2.1 b_57).2 then (stI (u2 I3_45 b_57 (Int32.toNatClampNeg x1_35) (I3_45 b_62 12)) (fun I_68 => (g_62 n dp e 1 I_68 L3_45 i1 (i2 + Int32.ofInt (1)) 0))) else none) else none))))) else none))))) else none)) else none)) else none) else none))))) else none)) := by rw [g_62.eq_2, if_neg (show ¬ ((1 : Nat) = 0) by decide), if_pos (show (1 : Nat) = 1 from rfl)]
set_option maxRecDepth 100000 in
theorem e_62_2 (n dp : Nat) (e : EN) (I : (Nat → Nat → Int32)) (L : (Nat → Nat → Int64)) (i1 : Int32) (i2 : Int32) (i3 : Int32) : g_62 (n + 1) dp e 2 I L i1 i2 i3 = (if 1 ≤ dp then (g_62 n (dp - 1) e 4 I L i1 0 0).bind (fun ⟨x0_2, I0_2, L0_2⟩ => (if x0_2 = 0 then (some ((0 : Int32), I0_2, L0_2)) else (g_62 n dp e 3 I0_2 L0_2 i1 (0 : Int32) 0))) else none) := by rw [g_62.eq_2, if_neg (show ¬ ((2 : Nat) = 0) by decide), if_neg (show ¬ ((2 : Nat) = 1) by decide), if_pos (show (2 : Nat) = 2 from rfl)]
set_option maxRecDepth 100000 in
theorem e_62_3 (n dp : Nat) (e : EN) (I : (Nat → Nat → Int32)) (L : (Nat → Nat → Int64)) (i1 : Int32) (i2 : Int32) (i3 : Int32) : g_62 (n + 1) dp e 3 I L i1 i2 i3 = (if (400 : Int32) ≤ i2 then (some ((1 : Int32), I, L)) else (if 1 ≤ dp then (g_41 n (dp - 1) e 0 I L 0 2).bind (fun ⟨x0_22, I0_22, L0_22⟩ => (if x0_22 = 0 then (some ((1 : Int32), I0_22, L0_22)) else ((e.2.2 104 1).bind (fun b_29 => (if b_29 < e.1 ∧ (e.2.1 b_29).1 = 10 then (if 1 ≤ dp then (g_61 n (dp - 1) e 0 I0_22 L0_22 (11 : Int32) (0 : Int32) b_29).bind (fun ⟨x1_35, I1_35, L1_35⟩ => (if 1 ≤ dp then (g_37 n (dp - 1) e 0 I1_35 L1_35 0).bind (fun ⟨I2_40, L2_40⟩ => (if 1 ≤ dp then (g_62 n (dp - 1) e 4 I2_40 L2_40 i1 0 0).bind (fun ⟨x3_45, I3_45, L3_45⟩ => (if x3_45 = 0 then (some ((0 : Int32), I3_45, L3_45)) else ((e.2.2 104 1).bind (fun b_54 => (if b_54 < e.1 ∧ (e.2.1 b_54).1 = 10 then ((e.2.2 b_54 9).bind (fun b_57 => ((e.2.2 104 1).bind (fun b_62 => (if b_62 < e.1 ∧ (e.2.1 b_62).1 = 10 then (if (b_57 < e.1 ∧ (e.2.1 b_57).1 = 13 ∧ (e.2.1 b_57).2 < 2 ^ 31) ∧ 0 ≤ x1_35 ∧ (Int32.toNatClampNeg x1_35) < (e.2.1 b_57).2 then (stI (u2 I3_45 b_57 (Int32.toNatClampNeg x1_35) (I3_45 b_62 12)) (fun I_68 => (g_62 n dp e 3 I_68 L3_45 i1 (i2 + Int32.ofInt (1)) 0))) else none) else none))))) else none))))) else none)) else none)) else none) else none))))) else none)) := by rw [g_62.eq_2, if_neg (show ¬ ((3 : Nat) = 0) by decide), if_neg (show ¬ ((3 : Nat) = 1) by decide), if_neg (show ¬ ((3 : Nat) = 2) by decide), if_pos (show (3 : Nat) = 3 from rfl)]
set_option maxRecDepth 100000 in
theorem e_62_4 (n dp : Nat) (e : EN) (I : (Nat → Nat → Int32)) (L : (Nat → Nat → Int64)) (i1 : Int32) (i2 : Int32) (i3 : Int32) : g_62 (n + 1) dp e 4 I L i1 i2 i3 = (g_62 n dp e 5 I L i1 (0 : Int32) (0 : Int32)) := by rw [g_62.eq_2, if_neg (show ¬ ((4 : Nat) = 0) by decide), if_neg (show ¬ ((4 : Nat) = 1) by decide), if_neg (show ¬ ((4 : Nat) = 2) by decide), if_neg (show ¬ ((4 : Nat) = 3) by decide), if_pos (show (4 : Nat) = 4 from rfl)]
set_option maxRecDepth 100000 in
theorem e_62_5 (n dp : Nat) (e : EN) (I : (Nat → Nat → Int32)) (L : (Nat → Nat → Int64)) (i1 : Int32) (i2 : Int32) (i3 : Int32) : g_62 (n + 1) dp e 5 I L i1 i2 i3 = (if (400 : Int32) ≤ i3 then (g_62 n dp e 6 I L i1 i2 i3) else (if 1 ≤ dp then (g_41 n (dp - 1) e 0 I L 0 11).bind (fun ⟨x0_14, I0_14, L0_14⟩ => (if x0_14 = 0 then (g_62 n dp e 6 I0_14 L0_14 i1 i2 i3) else (if i2 = 0 then (if 1 ≤ dp then (g_37 n (dp - 1) e 0 I0_14 L0_14 0).bind (fun ⟨I1_31, L1_31⟩ => (g_62 n dp e 5 I1_31 L1_31 i1 (1 : Int32) (i3 + Int32.ofInt (1)))) else none) else (if 1 ≤ dp then (g_37 n (dp - 1) e 0 I0_14 L0_14 0).bind (fun ⟨I1_31, L1_31⟩ => (g_62 n dp e 5 I1_31 L1_31 i1 (0 : Int32) (i3 + Int32.ofInt (1)))) else none)))) else none)) := by rw [g_62.eq_2, if_neg (show ¬ ((5 : Nat) = 0) by decide), if_neg (show ¬ ((5 : Nat) = 1) by decide), if_neg (show ¬ ((5 : Nat) = 2) by decide), if_neg (show ¬ ((5 : Nat) = 3) by decide), if_neg (show ¬ ((5 : Nat) = 4) by decide), if_pos (show (5 : Nat) = 5 from rfl)]
set_option maxRecDepth 100000 in
theorem e_62_6 (n dp : Nat) (e : EN) (I : (Nat → Nat → Int32)) (L : (Nat → Nat → Int64)) (i1 : Int32) (i2 : Int32) (i3 : Int32) : g_62 (n + 1) dp e 6 I L i1 i2 i3 = (if 1 ≤ dp then (g_59 n (dp - 1) e 0 I L (40 : Int32)).bind (fun ⟨x0_43, I0_43, L0_43⟩ => (if x0_43 = 0 then (if 1 ≤ dp then (g_66 n (dp - 1) e 0 I0_43 L0_43 i1 0).bind (fun ⟨x1_59, I1_59, L1_59⟩ => (if x1_59 = 0 then (if x1_59 = 0 ∨ x1_59 = 1 then (some (x1_59, I1_59, L1_59)) else none) else (if i2 = 0 then (if x1_59 = 0 ∨ x1_59 = 1 then (some (x1_59, I1_59, L1_59)) else none) else ((e.2.2 104 1).bind (fun b_72 => (if b_72 < e.1 ∧ (e.2.1 b_72).1 = 10 then (if 1 ≤ dp then (g_61 n (dp - 1) e 0 I1_59 L1_59 (9 : Int32) (0 : Int32) b_72).bind (fun ⟨x2_78, I2_78, L2_78⟩ => (if x1_59 = 0 ∨ x1_59 = 1 then (some (x1_59, I2_78, L2_78)) else none)) else none) else none)))))) else none) else (if 1 ≤ dp then (g_62 n (dp - 1) e 7 I0_43 L0_43 i1 0 0).bind (fun ⟨x1_51, I1_51, L1_51⟩ => (if x1_51 = 0 then (if x1_51 = 0 ∨ x1_51 = 1 then (some (x1_51, I1_51, L1_51)) else none) else (if i2 = 0 then (if x1_51 = 0 ∨ x1_51 = 1 then (some (x1_51, I1_51, L1_51)) else none) else ((e.2.2 104 1).bind (fun b_72 => (if b_72 < e.1 ∧ (e.2.1 b_72).1 = 10 then (if 1 ≤ dp then (g_61 n (dp - 1) e 0 I1_51 L1_51 (9 : Int32) (0 : Int32) b_72).bind (fun ⟨x2_78, I2_78, L2_78⟩ => (if x1_51 = 0 ∨ x1_51 = 1 then (some (x1_51, I2_78, L2_78)) else none)) else none) else none)))))) else none))) else none) := by rw [g_62.eq_2, if_neg (show ¬ ((6 : Nat) = 0) by decide), if_neg (show ¬ ((6 : Nat) = 1) by decide), if_neg (show ¬ ((6 : Nat) = 2) by decide), if_neg (show ¬ ((6 : Nat) = 3) by decide), if_neg (show ¬ ((6 : Nat) = 4) by decide), if_neg (show ¬ ((6 : Nat) = 5) by decide), if_pos (show (6 : Nat) = 6 from rfl)]
set_option maxRecDepth 100000 in
theorem e_62_7 (n dp : Nat) (e : EN) (I : (Nat → Nat → Int32)) (L : (Nat → Nat → Int64)) (i1 : Int32) (i2 : Int32) (i3 : Int32) : g_62 (n + 1) dp e 7 I L i1 i2 i3 = (if i1 < (8 : Int32) then (if 1 ≤ dp then (g_37 n (dp - 1) e 0 I L 0).bind (fun ⟨I0_9, L0_9⟩ => (if 1 ≤ dp then (g_62 n (dp - 1) e 0 I0_9 L0_9 (i1 + (1 : Int32)) 0 0).bind (fun ⟨x1_16, I1_16, L1_16⟩ => (if x1_16 = 0 then (some ((0 : Int32), I1_16, L1_16)) else (if 1 ≤ dp then (g_59 n (dp - 1) e 0 I1_16 L1_16 (41 : Int32)).bind (fun ⟨x2_25, I2_25, L2_25⟩ => (if x2_25 = 0 then (some ((0 : Int32), I2_25, L2_25)) else (if 1 ≤ dp then (g_37 n (dp - 1) e 0 I2_25 L2_25 0).bind (fun ⟨I3_34, L3_34⟩ => (some ((1 : Int32), I3_34, L3_34))) else none))) else none))) else none)) else none) else (some ((0 : Int32), I, L))) := by rw [g_62.eq_2, if_neg (show ¬ ((7 : Nat) = 0) by decide), if_neg (show ¬ ((7 : Nat) = 1) by decide), if_neg (show ¬ ((7 : Nat) = 2) by decide), if_neg (show ¬ ((7 : Nat) = 3) by decide), if_neg (show ¬ ((7 : Nat) = 4) by decide), if_neg (show ¬ ((7 : Nat) = 5) by decide), if_neg (show ¬ ((7 : Nat) = 6) by decide), if_pos (show (7 : Nat) = 7 from rfl)]
set_option maxHeartbeats 8000000 in
set_option maxRecDepth 100000 in
theorem w_62 (X : GX) {z : Nat} {kd : Nat → Nat × Nat} {Rf : Nat → Nat → Option Nat} (hS : Sh z kd Rf) : ∀ (n dp d : Nat), dp ≤ d → ∀ (I : (Nat → Nat → Int32)) (L : (Nat → Nat → Int64)) (i1 : Int32) (i2 : Int32) (i3 : Int32) (r : Int32) (I1 : (Nat → Nat → Int32)) (L1 : (Nat → Nat → Int64)), (g_62 n dp (z, kd, Rf) 0 I L i1 i2 i3 = some (r, I1, L1) → K X d 62 0 0 (AI (fun x τ => x = r ∧ τ = (z, kd, I1, L1, Rf))) 0 [some (.ref 104), some (.int i1), none, none] [] (z, kd, I, L, Rf) 0 0) ∧
    (g_62 n dp (z, kd, Rf) 1 I L i1 i2 i3 = some (r, I1, L1) → K X d 62 0 0 (AI (fun x τ => x = r ∧ τ = (z, kd, I1, L1, Rf))) 12 [some (.ref 104), some (.int i1), some (.int i2), none] [] (z, kd, I, L, Rf) 0 0) ∧
    (g_62 n dp (z, kd, Rf) 2 I L i1 i2 i3 = some (r, I1, L1) → K X d 63 0 0 (AI (fun x τ => x = r ∧ τ = (z, kd, I1, L1, Rf))) 0 [some (.ref 104), some (.int i1), none, none] [] (z, kd, I, L, Rf) 0 0) ∧
    (g_62 n dp (z, kd, Rf) 3 I L i1 i2 i3 = some (r, I1, L1) → K X d 63 0 0 (AI (fun x τ => x = r ∧ τ = (z, kd, I1, L1, Rf))) 12 [some (.ref 104), some (.int i1), some (.int i2), none] [] (z, kd, I, L, Rf) 0 0) ∧
    (g_62 n dp (z, kd, Rf) 4 I L i1 i2 i3 = some (r, I1, L1) → K X d 64 0 0 (AI (fun x τ => x = r ∧ τ = (z, kd, I1, L1, Rf))) 0 [some (.ref 104), some (.int i1), none, none] [] (z, kd, I, L, Rf) 0 0) ∧
    (g_62 n dp (z, kd, Rf) 5 I L i1 i2 i3 = some (r, I1, L1) → K X d 64 0 0 (AI (fun x τ => x = r ∧ τ = (z, kd, I1, L1, Rf))) 4 [some (.ref 104), some (.int i1), some (.int i2), some (.int i3)] [] (z, kd, I, L, Rf) 0 0) ∧
    (g_62 n dp (z, kd, Rf) 6 I L i1 i2 i3 = some (r, I1, L1) → K X d 64 0 0 (AI (fun x τ => x = r ∧ τ = (z, kd, I1, L1, Rf))) 40 [some (.ref 104), some (.int i1), some (.int i2), some (.int i3)] [] (z, kd, I, L, Rf) 0 0) ∧
    (g_62 n dp (z, kd, Rf) 7 I L i1 i2 i3 = some (r, I1, L1) → K X d 65 0 0 (AI (fun x τ => x = r ∧ τ = (z, kd, I1, L1, Rf))) 0 [some (.ref 104), some (.int i1)] [] (z, kd, I, L, Rf) 0 0) := by
  intro n
  induction n with
  | zero => intro dp d hdp I L i1 i2 i3 r I1 L1; exact ⟨(fun h => by cases h), (fun h => by cases h), (fun h => by cases h), (fun h => by cases h), (fun h => by cases h), (fun h => by cases h), (fun h => by cases h), (fun h => by cases h)⟩
  | succ n ih =>
    intro dp d hdp I L i1 i2 i3 r I1 L1
    refine ⟨?_, ?_, ?_, ?_, ?_, ?_, ?_, ?_⟩
    · intro h
      rw [e_62_0] at h
      refine K_of b_62_0 h_62_0 ?_
      refine q_aload rfl ?_
      refine q_iload rfl ?_
      obtain ⟨d_2, h⟩ := ite_some h
      obtain ⟨⟨x0_2, I0_2, L0_2⟩, e_2, h⟩ := Option.bind_eq_some_iff.mp h
      dsimp only at h
      refine q_fv2I (Ct_of mu_63 (Nat.le_of_ble_eq_true rfl) ((ih (dp - 1) (d - 1) (by omega) _ _ i1 0 0 _ _ _).2.2.1 e_2)) (by omega) (Nat.le_refl _) (Nat.le_refl _) rfl (Nat.le_of_ble_eq_true rfl) ⟨(zl hS 104 (by decide)), congrArg Prod.fst (sk hS 104 (by decide) rfl), by decide⟩ ?_
      refine q_if_ne (fun c_5 => ?_) (fun c_5 => ?_)
      · rw [if_neg c_5] at h
        refine K_of b_62_10 h_62_10 ?_
        refine q_iconst (0) (by decide) ?_
        refine q_istore (ls1 := [some (.ref 104), some (.int i1), some (.int (0 : Int32)), none]) (Nat.le_of_ble_eq_true rfl) rfl ?_
        refine q_end ?_
        exact (ih dp d hdp _ _ i1 (0 : Int32) 0 _ _ _).2.1 h
      · rw [if_pos c_5] at h
        refine q_iconst (0) (by decide) ?_
        cases h
        exact q_iret rfl (Nat.le_refl _) (Nat.le_refl _) ⟨rfl, rfl⟩
    · intro h
      rw [e_62_1] at h
      refine K_of b_62_12 h_62_12 ?_
      refine q_iload rfl ?_
      refine q_iconst (400) (by decide) ?_
      refine q_icmp_ge (fun c_16 => ?_) (fun c_16 => ?_)
      · rw [if_pos c_16] at h
        refine K_of b_62_75 h_62_75 ?_
        refine q_iconst (1) (by decide) ?_
        cases h
        exact q_iret rfl (Nat.le_refl _) (Nat.le_refl _) ⟨rfl, rfl⟩
      · rw [if_neg c_16] at h
        refine q_aload rfl ?_
        refine q_ldc (by decide) ?_
        obtain ⟨d_22, h⟩ := ite_some h
        obtain ⟨⟨x0_22, I0_22, L0_22⟩, e_22, h⟩ := Option.bind_eq_some_iff.mp h
        dsimp only at h
        refine q_fv2I (a_41 X hS (d := d - 1) (by omega) e_22) (by omega) (Nat.le_refl _) (Nat.le_refl _) rfl (Nat.le_of_ble_eq_true rfl) ⟨(zl hS 104 (by decide)), congrArg Prod.fst (sk hS 104 (by decide) rfl), by decide⟩ ?_
        refine q_if_eq (fun c_25 => ?_) (fun c_25 => ?_)
        · rw [if_pos c_25] at h
          refine K_of b_62_75 h_62_75 ?_
          refine q_iconst (1) (by decide) ?_
          cases h
          exact q_iret rfl (Nat.le_refl _) (Nat.le_refl _) ⟨rfl, rfl⟩
        · rw [if_neg c_25] at h
          refine q_aload rfl ?_
          obtain ⟨b_29, r_29, h⟩ := Option.bind_eq_some_iff.mp h
          refine q_getRs (c0 := 8) (j := 1) rfl rfl (zl hS 104 (by decide)) (sk hS 104 (by decide) rfl) rfl (by decide) r_29 ?_
          refine q_iconst (10) (by decide) ?_
          refine q_iconst (0) (by decide) ?_
          obtain ⟨⟨z_35, k_35⟩, h⟩ := ite_some h
          obtain ⟨d_35, h⟩ := ite_some h
          obtain ⟨⟨x1_35, I1_35, L1_35⟩, e_35, h⟩ := Option.bind_eq_some_iff.mp h
          dsimp only at h
          refine q_fv3I (a_61 X hS (d := d - 1) (by omega) e_35) (by omega) (Nat.le_refl _) (Nat.le_refl _) rfl (Nat.le_of_ble_eq_true rfl) ⟨z_35, k_35, by decide⟩ ?_
          refine q_istore (ls1 := [some (.ref 104), some (.int i1), some (.int i2), some (.int x1_35)]) (Nat.le_of_ble_eq_true rfl) rfl ?_
          refine q_aload rfl ?_
          obtain ⟨d_40, h⟩ := ite_some h
          obtain ⟨⟨I2_40, L2_40⟩, e_40, h⟩ := Option.bind_eq_some_iff.mp h
          dsimp only at h
          refine q_fv1V (a_37 X hS (d := d - 1) (by omega) e_40) (by omega) (Nat.le_refl _) (Nat.le_refl _) rfl (Nat.le_of_ble_eq_true rfl) ⟨(zl hS 104 (by decide)), congrArg Prod.fst (sk hS 104 (by decide) rfl), by decide⟩ ?_
          refine q_aload rfl ?_
          refine q_iload rfl ?_
          obtain ⟨d_45, h⟩ := ite_some h
          obtain ⟨⟨x3_45, I3_45, L3_45⟩, e_45, h⟩ := Option.bind_eq_some_iff.mp h
          dsimp only at h
          refine q_fv2I (Ct_of mu_63 (Nat.le_of_ble_eq_true rfl) ((ih (dp - 1) (d - 1) (by omega) _ _ i1 0 0 _ _ _).2.2.1 e_45)) (by omega) (Nat.le_refl _) (Nat.le_refl _) rfl (Nat.le_of_ble_eq_true rfl) ⟨(zl hS 104 (by decide)), congrArg Prod.fst (sk hS 104 (by decide) rfl), by decide⟩ ?_
          refine q_if_ne (fun c_48 => ?_) (fun c_48 => ?_)
          · rw [if_neg c_48] at h
            refine K_of b_62_53 h_62_53 ?_
            refine q_aload rfl ?_
            obtain ⟨b_54, r_54, h⟩ := Option.bind_eq_some_iff.mp h
            refine q_getRs (c0 := 8) (j := 1) rfl rfl (zl hS 104 (by decide)) (sk hS 104 (by decide) rfl) rfl (by decide) r_54 ?_
            obtain ⟨⟨z_57, k_57⟩, h⟩ := ite_some h
            obtain ⟨b_57, r_57, h⟩ := Option.bind_eq_some_iff.mp h
            refine q_getRs (c0 := 10) (j := 9) rfl rfl z_57 (fst_eq k_57) rfl (by decide) r_57 ?_
            refine q_iload rfl ?_
            refine q_aload rfl ?_
            obtain ⟨b_62, r_62, h⟩ := Option.bind_eq_some_iff.mp h
            refine q_getRs (c0 := 8) (j := 1) rfl rfl (zl hS 104 (by decide)) (sk hS 104 (by decide) rfl) rfl (by decide) r_62 ?_
            obtain ⟨⟨z_65, k_65⟩, h⟩ := ite_some h
            refine q_getI (c0 := 10) (j := 12) rfl rfl z_65 (fst_eq k_65) (Or.inl rfl) (by decide) ?_
            obtain ⟨⟨⟨z_68, k_68, m_68⟩, u_68, v_68⟩, h⟩ := ite_some h
            refine q_iasN (Int32.toNatClampNeg x1_35) (nx u_68) z_68 (fst_eq k_68) v_68 m_68 ?_
            obtain ⟨I_68, nI_68, h⟩ := stI_some h
            refine q_nI nI_68 ?_
            refine q_iinc (ls1 := [some (.ref 104), some (.int i1), some (.int (i2 + Int32.ofInt (1))), some (.int x1_35)]) rfl rfl ?_
            refine q_goto ?_
            refine K_mask [true, true, true, false] (Nat.le_of_ble_eq_true rfl) ?_
            exact (ih dp d hdp _ _ i1 (i2 + Int32.ofInt (1)) 0 _ _ _).2.1 h
          · rw [if_pos c_48] at h
            refine q_iconst (0) (by decide) ?_
            cases h
            exact q_iret rfl (Nat.le_refl _) (Nat.le_refl _) ⟨rfl, rfl⟩
    · intro h
      rw [e_62_2] at h
      refine K_of b_63_0 h_63_0 ?_
      refine q_aload rfl ?_
      refine q_iload rfl ?_
      obtain ⟨d_2, h⟩ := ite_some h
      obtain ⟨⟨x0_2, I0_2, L0_2⟩, e_2, h⟩ := Option.bind_eq_some_iff.mp h
      dsimp only at h
      refine q_fv2I (Ct_of mu_64 (Nat.le_of_ble_eq_true rfl) ((ih (dp - 1) (d - 1) (by omega) _ _ i1 0 0 _ _ _).2.2.2.2.1 e_2)) (by omega) (Nat.le_refl _) (Nat.le_refl _) rfl (Nat.le_of_ble_eq_true rfl) ⟨(zl hS 104 (by decide)), congrArg Prod.fst (sk hS 104 (by decide) rfl), by decide⟩ ?_
      refine q_if_ne (fun c_5 => ?_) (fun c_5 => ?_)
      · rw [if_neg c_5] at h
        refine K_of b_63_10 h_63_10 ?_
        refine q_iconst (0) (by decide) ?_
        refine q_istore (ls1 := [some (.ref 104), some (.int i1), some (.int (0 : Int32)), none]) (Nat.le_of_ble_eq_true rfl) rfl ?_
        refine q_end ?_
        exact (ih dp d hdp _ _ i1 (0 : Int32) 0 _ _ _).2.2.2.1 h
      · rw [if_pos c_5] at h
        refine q_iconst (0) (by decide) ?_
        cases h
        exact q_iret rfl (Nat.le_refl _) (Nat.le_refl _) ⟨rfl, rfl⟩
    · intro h
      rw [e_62_3] at h
      refine K_of b_63_12 h_63_12 ?_
      refine q_iload rfl ?_
      refine q_iconst (400) (by decide) ?_
      refine q_icmp_ge (fun c_16 => ?_) (fun c_16 => ?_)
      · rw [if_pos c_16] at h
        refine K_of b_63_75 h_63_75 ?_
        refine q_iconst (1) (by decide) ?_
        cases h
        exact q_iret rfl (Nat.le_refl _) (Nat.le_refl _) ⟨rfl, rfl⟩
      · rw [if_neg c_16] at h
        refine q_aload rfl ?_
        refine q_ldc (by decide) ?_
        obtain ⟨d_22, h⟩ := ite_some h
        obtain ⟨⟨x0_22, I0_22, L0_22⟩, e_22, h⟩ := Option.bind_eq_some_iff.mp h
        dsimp only at h
        refine q_fv2I (a_41 X hS (d := d - 1) (by omega) e_22) (by omega) (Nat.le_refl _) (Nat.le_refl _) rfl (Nat.le_of_ble_eq_true rfl) ⟨(zl hS 104 (by decide)), congrArg Prod.fst (sk hS 104 (by decide) rfl), by decide⟩ ?_
        refine q_if_eq (fun c_25 => ?_) (fun c_25 => ?_)
        · rw [if_pos c_25] at h
          refine K_of b_63_75 h_63_75 ?_
          refine q_iconst (1) (by decide) ?_
          cases h
          exact q_iret rfl (Nat.le_refl _) (Nat.le_refl _) ⟨rfl, rfl⟩
        · rw [if_neg c_25] at h
          refine q_aload rfl ?_
          obtain ⟨b_29, r_29, h⟩ := Option.bind_eq_some_iff.mp h
          refine q_getRs (c0 := 8) (j := 1) rfl rfl (zl hS 104 (by decide)) (sk hS 104 (by decide) rfl) rfl (by decide) r_29 ?_
          refine q_iconst (11) (by decide) ?_
          refine q_iconst (0) (by decide) ?_
          obtain ⟨⟨z_35, k_35⟩, h⟩ := ite_some h
          obtain ⟨d_35, h⟩ := ite_some h
          obtain ⟨⟨x1_35, I1_35, L1_35⟩, e_35, h⟩ := Option.bind_eq_some_iff.mp h
          dsimp only at h
          refine q_fv3I (a_61 X hS (d := d - 1) (by omega) e_35) (by omega) (Nat.le_refl _) (Nat.le_refl _) rfl (Nat.le_of_ble_eq_true rfl) ⟨z_35, k_35, by decide⟩ ?_
          refine q_istore (ls1 := [some (.ref 104), some (.int i1), some (.int i2), some (.int x1_35)]) (Nat.le_of_ble_eq_true rfl) rfl ?_
          refine q_aload rfl ?_
          obtain ⟨d_40, h⟩ := ite_some h
          obtain ⟨⟨I2_40, L2_40⟩, e_40, h⟩ := Option.bind_eq_some_iff.mp h
          dsimp only at h
          refine q_fv1V (a_37 X hS (d := d - 1) (by omega) e_40) (by omega) (Nat.le_refl _) (Nat.le_refl _) rfl (Nat.le_of_ble_eq_true rfl) ⟨(zl hS 104 (by decide)), congrArg Prod.fst (sk hS 104 (by decide) rfl), by decide⟩ ?_
          refine q_aload rfl ?_
          refine q_iload rfl ?_
          obtain ⟨d_45, h⟩ := ite_some h
          obtain ⟨⟨x3_45, I3_45, L3_45⟩, e_45, h⟩ := Option.bind_eq_some_iff.mp h
          dsimp only at h
          refine q_fv2I (Ct_of mu_64 (Nat.le_of_ble_eq_true rfl) ((ih (dp - 1) (d - 1) (by omega) _ _ i1 0 0 _ _ _).2.2.2.2.1 e_45)) (by omega) (Nat.le_refl _) (Nat.le_refl _) rfl (Nat.le_of_ble_eq_true rfl) ⟨(zl hS 104 (by decide)), congrArg Prod.fst (sk hS 104 (by decide) rfl), by decide⟩ ?_
          refine q_if_ne (fun c_48 => ?_) (fun c_48 => ?_)
          · rw [if_neg c_48] at h
            refine K_of b_63_53 h_63_53 ?_
            refine q_aload rfl ?_
            obtain ⟨b_54, r_54, h⟩ := Option.bind_eq_some_iff.mp h
            refine q_getRs (c0 := 8) (j := 1) rfl rfl (zl hS 104 (by decide)) (sk hS 104 (by decide) rfl) rfl (by decide) r_54 ?_
            obtain ⟨⟨z_57, k_57⟩, h⟩ := ite_some h
            obtain ⟨b_57, r_57, h⟩ := Option.bind_eq_some_iff.mp h
            refine q_getRs (c0 := 10) (j := 9) rfl rfl z_57 (fst_eq k_57) rfl (by decide) r_57 ?_
            refine q_iload rfl ?_
            refine q_aload rfl ?_
            obtain ⟨b_62, r_62, h⟩ := Option.bind_eq_some_iff.mp h
            refine q_getRs (c0 := 8) (j := 1) rfl rfl (zl hS 104 (by decide)) (sk hS 104 (by decide) rfl) rfl (by decide) r_62 ?_
            obtain ⟨⟨z_65, k_65⟩, h⟩ := ite_some h
            refine q_getI (c0 := 10) (j := 12) rfl rfl z_65 (fst_eq k_65) (Or.inl rfl) (by decide) ?_
            obtain ⟨⟨⟨z_68, k_68, m_68⟩, u_68, v_68⟩, h⟩ := ite_some h
            refine q_iasN (Int32.toNatClampNeg x1_35) (nx u_68) z_68 (fst_eq k_68) v_68 m_68 ?_
            obtain ⟨I_68, nI_68, h⟩ := stI_some h
            refine q_nI nI_68 ?_
            refine q_iinc (ls1 := [some (.ref 104), some (.int i1), some (.int (i2 + Int32.ofInt (1))), some (.int x1_35)]) rfl rfl ?_
            refine q_goto ?_
            refine K_mask [true, true, true, false] (Nat.le_of_ble_eq_true rfl) ?_
            exact (ih dp d hdp _ _ i1 (i2 + Int32.ofInt (1)) 0 _ _ _).2.2.2.1 h
          · rw [if_pos c_48] at h
            refine q_iconst (0) (by decide) ?_
            cases h
            exact q_iret rfl (Nat.le_refl _) (Nat.le_refl _) ⟨rfl, rfl⟩
    · intro h
      rw [e_62_4] at h
      refine K_of b_64_0 h_64_0 ?_
      refine q_iconst (0) (by decide) ?_
      refine q_istore (ls1 := [some (.ref 104), some (.int i1), some (.int (0 : Int32)), none]) (Nat.le_of_ble_eq_true rfl) rfl ?_
      refine q_iconst (0) (by decide) ?_
      refine q_istore (ls1 := [some (.ref 104), some (.int i1), some (.int (0 : Int32)), some (.int (0 : Int32))]) (Nat.le_of_ble_eq_true rfl) rfl ?_
      refine q_end ?_
      exact (ih dp d hdp _ _ i1 (0 : Int32) (0 : Int32) _ _ _).2.2.2.2.2.1 h
    · intro h
      rw [e_62_5] at h
      refine K_of b_64_4 h_64_4 ?_
      refine q_iload rfl ?_
      refine q_iconst (400) (by decide) ?_
      refine q_icmp_ge (fun c_8 => ?_) (fun c_8 => ?_)
      · rw [if_pos c_8] at h
        exact (ih dp d hdp _ _ i1 i2 i3 _ _ _).2.2.2.2.2.2.1 h
      · rw [if_neg c_8] at h
        refine q_aload rfl ?_
        refine q_ldc (by decide) ?_
        obtain ⟨d_14, h⟩ := ite_some h
        obtain ⟨⟨x0_14, I0_14, L0_14⟩, e_14, h⟩ := Option.bind_eq_some_iff.mp h
        dsimp only at h
        refine q_fv2I (a_41 X hS (d := d - 1) (by omega) e_14) (by omega) (Nat.le_refl _) (Nat.le_refl _) rfl (Nat.le_of_ble_eq_true rfl) ⟨(zl hS 104 (by decide)), congrArg Prod.fst (sk hS 104 (by decide) rfl), by decide⟩ ?_
        refine q_if_eq (fun c_17 => ?_) (fun c_17 => ?_)
        · rw [if_pos c_17] at h
          exact (ih dp d hdp _ _ i1 i2 i3 _ _ _).2.2.2.2.2.2.1 h
        · rw [if_neg c_17] at h
          refine q_iload rfl ?_
          refine q_if_ne (fun c_21 => ?_) (fun c_21 => ?_)
          · rw [if_neg c_21] at h
            refine K_of b_64_28 h_64_28 ?_
            refine q_iconst (0) (by decide) ?_
            refine q_end ?_
            refine K_of b_64_29 h_64_29 ?_
            refine q_istore (ls1 := [some (.ref 104), some (.int i1), some (.int (0 : Int32)), some (.int i3)]) (Nat.le_of_ble_eq_true rfl) rfl ?_
            refine q_aload rfl ?_
            obtain ⟨d_31, h⟩ := ite_some h
            obtain ⟨⟨I1_31, L1_31⟩, e_31, h⟩ := Option.bind_eq_some_iff.mp h
            dsimp only at h
            refine q_fv1V (a_37 X hS (d := d - 1) (by omega) e_31) (by omega) (Nat.le_refl _) (Nat.le_refl _) rfl (Nat.le_of_ble_eq_true rfl) ⟨(zl hS 104 (by decide)), congrArg Prod.fst (sk hS 104 (by decide) rfl), by decide⟩ ?_
            refine q_iinc (ls1 := [some (.ref 104), some (.int i1), some (.int (0 : Int32)), some (.int (i3 + Int32.ofInt (1)))]) rfl rfl ?_
            refine q_goto ?_
            exact (ih dp d hdp _ _ i1 (0 : Int32) (i3 + Int32.ofInt (1)) _ _ _).2.2.2.2.2.1 h
          · rw [if_pos c_21] at h
            refine q_iconst (1) (by decide) ?_
            refine q_goto ?_
            refine K_of b_64_29 h_64_29 ?_
            refine q_istore (ls1 := [some (.ref 104), some (.int i1), some (.int (1 : Int32)), some (.int i3)]) (Nat.le_of_ble_eq_true rfl) rfl ?_
            refine q_aload rfl ?_
            obtain ⟨d_31, h⟩ := ite_some h
            obtain ⟨⟨I1_31, L1_31⟩, e_31, h⟩ := Option.bind_eq_some_iff.mp h
            dsimp only at h
            refine q_fv1V (a_37 X hS (d := d - 1) (by omega) e_31) (by omega) (Nat.le_refl _) (Nat.le_refl _) rfl (Nat.le_of_ble_eq_true rfl) ⟨(zl hS 104 (by decide)), congrArg Prod.fst (sk hS 104 (by decide) rfl), by decide⟩ ?_
            refine q_iinc (ls1 := [some (.ref 104), some (.int i1), some (.int (1 : Int32)), some (.int (i3 + Int32.ofInt (1)))]) rfl rfl ?_
            refine q_goto ?_
            exact (ih dp d hdp _ _ i1 (1 : Int32) (i3 + Int32.ofInt (1)) _ _ _).2.2.2.2.2.1 h
    · intro h
      rw [e_62_6] at h
      refine K_of b_64_40 h_64_40 ?_
      refine q_aload rfl ?_
      refine q_iconst (40) (by decide) ?_
      obtain ⟨d_43, h⟩ := ite_some h
      obtain ⟨⟨x0_43, I0_43, L0_43⟩, e_43, h⟩ := Option.bind_eq_some_iff.mp h
      dsimp only at h
      refine q_fv2I (a_59 X hS (d := d - 1) (by omega) e_43) (by omega) (Nat.le_refl _) (Nat.le_refl _) rfl (Nat.le_of_ble_eq_true rfl) ⟨(zl hS 104 (by decide)), congrArg Prod.fst (sk hS 104 (by decide) rfl), by decide⟩ ?_
      refine q_if_eq (fun c_46 => ?_) (fun c_46 => ?_)
      · rw [if_pos c_46] at h
        refine K_of b_64_57 h_64_57 ?_
        refine q_aload rfl ?_
        refine q_iload rfl ?_
        obtain ⟨d_59, h⟩ := ite_some h
        obtain ⟨⟨x1_59, I1_59, L1_59⟩, e_59, h⟩ := Option.bind_eq_some_iff.mp h
        dsimp only at h
        refine q_fv2I (a_66 X hS (d := d - 1) (by omega) e_59) (by omega) (Nat.le_refl _) (Nat.le_refl _) rfl (Nat.le_of_ble_eq_true rfl) ⟨(zl hS 104 (by decide)), congrArg Prod.fst (sk hS 104 (by decide) rfl), by decide⟩ ?_
        refine q_end ?_
        refine K_of b_64_62 h_64_62 ?_
        refine q_istore (ls1 := [some (.ref 104), some (.int i1), some (.int i2), some (.int x1_59)]) (Nat.le_of_ble_eq_true rfl) rfl ?_
        refine q_iload rfl ?_
        refine q_if_eq (fun c_64 => ?_) (fun c_64 => ?_)
        · rw [if_pos c_64] at h
          refine K_of b_64_82 h_64_82 ?_
          refine q_iload rfl ?_
          obtain ⟨w_83, h⟩ := ite_some h
          cases h
          exact q_iret (narB w_83) (Nat.le_refl _) (Nat.le_refl _) ⟨rfl, rfl⟩
        · rw [if_neg c_64] at h
          refine q_iload rfl ?_
          refine q_if_eq (fun c_68 => ?_) (fun c_68 => ?_)
          · rw [if_pos c_68] at h
            refine K_of b_64_82 h_64_82 ?_
            refine q_iload rfl ?_
            obtain ⟨w_83, h⟩ := ite_some h
            cases h
            exact q_iret (narB w_83) (Nat.le_refl _) (Nat.le_refl _) ⟨rfl, rfl⟩
          · rw [if_neg c_68] at h
            refine q_aload rfl ?_
            obtain ⟨b_72, r_72, h⟩ := Option.bind_eq_some_iff.mp h
            refine q_getRs (c0 := 8) (j := 1) rfl rfl (zl hS 104 (by decide)) (sk hS 104 (by decide) rfl) rfl (by decide) r_72 ?_
            refine q_iconst (9) (by decide) ?_
            refine q_iconst (0) (by decide) ?_
            obtain ⟨⟨z_78, k_78⟩, h⟩ := ite_some h
            obtain ⟨d_78, h⟩ := ite_some h
            obtain ⟨⟨x2_78, I2_78, L2_78⟩, e_78, h⟩ := Option.bind_eq_some_iff.mp h
            dsimp only at h
            refine q_fv3I (a_61 X hS (d := d - 1) (by omega) e_78) (by omega) (Nat.le_refl _) (Nat.le_refl _) rfl (Nat.le_of_ble_eq_true rfl) ⟨z_78, k_78, by decide⟩ ?_
            refine q_pop rfl ?_
            refine q_end ?_
            refine K_of b_64_82 h_64_82 ?_
            refine q_iload rfl ?_
            obtain ⟨w_83, h⟩ := ite_some h
            cases h
            exact q_iret (narB w_83) (Nat.le_refl _) (Nat.le_refl _) ⟨rfl, rfl⟩
      · rw [if_neg c_46] at h
        refine q_aload rfl ?_
        refine q_iload rfl ?_
        obtain ⟨d_51, h⟩ := ite_some h
        obtain ⟨⟨x1_51, I1_51, L1_51⟩, e_51, h⟩ := Option.bind_eq_some_iff.mp h
        dsimp only at h
        refine q_fv2I (Ct_of mu_65 (Nat.le_of_ble_eq_true rfl) ((ih (dp - 1) (d - 1) (by omega) _ _ i1 0 0 _ _ _).2.2.2.2.2.2.2 e_51)) (by omega) (Nat.le_refl _) (Nat.le_refl _) rfl (Nat.le_of_ble_eq_true rfl) ⟨(zl hS 104 (by decide)), congrArg Prod.fst (sk hS 104 (by decide) rfl), by decide⟩ ?_
        refine q_goto ?_
        refine K_of b_64_62 h_64_62 ?_
        refine q_istore (ls1 := [some (.ref 104), some (.int i1), some (.int i2), some (.int x1_51)]) (Nat.le_of_ble_eq_true rfl) rfl ?_
        refine q_iload rfl ?_
        refine q_if_eq (fun c_64 => ?_) (fun c_64 => ?_)
        · rw [if_pos c_64] at h
          refine K_of b_64_82 h_64_82 ?_
          refine q_iload rfl ?_
          obtain ⟨w_83, h⟩ := ite_some h
          cases h
          exact q_iret (narB w_83) (Nat.le_refl _) (Nat.le_refl _) ⟨rfl, rfl⟩
        · rw [if_neg c_64] at h
          refine q_iload rfl ?_
          refine q_if_eq (fun c_68 => ?_) (fun c_68 => ?_)
          · rw [if_pos c_68] at h
            refine K_of b_64_82 h_64_82 ?_
            refine q_iload rfl ?_
            obtain ⟨w_83, h⟩ := ite_some h
            cases h
            exact q_iret (narB w_83) (Nat.le_refl _) (Nat.le_refl _) ⟨rfl, rfl⟩
          · rw [if_neg c_68] at h
            refine q_aload rfl ?_
            obtain ⟨b_72, r_72, h⟩ := Option.bind_eq_some_iff.mp h
            refine q_getRs (c0 := 8) (j := 1) rfl rfl (zl hS 104 (by decide)) (sk hS 104 (by decide) rfl) rfl (by decide) r_72 ?_
            refine q_iconst (9) (by decide) ?_
            refine q_iconst (0) (by decide) ?_
            obtain ⟨⟨z_78, k_78⟩, h⟩ := ite_some h
            obtain ⟨d_78, h⟩ := ite_some h
            obtain ⟨⟨x2_78, I2_78, L2_78⟩, e_78, h⟩ := Option.bind_eq_some_iff.mp h
            dsimp only at h
            refine q_fv3I (a_61 X hS (d := d - 1) (by omega) e_78) (by omega) (Nat.le_refl _) (Nat.le_refl _) rfl (Nat.le_of_ble_eq_true rfl) ⟨z_78, k_78, by decide⟩ ?_
            refine q_pop rfl ?_
            refine q_end ?_
            refine K_of b_64_82 h_64_82 ?_
            refine q_iload rfl ?_
            obtain ⟨w_83, h⟩ := ite_some h
            cases h
            exact q_iret (narB w_83) (Nat.le_refl _) (Nat.le_refl _) ⟨rfl, rfl⟩
    · intro h
      rw [e_62_7] at h
      refine K_of b_65_0 h_65_0 ?_
      refine q_iload rfl ?_
      refine q_iconst (8) (by decide) ?_
      refine q_icmp_lt (fun c_3 => ?_) (fun c_3 => ?_)
      · rw [if_pos c_3] at h
        refine K_of b_65_8 h_65_8 ?_
        refine q_aload rfl ?_
        obtain ⟨d_9, h⟩ := ite_some h
        obtain ⟨⟨I0_9, L0_9⟩, e_9, h⟩ := Option.bind_eq_some_iff.mp h
        dsimp only at h
        refine q_fv1V (a_37 X hS (d := d - 1) (by omega) e_9) (by omega) (Nat.le_refl _) (Nat.le_refl _) rfl (Nat.le_of_ble_eq_true rfl) ⟨(zl hS 104 (by decide)), congrArg Prod.fst (sk hS 104 (by decide) rfl), by decide⟩ ?_
        refine q_aload rfl ?_
        refine q_iload rfl ?_
        refine q_iconst (1) (by decide) ?_
        refine q_iadd ?_
        obtain ⟨d_16, h⟩ := ite_some h
        obtain ⟨⟨x1_16, I1_16, L1_16⟩, e_16, h⟩ := Option.bind_eq_some_iff.mp h
        dsimp only at h
        refine q_fv2I (Ct_of mu_62 (Nat.le_of_ble_eq_true rfl) ((ih (dp - 1) (d - 1) (by omega) _ _ (i1 + (1 : Int32)) 0 0 _ _ _).1 e_16)) (by omega) (Nat.le_refl _) (Nat.le_refl _) rfl (Nat.le_of_ble_eq_true rfl) ⟨(zl hS 104 (by decide)), congrArg Prod.fst (sk hS 104 (by decide) rfl), by decide⟩ ?_
        refine q_if_eq (fun c_19 => ?_) (fun c_19 => ?_)
        · rw [if_pos c_19] at h
          refine K_of b_65_31 h_65_31 ?_
          refine q_iconst (0) (by decide) ?_
          cases h
          exact q_iret rfl (Nat.le_refl _) (Nat.le_refl _) ⟨rfl, rfl⟩
        · rw [if_neg c_19] at h
          refine q_aload rfl ?_
          refine q_iconst (41) (by decide) ?_
          obtain ⟨d_25, h⟩ := ite_some h
          obtain ⟨⟨x2_25, I2_25, L2_25⟩, e_25, h⟩ := Option.bind_eq_some_iff.mp h
          dsimp only at h
          refine q_fv2I (a_59 X hS (d := d - 1) (by omega) e_25) (by omega) (Nat.le_refl _) (Nat.le_refl _) rfl (Nat.le_of_ble_eq_true rfl) ⟨(zl hS 104 (by decide)), congrArg Prod.fst (sk hS 104 (by decide) rfl), by decide⟩ ?_
          refine q_if_ne (fun c_28 => ?_) (fun c_28 => ?_)
          · rw [if_neg c_28] at h
            refine K_of b_65_33 h_65_33 ?_
            refine q_aload rfl ?_
            obtain ⟨d_34, h⟩ := ite_some h
            obtain ⟨⟨I3_34, L3_34⟩, e_34, h⟩ := Option.bind_eq_some_iff.mp h
            dsimp only at h
            refine q_fv1V (a_37 X hS (d := d - 1) (by omega) e_34) (by omega) (Nat.le_refl _) (Nat.le_refl _) rfl (Nat.le_of_ble_eq_true rfl) ⟨(zl hS 104 (by decide)), congrArg Prod.fst (sk hS 104 (by decide) rfl), by decide⟩ ?_
            refine q_iconst (1) (by decide) ?_
            cases h
            exact q_iret rfl (Nat.le_refl _) (Nat.le_refl _) ⟨rfl, rfl⟩
          · rw [if_pos c_28] at h
            refine q_end ?_
            refine K_of b_65_31 h_65_31 ?_
            refine q_iconst (0) (by decide) ?_
            cases h
            exact q_iret rfl (Nat.le_refl _) (Nat.le_refl _) ⟨rfl, rfl⟩
      · rw [if_neg c_3] at h
        refine q_iconst (0) (by decide) ?_
        cases h
        exact q_iret rfl (Nat.le_refl _) (Nat.le_refl _) ⟨rfl, rfl⟩
theorem a_62 (X : GX) {z : Nat} {kd : Nat → Nat × Nat} {Rf : Nat → Nat → Option Nat} (hS : Sh z kd Rf) {n dp d : Nat} (hd : dp ≤ d) {I : (Nat → Nat → Int32)} {L : (Nat → Nat → Int64)} {i1 : Int32} {I1 : (Nat → Nat → Int32)} {L1 : (Nat → Nat → Int64)} {r : Int32} (h : g_62 n dp (z, kd, Rf) 0 I L i1 0 0 = some (r, I1, L1)) : Ct X d 62 0 0 [.ref 104, .int i1] (z, kd, I, L, Rf) (AI (fun x τ => x = r ∧ τ = (z, kd, I1, L1, Rf))) :=
  Ct_of mu_62 (Nat.le_of_ble_eq_true rfl) ((w_62 X hS n dp d hd I L i1 0 0 _ _ _).1 h)
theorem a_63 (X : GX) {z : Nat} {kd : Nat → Nat × Nat} {Rf : Nat → Nat → Option Nat} (hS : Sh z kd Rf) {n dp d : Nat} (hd : dp ≤ d) {I : (Nat → Nat → Int32)} {L : (Nat → Nat → Int64)} {i1 : Int32} {I1 : (Nat → Nat → Int32)} {L1 : (Nat → Nat → Int64)} {r : Int32} (h : g_62 n dp (z, kd, Rf) 2 I L i1 0 0 = some (r, I1, L1)) : Ct X d 63 0 0 [.ref 104, .int i1] (z, kd, I, L, Rf) (AI (fun x τ => x = r ∧ τ = (z, kd, I1, L1, Rf))) :=
  Ct_of mu_63 (Nat.le_of_ble_eq_true rfl) ((w_62 X hS n dp d hd I L i1 0 0 _ _ _).2.2.1 h)
theorem a_64 (X : GX) {z : Nat} {kd : Nat → Nat × Nat} {Rf : Nat → Nat → Option Nat} (hS : Sh z kd Rf) {n dp d : Nat} (hd : dp ≤ d) {I : (Nat → Nat → Int32)} {L : (Nat → Nat → Int64)} {i1 : Int32} {I1 : (Nat → Nat → Int32)} {L1 : (Nat → Nat → Int64)} {r : Int32} (h : g_62 n dp (z, kd, Rf) 4 I L i1 0 0 = some (r, I1, L1)) : Ct X d 64 0 0 [.ref 104, .int i1] (z, kd, I, L, Rf) (AI (fun x τ => x = r ∧ τ = (z, kd, I1, L1, Rf))) :=
  Ct_of mu_64 (Nat.le_of_ble_eq_true rfl) ((w_62 X hS n dp d hd I L i1 0 0 _ _ _).2.2.2.2.1 h)
theorem a_65 (X : GX) {z : Nat} {kd : Nat → Nat × Nat} {Rf : Nat → Nat → Option Nat} (hS : Sh z kd Rf) {n dp d : Nat} (hd : dp ≤ d) {I : (Nat → Nat → Int32)} {L : (Nat → Nat → Int64)} {i1 : Int32} {I1 : (Nat → Nat → Int32)} {L1 : (Nat → Nat → Int64)} {r : Int32} (h : g_62 n dp (z, kd, Rf) 7 I L i1 0 0 = some (r, I1, L1)) : Ct X d 65 0 0 [.ref 104, .int i1] (z, kd, I, L, Rf) (AI (fun x τ => x = r ∧ τ = (z, kd, I1, L1, Rf))) :=
  Ct_of mu_65 (Nat.le_of_ble_eq_true rfl) ((w_62 X hS n dp d hd I L i1 0 0 _ _ _).2.2.2.2.2.2.2 h)

/-! 40 CutFloor$Reader.readClause(I)Z -/
set_option maxHeartbeats 4000000 in
set_option maxRecDepth 100000 in
def g_40 : Nat → Nat → EN → Nat → (Nat → Nat → Int32) → (Nat → Nat → Int64) → Int32 → Int32 →  Option (Int32 × (Nat → Nat → Int32) × (Nat → Nat → Int64))
  | 0, _, _, _, _, _, _, _ => none
  | n + 1, dp, e, lab, I, L, i1, i2 =>
    if lab = 0 then ((e.2.2 104 1).bind (fun b_1 => (if b_1 < e.1 ∧ (e.2.1 b_1).1 = 10 then ((e.2.2 b_1 1).bind (fun b_4 => ((e.2.2 104 1).bind (fun b_9 => (if b_9 < e.1 ∧ (e.2.1 b_9).1 = 10 then (if (b_4 < e.1 ∧ (e.2.1 b_4).1 = 13 ∧ (e.2.1 b_4).2 < 2 ^ 31) ∧ 0 ≤ i1 ∧ (Int32.toNatClampNeg i1) < (e.2.1 b_4).2 then (stI (u2 I b_4 (Int32.toNatClampNeg i1) (I b_9 12)) (fun I_15 => (if 1 ≤ dp then (g_41 n (dp - 1) e 0 I_15 L 0 0).bind (fun ⟨x0_19, I0_19, L0_19⟩ => (if x0_19 = 0 then (if 1 ≤ dp then (g_41 n (dp - 1) e 0 I0_19 L0_19 0 3).bind (fun ⟨x1_47, I1_47, L1_47⟩ => (if x1_47 = 0 then (if 1 ≤ dp then (g_41 n (dp - 1) e 0 I1_47 L1_47 0 9).bind (fun ⟨x2_79, I2_79, L2_79⟩ => (if x2_79 = 0 then (g_40 n dp e 1 I2_79 L2_79 i1 (0 : Int32)) else ((e.2.2 104 1).bind (fun b_86 => (if b_86 < e.1 ∧ (e.2.1 b_86).1 = 10 then ((e.2.2 b_86 0).bind (fun b_89 => (if (b_89 < e.1 ∧ (e.2.1 b_89).1 = 13 ∧ (e.2.1 b_89).2 < 2 ^ 31) ∧ 0 ≤ i1 ∧ (Int32.toNatClampNeg i1) < (e.2.1 b_89).2 then (stI (u2 I2_79 b_89 (Int32.toNatClampNeg i1) (2 : Int32)) (fun I_94 => (if 1 ≤ dp then (g_37 n (dp - 1) e 0 I_94 L2_79 0).bind (fun ⟨I3_96, L3_96⟩ => (if 1 ≤ dp then (g_56 n (dp - 1) e 0 I3_96 L3_96 (0 : Int32) 0).bind (fun ⟨x4_101, I4_101, L4_101⟩ => (g_40 n dp e 1 I4_101 L4_101 i1 x4_101)) else none)) else none))) else none))) else none))))) else none) else ((e.2.2 104 1).bind (fun b_54 => (if b_54 < e.1 ∧ (e.2.1 b_54).1 = 10 then ((e.2.2 b_54 0).bind (fun b_57 => (if (b_57 < e.1 ∧ (e.2.1 b_57).1 = 13 ∧ (e.2.1 b_57).2 < 2 ^ 31) ∧ 0 ≤ i1 ∧ (Int32.toNatClampNeg i1) < (e.2.1 b_57).2 then (stI (u2 I1_47 b_57 (Int32.toNatClampNeg i1) (1 : Int32)) (fun I_62 => (if 1 ≤ dp then (g_37 n (dp - 1) e 0 I_62 L1_47 0).bind (fun ⟨I2_64, L2_64⟩ => (if 1 ≤ dp then (g_56 n (dp - 1) e 0 I2_64 L2_64 (0 : Int32) 0).bind (fun ⟨x3_69, I3_69, L3_69⟩ => (g_40 n dp e 1 I3_69 L3_69 i1 x3_69)) else none)) else none))) else none))) else none))))) else none) else ((e.2.2 104 1).bind (fun b_26 => (if b_26 < e.1 ∧ (e.2.1 b_26).1 = 10 then ((e.2.2 b_26 0).bind (fun b_29 => (if (b_29 < e.1 ∧ (e.2.1 b_29).1 = 13 ∧ (e.2.1 b_29).2 < 2 ^ 31) ∧ 0 ≤ i1 ∧ (Int32.toNatClampNeg i1) < (e.2.1 b_29).2 then (stI (u2 I0_19 b_29 (Int32.toNatClampNeg i1) (0 : Int32)) (fun I_34 => (if 1 ≤ dp then (g_53 n (dp - 1) e 0 I_34 L0_19 i1 0 0).bind (fun ⟨x1_37, I1_37, L1_37⟩ => (g_40 n dp e 1 I1_37 L1_37 i1 x1_37)) else none))) else none))) else none))))) else none))) else none) else none))))) else none)))
    else if lab = 1 then ((e.2.2 104 1).bind (fun b_111 => (if b_111 < e.1 ∧ (e.2.1 b_111).1 = 10 then ((e.2.2 b_111 2).bind (fun b_114 => ((e.2.2 104 1).bind (fun b_119 => (if b_119 < e.1 ∧ (e.2.1 b_119).1 = 10 then (if (b_114 < e.1 ∧ (e.2.1 b_114).1 = 13 ∧ (e.2.1 b_114).2 < 2 ^ 31) ∧ 0 ≤ i1 ∧ (Int32.toNatClampNeg i1) < (e.2.1 b_114).2 then (stI (u2 I b_114 (Int32.toNatClampNeg i1) (I b_119 12)) (fun I_125 => ((e.2.2 104 1).bind (fun b_127 => (if b_127 < e.1 ∧ (e.2.1 b_127).1 = 10 then ((e.2.2 b_127 3).bind (fun b_130 => ((e.2.2 104 1).bind (fun b_135 => (if b_135 < e.1 ∧ (e.2.1 b_135).1 = 10 then (if (b_130 < e.1 ∧ (e.2.1 b_130).1 = 13 ∧ (e.2.1 b_130).2 < 2 ^ 31) ∧ 0 ≤ i1 ∧ (Int32.toNatClampNeg i1) < (e.2.1 b_130).2 then (stI (u2 I_125 b_130 (Int32.toNatClampNeg i1) (I_125 b_135 12)) (fun I_141 => (if i2 = 0 then (g_40 n dp e 2 I_141 L i1 i2) else (if 1 ≤ dp then (g_41 n (dp - 1) e 0 I_141 L 0 10).bind (fun ⟨x0_149, I0_149, L0_149⟩ => (if x0_149 = 0 then (g_40 n dp e 2 I0_149 L0_149 i1 i2) else (if 1 ≤ dp then (g_37 n (dp - 1) e 0 I0_149 L0_149 0).bind (fun ⟨I1_156, L1_156⟩ => (if 1 ≤ dp then (g_62 n (dp - 1) e 0 I1_156 L1_156 (0 : Int32) 0 0).bind (fun ⟨x2_161, I2_161, L2_161⟩ => (g_40 n dp e 2 I2_161 L2_161 i1 x2_161)) else none)) else none))) else none)))) else none) else none))))) else none))))) else none) else none))))) else none)))
    else if lab = 2 then ((e.2.2 104 1).bind (fun b_166 => (if b_166 < e.1 ∧ (e.2.1 b_166).1 = 10 then ((e.2.2 b_166 4).bind (fun b_169 => ((e.2.2 104 1).bind (fun b_174 => (if b_174 < e.1 ∧ (e.2.1 b_174).1 = 10 then (if (b_169 < e.1 ∧ (e.2.1 b_169).1 = 13 ∧ (e.2.1 b_169).2 < 2 ^ 31) ∧ 0 ≤ i1 ∧ (Int32.toNatClampNeg i1) < (e.2.1 b_169).2 then (stI (u2 I b_169 (Int32.toNatClampNeg i1) (I b_174 12)) (fun I_180 => (if i2 = 0 ∨ i2 = 1 then (some (i2, I_180, L)) else none))) else none) else none))))) else none)))
    else none
set_option maxRecDepth 100000 in
theorem e_40_0 (n dp : Nat) (e : EN) (I : (Nat → Nat → Int32)) (L : (Nat → Nat → Int64)) (i1 : Int32) (i2 : Int32) : g_40 (n + 1) dp e 0 I L i1 i2 = ((e.2.2 104 1).bind (fun b_1 => (if b_1 < e.1 ∧ (e.2.1 b_1).1 = 10 then ((e.2.2 b_1 1).bind (fun b_4 => ((e.2.2 104 1).bind (fun b_9 => (if b_9 < e.1 ∧ (e.2.1 b_9).1 = 10 then (if (b_4 < e.1 ∧ (e.2.1 b_4).1 = 13 ∧ (e.2.1 b_4).2 < 2 ^ 31) ∧ 0 ≤ i1 ∧ (Int32.toNatClampNeg i1) < (e.2.1 b_4).2 then (stI (u2 I b_4 (Int32.toNatClampNeg i1) (I b_9 12)) (fun I_15 => (if 1 ≤ dp then (g_41 n (dp - 1) e 0 I_15 L 0 0).bind (fun ⟨x0_19, I0_19, L0_19⟩ => (if x0_19 = 0 then (if 1 ≤ dp then (g_41 n (dp - 1) e 0 I0_19 L0_19 0 3).bind (fun ⟨x1_47, I1_47, L1_47⟩ => (if x1_47 = 0 then (if 1 ≤ dp then (g_41 n (dp - 1) e 0 I1_47 L1_47 0 9).bind (fun ⟨x2_79, I2_79, L2_79⟩ => (if x2_79 = 0 then (g_40 n dp e 1 I2_79 L2_79 i1 (0 : Int32)) else ((e.2.2 104 1).bind (fun b_86 => (if b_86 < e.1 ∧ (e.2.1 b_86).1 = 10 then ((e.2.2 b_86 0).bind (fun b_89 => (if (b_89 < e.1 ∧ (e.2.1 b_89).1 = 13 ∧ (e.2.1 b_89).2 < 2 ^ 31) ∧ 0 ≤ i1 ∧ (Int32.toNatClampNeg i1) < (e.2.1 b_89).2 then (stI (u2 I2_79 b_89 (Int32.toNatClampNeg i1) (2 : Int32)) (fun I_94 => (if 1 ≤ dp then (g_37 n (dp - 1) e 0 I_94 L2_79 0).bind (fun ⟨I3_96, L3_96⟩ => (if 1 ≤ dp then (g_56 n (dp - 1) e 0 I3_96 L3_96 (0 : Int32) 0).bind (fun ⟨x4_101, I4_101, L4_101⟩ => (g_40 n dp e 1 I4_101 L4_101 i1 x4_101)) else none)) else none))) else none))) else none))))) else none) else ((e.2.2 104 1).bind (fun b_54 => (if b_54 < e.1 ∧ (e.2.1 b_54).1 = 10 then ((e.2.2 b_54 0).bind (fun b_57 => (if (b_57 < e.1 ∧ (e.2.1 b_57).1 = 13 ∧ (e.2.1 b_57).2 < 2 ^ 31) ∧ 0 ≤ i1 ∧ (Int32.toNatClampNeg i1) < (e.2.1 b_57).2 then (stI (u2 I1_47 b_57 (Int32.toNatClampNeg i1) (1 : Int32)) (fun I_62 => (if 1 ≤ dp then (g_37 n (dp - 1) e 0 I_62 L1_47 0).bind (fun ⟨I2_64, L2_64⟩ => (if 1 ≤ dp then (g_56 n (dp - 1) e 0 I2_64 L2_64 (0 : Int32) 0).bind (fun ⟨x3_69, I3_69, L3_69⟩ => (g_40 n dp e 1 I3_69 L3_69 i1 x3_69)) else none)) else none))) else none))) else none))))) else none) else ((e.2.2 104 1).bind (fun b_26 => (if b_26 < e.1 ∧ (e.2.1 b_26).1 = 10 then ((e.2.2 b_26 0).bind (fun b_29 => (if (b_29 < e.1 ∧ (e.2.1 b_29).1 = 13 ∧ (e.2.1 b_29).2 < 2 ^ 31) ∧ 0 ≤ i1 ∧ (Int32.toNatClampNeg i1) < (e.2.1 b_29).2 then (stI (u2 I0_19 b_29 (Int32.toNatClampNeg i1) (0 : Int32)) (fun I_34 => (if 1 ≤ dp then (g_53 n (dp - 1) e 0 I_34 L0_19 i1 0 0).bind (fun ⟨x1_37, I1_37, L1_37⟩ => (g_40 n dp e 1 I1_37 L1_37 i1 x1_37)) else none))) else none))) else none))))) else none))) else none) else none))))) else none))) := by rw [g_40.eq_2, if_pos (show (0 : Nat) = 0 from rfl)]
set_option maxRecDepth 100000 in
theorem e_40_1 (n dp : Nat) (e : EN) (I : (Nat → Nat → Int32)) (L : (Nat → Nat → Int64)) (i1 : Int32) (i2 : Int32) : g_40 (n + 1) dp e 1 I L i1 i2 = ((e.2.2 104 1).bind (fun b_111 => (if b_111 < e.1 ∧ (e.2.1 b_111).1 = 10 then ((e.2.2 b_111 2).bind (fun b_114 => ((e.2.2 104 1).bind (fun b_119 => (if b_119 < e.1 ∧ (e.2.1 b_119).1 = 10 then (if (b_114 < e.1 ∧ (e.2.1 b_114).1 = 13 ∧ (e.2.1 b_114).2 < 2 ^ 31) ∧ 0 ≤ i1 ∧ (Int32.toNatClampNeg i1) < (e.2.1 b_114).2 then (stI (u2 I b_114 (Int32.toNatClampNeg i1) (I b_119 12)) (fun I_125 => ((e.2.2 104 1).bind (fun b_127 => (if b_127 < e.1 ∧ (e.2.1 b_127).1 = 10 then ((e.2.2 b_127 3).bind (fun b_130 => ((e.2.2 104 1).bind (fun b_135 => (if b_135 < e.1 ∧ (e.2.1 b_135).1 = 10 then (if (b_130 < e.1 ∧ (e.2.1 b_130).1 = 13 ∧ (e.2.1 b_130).2 < 2 ^ 31) ∧ 0 ≤ i1 ∧ (Int32.toNatClampNeg i1) < (e.2.1 b_130).2 then (stI (u2 I_125 b_130 (Int32.toNatClampNeg i1) (I_125 b_135 12)) (fun I_141 => (if i2 = 0 then (g_40 n dp e 2 I_141 L i1 i2) else (if 1 ≤ dp then (g_41 n (dp - 1) e 0 I_141 L 0 10).bind (fun ⟨x0_149, I0_149, L0_149⟩ => (if x0_149 = 0 then (g_40 n dp e 2 I0_149 L0_149 i1 i2) else (if 1 ≤ dp then (g_37 n (dp - 1) e 0 I0_149 L0_149 0).bind (fun ⟨I1_156, L1_156⟩ => (if 1 ≤ dp then (g_62 n (dp - 1) e 0 I1_156 L1_156 (0 : Int32) 0 0).bind (fun ⟨x2_161, I2_161, L2_161⟩ => (g_40 n dp e 2 I2_161 L2_161 i1 x2_161)) else none)) else none))) else none)))) else none) else none))))) else none))))) else none) else none))))) else none))) := by rw [g_40.eq_2, if_neg (show ¬ ((1 : Nat) = 0) by decide), if_pos (show (1 : Nat) = 1 from rfl)]
set_option maxRecDepth 100000 in
theorem e_40_2 (n dp : Nat) (e : EN) (I : (Nat → Nat → Int32)) (L : (Nat → Nat → Int64)) (i1 : Int32) (i2 : Int32) : g_40 (n + 1) dp e 2 I L i1 i2 = ((e.2.2 104 1).bind (fun b_166 => (if b_166 < e.1 ∧ (e.2.1 b_166).1 = 10 then ((e.2.2 b_166 4).bind (fun b_169 => ((e.2.2 104 1).bind (fun b_174 => (if b_174 < e.1 ∧ (e.2.1 b_174).1 = 10 then (if (b_169 < e.1 ∧ (e.2.1 b_169).1 = 13 ∧ (e.2.1 b_169).2 < 2 ^ 31) ∧ 0 ≤ i1 ∧ (Int32.toNatClampNeg i1) < (e.2.1 b_169).2 then (stI (u2 I b_169 (Int32.toNatClampNeg i1) (I b_174 12)) (fun I_180 => (if i2 = 0 ∨ i2 = 1 then (some (i2, I_180, L)) else none))) else none) else none))))) else none))) := by rw [g_40.eq_2, if_neg (show ¬ ((2 : Nat) = 0) by decide), if_neg (show ¬ ((2 : Nat) = 1) by decide), if_pos (show (2 : Nat) = 2 from rfl)]
set_option maxHeartbeats 8000000 in
set_option maxRecDepth 100000 in
theorem w_40 (X : GX) {z : Nat} {kd : Nat → Nat × Nat} {Rf : Nat → Nat → Option Nat} (hS : Sh z kd Rf) : ∀ (n dp d : Nat), dp ≤ d → ∀ (I : (Nat → Nat → Int32)) (L : (Nat → Nat → Int64)) (i1 : Int32) (i2 : Int32) (r : Int32) (I1 : (Nat → Nat → Int32)) (L1 : (Nat → Nat → Int64)), (g_40 n dp (z, kd, Rf) 0 I L i1 i2 = some (r, I1, L1) → K X d 40 0 0 (AI (fun x τ => x = r ∧ τ = (z, kd, I1, L1, Rf))) 0 [some (.ref 104), some (.int i1), none] [] (z, kd, I, L, Rf) 0 0) ∧
    (g_40 n dp (z, kd, Rf) 1 I L i1 i2 = some (r, I1, L1) → K X d 40 0 0 (AI (fun x τ => x = r ∧ τ = (z, kd, I1, L1, Rf))) 110 [some (.ref 104), some (.int i1), some (.int i2)] [] (z, kd, I, L, Rf) 0 0) ∧
    (g_40 n dp (z, kd, Rf) 2 I L i1 i2 = some (r, I1, L1) → K X d 40 0 0 (AI (fun x τ => x = r ∧ τ = (z, kd, I1, L1, Rf))) 165 [some (.ref 104), some (.int i1), some (.int i2)] [] (z, kd, I, L, Rf) 0 0) := by
  intro n
  induction n with
  | zero => intro dp d hdp I L i1 i2 r I1 L1; exact ⟨(fun h => by cases h), (fun h => by cases h), (fun h => by cases h)⟩
  | succ n ih =>
    intro dp d hdp I L i1 i2 r I1 L1
    refine ⟨?_, ?_, ?_⟩
    · intro h
      rw [e_40_0] at h
      refine K_of b_40_0 h_40_0 ?_
      refine q_aload rfl ?_
      obtain ⟨b_1, r_1, h⟩ := Option.bind_eq_some_iff.mp h
      refine q_getRs (c0 := 8) (j := 1) rfl rfl (zl hS 104 (by decide)) (sk hS 104 (by decide) rfl) rfl (by decide) r_1 ?_
      obtain ⟨⟨z_4, k_4⟩, h⟩ := ite_some h
      obtain ⟨b_4, r_4, h⟩ := Option.bind_eq_some_iff.mp h
      refine q_getRs (c0 := 10) (j := 1) rfl rfl z_4 (fst_eq k_4) rfl (by decide) r_4 ?_
      refine q_iload rfl ?_
      refine q_aload rfl ?_
      obtain ⟨b_9, r_9, h⟩ := Option.bind_eq_some_iff.mp h
      refine q_getRs (c0 := 8) (j := 1) rfl rfl (zl hS 104 (by decide)) (sk hS 104 (by decide) rfl) rfl (by decide) r_9 ?_
      obtain ⟨⟨z_12, k_12⟩, h⟩ := ite_some h
      refine q_getI (c0 := 10) (j := 12) rfl rfl z_12 (fst_eq k_12) (Or.inl rfl) (by decide) ?_
      obtain ⟨⟨⟨z_15, k_15, m_15⟩, u_15, v_15⟩, h⟩ := ite_some h
      refine q_iasN (Int32.toNatClampNeg i1) (nx u_15) z_15 (fst_eq k_15) v_15 m_15 ?_
      obtain ⟨I_15, nI_15, h⟩ := stI_some h
      refine q_nI nI_15 ?_
      refine q_aload rfl ?_
      refine q_ldc (by decide) ?_
      obtain ⟨d_19, h⟩ := ite_some h
      obtain ⟨⟨x0_19, I0_19, L0_19⟩, e_19, h⟩ := Option.bind_eq_some_iff.mp h
      dsimp only at h
      refine q_fv2I (a_41 X hS (d := d - 1) (by omega) e_19) (by omega) (Nat.le_refl _) (Nat.le_refl _) rfl (Nat.le_of_ble_eq_true rfl) ⟨(zl hS 104 (by decide)), congrArg Prod.fst (sk hS 104 (by decide) rfl), by decide⟩ ?_
      refine q_if_eq (fun c_22 => ?_) (fun c_22 => ?_)
      · rw [if_pos c_22] at h
        refine K_of b_40_44 h_40_44 ?_
        refine q_aload rfl ?_
        refine q_ldc (by decide) ?_
        obtain ⟨d_47, h⟩ := ite_some h
        obtain ⟨⟨x1_47, I1_47, L1_47⟩, e_47, h⟩ := Option.bind_eq_some_iff.mp h
        dsimp only at h
        refine q_fv2I (a_41 X hS (d := d - 1) (by omega) e_47) (by omega) (Nat.le_refl _) (Nat.le_refl _) rfl (Nat.le_of_ble_eq_true rfl) ⟨(zl hS 104 (by decide)), congrArg Prod.fst (sk hS 104 (by decide) rfl), by decide⟩ ?_
        refine q_if_eq (fun c_50 => ?_) (fun c_50 => ?_)
        · rw [if_pos c_50] at h
          refine K_of b_40_76 h_40_76 ?_
          refine q_aload rfl ?_
          refine q_ldc (by decide) ?_
          obtain ⟨d_79, h⟩ := ite_some h
          obtain ⟨⟨x2_79, I2_79, L2_79⟩, e_79, h⟩ := Option.bind_eq_some_iff.mp h
          dsimp only at h
          refine q_fv2I (a_41 X hS (d := d - 1) (by omega) e_79) (by omega) (Nat.le_refl _) (Nat.le_refl _) rfl (Nat.le_of_ble_eq_true rfl) ⟨(zl hS 104 (by decide)), congrArg Prod.fst (sk hS 104 (by decide) rfl), by decide⟩ ?_
          refine q_if_eq (fun c_82 => ?_) (fun c_82 => ?_)
          · rw [if_pos c_82] at h
            refine K_of b_40_108 h_40_108 ?_
            refine q_iconst (0) (by decide) ?_
            refine q_istore (ls1 := [some (.ref 104), some (.int i1), some (.int (0 : Int32))]) (Nat.le_of_ble_eq_true rfl) rfl ?_
            refine q_end ?_
            exact (ih dp d hdp _ _ i1 (0 : Int32) _ _ _).2.1 h
          · rw [if_neg c_82] at h
            refine q_aload rfl ?_
            obtain ⟨b_86, r_86, h⟩ := Option.bind_eq_some_iff.mp h
            refine q_getRs (c0 := 8) (j := 1) rfl rfl (zl hS 104 (by decide)) (sk hS 104 (by decide) rfl) rfl (by decide) r_86 ?_
            obtain ⟨⟨z_89, k_89⟩, h⟩ := ite_some h
            obtain ⟨b_89, r_89, h⟩ := Option.bind_eq_some_iff.mp h
            refine q_getRs (c0 := 10) (j := 0) rfl rfl z_89 (fst_eq k_89) rfl (by decide) r_89 ?_
            refine q_iload rfl ?_
            refine q_iconst (2) (by decide) ?_
            obtain ⟨⟨⟨z_94, k_94, m_94⟩, u_94, v_94⟩, h⟩ := ite_some h
            refine q_iasN (Int32.toNatClampNeg i1) (nx u_94) z_94 (fst_eq k_94) v_94 m_94 ?_
            obtain ⟨I_94, nI_94, h⟩ := stI_some h
            refine q_nI nI_94 ?_
            refine q_aload rfl ?_
            obtain ⟨d_96, h⟩ := ite_some h
            obtain ⟨⟨I3_96, L3_96⟩, e_96, h⟩ := Option.bind_eq_some_iff.mp h
            dsimp only at h
            refine q_fv1V (a_37 X hS (d := d - 1) (by omega) e_96) (by omega) (Nat.le_refl _) (Nat.le_refl _) rfl (Nat.le_of_ble_eq_true rfl) ⟨(zl hS 104 (by decide)), congrArg Prod.fst (sk hS 104 (by decide) rfl), by decide⟩ ?_
            refine q_aload rfl ?_
            refine q_iconst (0) (by decide) ?_
            obtain ⟨d_101, h⟩ := ite_some h
            obtain ⟨⟨x4_101, I4_101, L4_101⟩, e_101, h⟩ := Option.bind_eq_some_iff.mp h
            dsimp only at h
            refine q_fv2I (a_56 X hS (d := d - 1) (by omega) e_101) (by omega) (Nat.le_refl _) (Nat.le_refl _) rfl (Nat.le_of_ble_eq_true rfl) ⟨(zl hS 104 (by decide)), congrArg Prod.fst (sk hS 104 (by decide) rfl), by decide⟩ ?_
            refine q_istore (ls1 := [some (.ref 104), some (.int i1), some (.int x4_101)]) (Nat.le_of_ble_eq_true rfl) rfl ?_
            refine q_goto ?_
            exact (ih dp d hdp _ _ i1 x4_101 _ _ _).2.1 h
        · rw [if_neg c_50] at h
          refine q_aload rfl ?_
          obtain ⟨b_54, r_54, h⟩ := Option.bind_eq_some_iff.mp h
          refine q_getRs (c0 := 8) (j := 1) rfl rfl (zl hS 104 (by decide)) (sk hS 104 (by decide) rfl) rfl (by decide) r_54 ?_
          obtain ⟨⟨z_57, k_57⟩, h⟩ := ite_some h
          obtain ⟨b_57, r_57, h⟩ := Option.bind_eq_some_iff.mp h
          refine q_getRs (c0 := 10) (j := 0) rfl rfl z_57 (fst_eq k_57) rfl (by decide) r_57 ?_
          refine q_iload rfl ?_
          refine q_iconst (1) (by decide) ?_
          obtain ⟨⟨⟨z_62, k_62, m_62⟩, u_62, v_62⟩, h⟩ := ite_some h
          refine q_iasN (Int32.toNatClampNeg i1) (nx u_62) z_62 (fst_eq k_62) v_62 m_62 ?_
          obtain ⟨I_62, nI_62, h⟩ := stI_some h
          refine q_nI nI_62 ?_
          refine q_aload rfl ?_
          obtain ⟨d_64, h⟩ := ite_some h
          obtain ⟨⟨I2_64, L2_64⟩, e_64, h⟩ := Option.bind_eq_some_iff.mp h
          dsimp only at h
          refine q_fv1V (a_37 X hS (d := d - 1) (by omega) e_64) (by omega) (Nat.le_refl _) (Nat.le_refl _) rfl (Nat.le_of_ble_eq_true rfl) ⟨(zl hS 104 (by decide)), congrArg Prod.fst (sk hS 104 (by decide) rfl), by decide⟩ ?_
          refine q_aload rfl ?_
          refine q_iconst (0) (by decide) ?_
          obtain ⟨d_69, h⟩ := ite_some h
          obtain ⟨⟨x3_69, I3_69, L3_69⟩, e_69, h⟩ := Option.bind_eq_some_iff.mp h
          dsimp only at h
          refine q_fv2I (a_56 X hS (d := d - 1) (by omega) e_69) (by omega) (Nat.le_refl _) (Nat.le_refl _) rfl (Nat.le_of_ble_eq_true rfl) ⟨(zl hS 104 (by decide)), congrArg Prod.fst (sk hS 104 (by decide) rfl), by decide⟩ ?_
          refine q_istore (ls1 := [some (.ref 104), some (.int i1), some (.int x3_69)]) (Nat.le_of_ble_eq_true rfl) rfl ?_
          refine q_goto ?_
          exact (ih dp d hdp _ _ i1 x3_69 _ _ _).2.1 h
      · rw [if_neg c_22] at h
        refine q_aload rfl ?_
        obtain ⟨b_26, r_26, h⟩ := Option.bind_eq_some_iff.mp h
        refine q_getRs (c0 := 8) (j := 1) rfl rfl (zl hS 104 (by decide)) (sk hS 104 (by decide) rfl) rfl (by decide) r_26 ?_
        obtain ⟨⟨z_29, k_29⟩, h⟩ := ite_some h
        obtain ⟨b_29, r_29, h⟩ := Option.bind_eq_some_iff.mp h
        refine q_getRs (c0 := 10) (j := 0) rfl rfl z_29 (fst_eq k_29) rfl (by decide) r_29 ?_
        refine q_iload rfl ?_
        refine q_iconst (0) (by decide) ?_
        obtain ⟨⟨⟨z_34, k_34, m_34⟩, u_34, v_34⟩, h⟩ := ite_some h
        refine q_iasN (Int32.toNatClampNeg i1) (nx u_34) z_34 (fst_eq k_34) v_34 m_34 ?_
        obtain ⟨I_34, nI_34, h⟩ := stI_some h
        refine q_nI nI_34 ?_
        refine q_aload rfl ?_
        refine q_iload rfl ?_
        obtain ⟨d_37, h⟩ := ite_some h
        obtain ⟨⟨x1_37, I1_37, L1_37⟩, e_37, h⟩ := Option.bind_eq_some_iff.mp h
        dsimp only at h
        refine q_fv2I (a_53 X hS (d := d - 1) (by omega) e_37) (by omega) (Nat.le_refl _) (Nat.le_refl _) rfl (Nat.le_of_ble_eq_true rfl) ⟨(zl hS 104 (by decide)), congrArg Prod.fst (sk hS 104 (by decide) rfl), by decide⟩ ?_
        refine q_istore (ls1 := [some (.ref 104), some (.int i1), some (.int x1_37)]) (Nat.le_of_ble_eq_true rfl) rfl ?_
        refine q_goto ?_
        exact (ih dp d hdp _ _ i1 x1_37 _ _ _).2.1 h
    · intro h
      rw [e_40_1] at h
      refine K_of b_40_110 h_40_110 ?_
      refine q_aload rfl ?_
      obtain ⟨b_111, r_111, h⟩ := Option.bind_eq_some_iff.mp h
      refine q_getRs (c0 := 8) (j := 1) rfl rfl (zl hS 104 (by decide)) (sk hS 104 (by decide) rfl) rfl (by decide) r_111 ?_
      obtain ⟨⟨z_114, k_114⟩, h⟩ := ite_some h
      obtain ⟨b_114, r_114, h⟩ := Option.bind_eq_some_iff.mp h
      refine q_getRs (c0 := 10) (j := 2) rfl rfl z_114 (fst_eq k_114) rfl (by decide) r_114 ?_
      refine q_iload rfl ?_
      refine q_aload rfl ?_
      obtain ⟨b_119, r_119, h⟩ := Option.bind_eq_some_iff.mp h
      refine q_getRs (c0 := 8) (j := 1) rfl rfl (zl hS 104 (by decide)) (sk hS 104 (by decide) rfl) rfl (by decide) r_119 ?_
      obtain ⟨⟨z_122, k_122⟩, h⟩ := ite_some h
      refine q_getI (c0 := 10) (j := 12) rfl rfl z_122 (fst_eq k_122) (Or.inl rfl) (by decide) ?_
      obtain ⟨⟨⟨z_125, k_125, m_125⟩, u_125, v_125⟩, h⟩ := ite_some h
      refine q_iasN (Int32.toNatClampNeg i1) (nx u_125) z_125 (fst_eq k_125) v_125 m_125 ?_
      obtain ⟨I_125, nI_125, h⟩ := stI_some h
      refine q_nI nI_125 ?_
      refine q_aload rfl ?_
      obtain ⟨b_127, r_127, h⟩ := Option.bind_eq_some_iff.mp h
      refine q_getRs (c0 := 8) (j := 1) rfl rfl (zl hS 104 (by decide)) (sk hS 104 (by decide) rfl) rfl (by decide) r_127 ?_
      obtain ⟨⟨z_130, k_130⟩, h⟩ := ite_some h
      obtain ⟨b_130, r_130, h⟩ := Option.bind_eq_some_iff.mp h
      refine q_getRs (c0 := 10) (j := 3) rfl rfl z_130 (fst_eq k_130) rfl (by decide) r_130 ?_
      refine q_iload rfl ?_
      refine q_aload rfl ?_
      obtain ⟨b_135, r_135, h⟩ := Option.bind_eq_some_iff.mp h
      refine q_getRs (c0 := 8) (j := 1) rfl rfl (zl hS 104 (by decide)) (sk hS 104 (by decide) rfl) rfl (by decide) r_135 ?_
      obtain ⟨⟨z_138, k_138⟩, h⟩ := ite_some h
      refine q_getI (c0 := 10) (j := 12) rfl rfl z_138 (fst_eq k_138) (Or.inl rfl) (by decide) ?_
      obtain ⟨⟨⟨z_141, k_141, m_141⟩, u_141, v_141⟩, h⟩ := ite_some h
      refine q_iasN (Int32.toNatClampNeg i1) (nx u_141) z_141 (fst_eq k_141) v_141 m_141 ?_
      obtain ⟨I_141, nI_141, h⟩ := stI_some h
      refine q_nI nI_141 ?_
      refine q_iload rfl ?_
      refine q_if_eq (fun c_143 => ?_) (fun c_143 => ?_)
      · rw [if_pos c_143] at h
        exact (ih dp d hdp _ _ i1 i2 _ _ _).2.2 h
      · rw [if_neg c_143] at h
        refine q_aload rfl ?_
        refine q_ldc (by decide) ?_
        obtain ⟨d_149, h⟩ := ite_some h
        obtain ⟨⟨x0_149, I0_149, L0_149⟩, e_149, h⟩ := Option.bind_eq_some_iff.mp h
        dsimp only at h
        refine q_fv2I (a_41 X hS (d := d - 1) (by omega) e_149) (by omega) (Nat.le_refl _) (Nat.le_refl _) rfl (Nat.le_of_ble_eq_true rfl) ⟨(zl hS 104 (by decide)), congrArg Prod.fst (sk hS 104 (by decide) rfl), by decide⟩ ?_
        refine q_if_eq (fun c_152 => ?_) (fun c_152 => ?_)
        · rw [if_pos c_152] at h
          exact (ih dp d hdp _ _ i1 i2 _ _ _).2.2 h
        · rw [if_neg c_152] at h
          refine q_aload rfl ?_
          obtain ⟨d_156, h⟩ := ite_some h
          obtain ⟨⟨I1_156, L1_156⟩, e_156, h⟩ := Option.bind_eq_some_iff.mp h
          dsimp only at h
          refine q_fv1V (a_37 X hS (d := d - 1) (by omega) e_156) (by omega) (Nat.le_refl _) (Nat.le_refl _) rfl (Nat.le_of_ble_eq_true rfl) ⟨(zl hS 104 (by decide)), congrArg Prod.fst (sk hS 104 (by decide) rfl), by decide⟩ ?_
          refine q_aload rfl ?_
          refine q_iconst (0) (by decide) ?_
          obtain ⟨d_161, h⟩ := ite_some h
          obtain ⟨⟨x2_161, I2_161, L2_161⟩, e_161, h⟩ := Option.bind_eq_some_iff.mp h
          dsimp only at h
          refine q_fv2I (a_62 X hS (d := d - 1) (by omega) e_161) (by omega) (Nat.le_refl _) (Nat.le_refl _) rfl (Nat.le_of_ble_eq_true rfl) ⟨(zl hS 104 (by decide)), congrArg Prod.fst (sk hS 104 (by decide) rfl), by decide⟩ ?_
          refine q_istore (ls1 := [some (.ref 104), some (.int i1), some (.int x2_161)]) (Nat.le_of_ble_eq_true rfl) rfl ?_
          refine q_end ?_
          exact (ih dp d hdp _ _ i1 x2_161 _ _ _).2.2 h
    · intro h
      rw [e_40_2] at h
      refine K_of b_40_165 h_40_165 ?_
      refine q_aload rfl ?_
      obtain ⟨b_166, r_166, h⟩ := Option.bind_eq_some_iff.mp h
      refine q_getRs (c0 := 8) (j := 1) rfl rfl (zl hS 104 (by decide)) (sk hS 104 (by decide) rfl) rfl (by decide) r_166 ?_
      obtain ⟨⟨z_169, k_169⟩, h⟩ := ite_some h
      obtain ⟨b_169, r_169, h⟩ := Option.bind_eq_some_iff.mp h
      refine q_getRs (c0 := 10) (j := 4) rfl rfl z_169 (fst_eq k_169) rfl (by decide) r_169 ?_
      refine q_iload rfl ?_
      refine q_aload rfl ?_
      obtain ⟨b_174, r_174, h⟩ := Option.bind_eq_some_iff.mp h
      refine q_getRs (c0 := 8) (j := 1) rfl rfl (zl hS 104 (by decide)) (sk hS 104 (by decide) rfl) rfl (by decide) r_174 ?_
      obtain ⟨⟨z_177, k_177⟩, h⟩ := ite_some h
      refine q_getI (c0 := 10) (j := 12) rfl rfl z_177 (fst_eq k_177) (Or.inl rfl) (by decide) ?_
      obtain ⟨⟨⟨z_180, k_180, m_180⟩, u_180, v_180⟩, h⟩ := ite_some h
      refine q_iasN (Int32.toNatClampNeg i1) (nx u_180) z_180 (fst_eq k_180) v_180 m_180 ?_
      obtain ⟨I_180, nI_180, h⟩ := stI_some h
      refine q_nI nI_180 ?_
      refine q_iload rfl ?_
      obtain ⟨w_182, h⟩ := ite_some h
      cases h
      exact q_iret (narB w_182) (Nat.le_refl _) (Nat.le_refl _) ⟨rfl, rfl⟩
theorem a_40 (X : GX) {z : Nat} {kd : Nat → Nat × Nat} {Rf : Nat → Nat → Option Nat} (hS : Sh z kd Rf) {n dp d : Nat} (hd : dp ≤ d) {I : (Nat → Nat → Int32)} {L : (Nat → Nat → Int64)} {i1 : Int32} {I1 : (Nat → Nat → Int32)} {L1 : (Nat → Nat → Int64)} {r : Int32} (h : g_40 n dp (z, kd, Rf) 0 I L i1 0 = some (r, I1, L1)) : Ct X d 40 0 0 [.ref 104, .int i1] (z, kd, I, L, Rf) (AI (fun x τ => x = r ∧ τ = (z, kd, I1, L1, Rf))) :=
  Ct_of mu_40 (Nat.le_of_ble_eq_true rfl) ((w_40 X hS n dp d hd I L i1 0 _ _ _).1 h)

