/-! 262 CutFloorModel.lay(III)Z -/
set_option maxHeartbeats 4000000 in
set_option maxRecDepth 100000 in
def g_262 : Nat → Nat → EN → Nat → (Nat → Nat → Int32) → (Nat → Nat → Int64) → Int32 → Int32 → Int32 → Int32 → Int32 → Int32 →  Option (Int32 × (Nat → Nat → Int32) × (Nat → Nat → Int64))
  | 0, _, _, _, _, _, _, _, _, _, _, _ => none
  | n + 1, dp, e, lab, I, L, i1, i2, i3, i4, i5, i6 =>
    if lab = 0 then (if 1 ≤ dp then (g_253 n (dp - 1) e 0 I L 0 0).bind (fun ⟨I0_1, L0_1⟩ => (stI (u2 I0_1 105 40 (0 : Int32)) (fun I_6 => (g_262 n dp e 1 I_6 L0_1 i1 i2 i3 (0 : Int32) 0 0)))) else none)
    else if lab = 1 then (if (3 : Int32) ≤ i4 then (stI (u2 I 105 48 (1 : Int32)) (fun I_104 => (g_262 n dp e 4 I_104 L i1 i2 i3 (0 : Int32) 0 0))) else (if i4 = 0 then (g_262 n dp e 2 I L i1 i2 i3 i4 i1 (0 : Int32)) else (if i4 = (1 : Int32) then (g_262 n dp e 2 I L i1 i2 i3 i4 i2 (0 : Int32)) else (g_262 n dp e 2 I L i1 i2 i3 i4 i3 (0 : Int32)))))
    else if lab = 2 then (if i5 ≤ i6 then (if i5 ≤ 0 then (g_262 n dp e 3 I L i1 i2 i3 i4 i5 i6) else (if 0 ≤ i4 ∧ (Int32.toNatClampNeg i4) < 3 then (if (I 120 (Int32.toNatClampNeg i4)) ≤ (64 : Int32) then (g_262 n dp e 3 I L i1 i2 i3 i4 i5 i6) else (some ((0 : Int32), I, L))) else none)) else (if 0 ≤ (I 105 40) ∧ (Int32.toNatClampNeg (I 105 40)) < 8 then (stI (u2 I 126 (Int32.toNatClampNeg (I 105 40)) i4) (fun I_60 => (stI (u2 I_60 105 40 ((I_60 105 40) + (1 : Int32))) (fun I_68 => (g_262 n dp e 2 I_68 L i1 i2 i3 i4 i5 (i6 + Int32.ofInt (1))))))) else none))
    else if lab = 3 then (g_262 n dp e 1 I L i1 i2 i3 (i4 + Int32.ofInt (1)) 0 0)
    else if lab = 4 then (if (10 : Int32) ≤ i4 then (some ((1 : Int32), I, L)) else (if 0 ≤ ((60 : Int32) + i4) ∧ (Int32.toNatClampNeg ((60 : Int32) + i4)) < 1570 then (if 0 ≤ i4 ∧ (Int32.toNatClampNeg i4) < 10 then (stI (u2 I 127 (Int32.toNatClampNeg i4) (I 107 (Int32.toNatClampNeg ((60 : Int32) + i4)))) (fun I_133 => (g_262 n dp e 4 I_133 L i1 i2 i3 (i4 + Int32.ofInt (1)) 0 0))) else none) else none))
    else none
set_option maxRecDepth 100000 in
theorem e_262_0 (n dp : Nat) (e : EN) (I : (Nat → Nat → Int32)) (L : (Nat → Nat → Int64)) (i1 : Int32) (i2 : Int32) (i3 : Int32) (i4 : Int32) (i5 : Int32) (i6 : Int32) : g_262 (n + 1) dp e 0 I L i1 i2 i3 i4 i5 i6 = (if 1 ≤ dp then (g_253 n (dp - 1) e 0 I L 0 0).bind (fun ⟨I0_1, L0_1⟩ => (stI (u2 I0_1 105 40 (0 : Int32)) (fun I_6 => (g_262 n dp e 1 I_6 L0_1 i1 i2 i3 (0 : Int32) 0 0)))) else none) := by rw [g_262.eq_2, if_pos (show (0 : Nat) = 0 from rfl)]
set_option maxRecDepth 100000 in
theorem e_262_1 (n dp : Nat) (e : EN) (I : (Nat → Nat → Int32)) (L : (Nat → Nat → Int64)) (i1 : Int32) (i2 : Int32) (i3 : Int32) (i4 : Int32) (i5 : Int32) (i6 : Int32) : g_262 (n + 1) dp e 1 I L i1 i2 i3 i4 i5 i6 = (if (3 : Int32) ≤ i4 then (stI (u2 I 105 48 (1 : Int32)) (fun I_104 => (g_262 n dp e 4 I_104 L i1 i2 i3 (0 : Int32) 0 0))) else (if i4 = 0 then (g_262 n dp e 2 I L i1 i2 i3 i4 i1 (0 : Int32)) else (if i4 = (1 : Int32) then (g_262 n dp e 2 I L i1 i2 i3 i4 i2 (0 : Int32)) else (g_262 n dp e 2 I L i1 i2 i3 i4 i3 (0 : Int32))))) := by rw [g_262.eq_2, if_neg (show ¬ ((1 : Nat) = 0) by decide), if_pos (show (1 : Nat) = 1 from rfl)]
set_option maxRecDepth 100000 in
theorem e_262_2 (n dp : Nat) (e : EN) (I : (Nat → Nat → Int32)) (L : (Nat → Nat → Int64)) (i1 : Int32) (i2 : Int32) (i3 : Int32) (i4 : Int32) (i5 : Int32) (i6 : Int32) : g_262 (n + 1) dp e 2 I L i1 i2 i3 i4 i5 i6 = (if i5 ≤ i6 then (if i5 ≤ 0 then (g_262 n dp e 3 I L i1 i2 i3 i4 i5 i6) else (if 0 ≤ i4 ∧ (Int32.toNatClampNeg i4) < 3 then (if (I 120 (Int32.toNatClampNeg i4)) ≤ (64 : Int32) then (g_262 n dp e 3 I L i1 i2 i3 i4 i5 i6) else (some ((0 : Int32), I, L))) else none)) else (if 0 ≤ (I 105 40) ∧ (Int32.toNatClampNeg (I 105 40)) < 8 then (stI (u2 I 126 (Int32.toNatClampNeg (I 105 40)) i4) (fun I_60 => (stI (u2 I_60 105 40 ((I_60 105 40) + (1 : Int32))) (fun I_68 => (g_262 n dp e 2 I_68 L i1 i2 i3 i4 i5 (i6 + Int32.ofInt (1))))))) else none)) := by rw [g_262.eq_2, if_neg (show ¬ ((2 : Nat) = 0) by decide), if_neg (show ¬ ((2 : Nat) = 1) by decide), if_pos (show (2 : Nat) = 2 from rfl)]
set_option maxRecDepth 100000 in
theorem e_262_3 (n dp : Nat) (e : EN) (I : (Nat → Nat → Int32)) (L : (Nat → Nat → Int64)) (i1 : Int32) (i2 : Int32) (i3 : Int32) (i4 : Int32) (i5 : Int32) (i6 : Int32) : g_262 (n + 1) dp e 3 I L i1 i2 i3 i4 i5 i6 = (g_262 n dp e 1 I L i1 i2 i3 (i4 + Int32.ofInt (1)) 0 0) := by rw [g_262.eq_2, if_neg (show ¬ ((3 : Nat) = 0) by decide), if_neg (show ¬ ((3 : Nat) = 1) by decide), if_neg (show ¬ ((3 : Nat) = 2) by decide), if_pos (show (3 : Nat) = 3 from rfl)]
set_option maxRecDepth 100000 in
theorem e_262_4 (n dp : Nat) (e : EN) (I : (Nat → Nat → Int32)) (L : (Nat → Nat → Int64)) (i1 : Int32) (i2 : Int32) (i3 : Int32) (i4 : Int32) (i5 : Int32) (i6 : Int32) : g_262 (n + 1) dp e 4 I L i1 i2 i3 i4 i5 i6 = (if (10 : Int32) ≤ i4 then (some ((1 : Int32), I, L)) else (if 0 ≤ ((60 : Int32) + i4) ∧ (Int32.toNatClampNeg ((60 : Int32) + i4)) < 1570 then (if 0 ≤ i4 ∧ (Int32.toNatClampNeg i4) < 10 then (stI (u2 I 127 (Int32.toNatClampNeg i4) (I 107 (Int32.toNatClampNeg ((60 : Int32) + i4)))) (fun I_133 => (g_262 n dp e 4 I_133 L i1 i2 i3 (i4 + Int32.ofInt (1)) 0 0))) else none) else none)) := by rw [g_262.eq_2, if_neg (show ¬ ((4 : Nat) = 0) by decide), if_neg (show ¬ ((4 : Nat) = 1) by decide), if_neg (show ¬ ((4 : Nat) = 2) by decide), if_neg (show ¬ ((4 : Nat) = 3) by decide), if_pos (show (4 : Nat) = 4 from rfl)]
set_option maxHeartbeats 8000000 in
set_option maxRecDepth 100000 in
theorem w_262 (X : GX) {z : Nat} {kd : Nat → Nat × Nat} {Rf : Nat → Nat → Option Nat} (hS : Sh z kd Rf) : ∀ (n dp d : Nat), dp ≤ d → ∀ (I : (Nat → Nat → Int32)) (L : (Nat → Nat → Int64)) (i1 : Int32) (i2 : Int32) (i3 : Int32) (i4 : Int32) (i5 : Int32) (i6 : Int32) (r : Int32) (I1 : (Nat → Nat → Int32)) (L1 : (Nat → Nat → Int64)), (g_262 n dp (z, kd, Rf) 0 I L i1 i2 i3 i4 i5 i6 = some (r, I1, L1) → K X d 262 0 0 (AI (fun x τ => x = r ∧ τ = (z, kd, I1, L1, Rf))) 0 [some (.ref 105), some (.int i1), some (.int i2), some (.int i3), none, none, none] [] (z, kd, I, L, Rf) 0 0) ∧
    (g_262 n dp (z, kd, Rf) 1 I L i1 i2 i3 i4 i5 i6 = some (r, I1, L1) → K X d 262 0 0 (AI (fun x τ => x = r ∧ τ = (z, kd, I1, L1, Rf))) 12 [some (.ref 105), some (.int i1), some (.int i2), some (.int i3), some (.int i4), none, none] [] (z, kd, I, L, Rf) 0 0) ∧
    (g_262 n dp (z, kd, Rf) 2 I L i1 i2 i3 i4 i5 i6 = some (r, I1, L1) → K X d 262 0 0 (AI (fun x τ => x = r ∧ τ = (z, kd, I1, L1, Rf))) 43 [some (.ref 105), some (.int i1), some (.int i2), some (.int i3), some (.int i4), some (.int i5), some (.int i6)] [] (z, kd, I, L, Rf) 0 0) ∧
    (g_262 n dp (z, kd, Rf) 3 I L i1 i2 i3 i4 i5 i6 = some (r, I1, L1) → K X d 262 0 0 (AI (fun x τ => x = r ∧ τ = (z, kd, I1, L1, Rf))) 96 [some (.ref 105), some (.int i1), some (.int i2), some (.int i3), some (.int i4), some (.int i5), some (.int i6)] [] (z, kd, I, L, Rf) 0 0) ∧
    (g_262 n dp (z, kd, Rf) 4 I L i1 i2 i3 i4 i5 i6 = some (r, I1, L1) → K X d 262 0 0 (AI (fun x τ => x = r ∧ τ = (z, kd, I1, L1, Rf))) 110 [some (.ref 105), some (.int i1), some (.int i2), some (.int i3), some (.int i4), none, none] [] (z, kd, I, L, Rf) 0 0) := by
  intro n
  induction n with
  | zero => intro dp d hdp I L i1 i2 i3 i4 i5 i6 r I1 L1; exact ⟨(fun h => by cases h), (fun h => by cases h), (fun h => by cases h), (fun h => by cases h), (fun h => by cases h)⟩
  | succ n ih =>
    intro dp d hdp I L i1 i2 i3 i4 i5 i6 r I1 L1
    refine ⟨?_, ?_, ?_, ?_, ?_⟩
    · intro h
      rw [e_262_0] at h
      refine K_of b_262_0 h_262_0 ?_
      refine q_aload rfl ?_
      obtain ⟨d_1, h⟩ := ite_some h
      obtain ⟨⟨I0_1, L0_1⟩, e_1, h⟩ := Option.bind_eq_some_iff.mp h
      dsimp only at h
      refine q_fv1V (a_253 X hS (d := d - 1) (by omega) e_1) (by omega) (Nat.le_refl _) (Nat.le_refl _) rfl (Nat.le_of_ble_eq_true rfl) ⟨(zl hS 105 (by decide)), congrArg Prod.fst (sk hS 105 (by decide) rfl), by decide⟩ ?_
      refine q_aload rfl ?_
      refine q_iconst (0) (by decide) ?_
      refine q_putI (c0 := 12) (j := 40) rfl rfl (zl hS 105 (by decide)) (sk hS 105 (by decide) rfl) rfl ?_
      obtain ⟨I_6, nI_6, h⟩ := stI_some h
      refine q_nI nI_6 ?_
      refine q_iconst (0) (by decide) ?_
      refine q_istore (ls1 := [some (.ref 105), some (.int i1), some (.int i2), some (.int i3), some (.int (0 : Int32)), none, none]) (Nat.le_of_ble_eq_true rfl) rfl ?_
      refine q_end ?_
      exact (ih dp d hdp _ _ i1 i2 i3 (0 : Int32) 0 0 _ _ _).2.1 h
    · intro h
      rw [e_262_1] at h
      refine K_of b_262_12 h_262_12 ?_
      refine q_iload rfl ?_
      refine q_iconst (3) (by decide) ?_
      refine q_icmp_ge (fun c_15 => ?_) (fun c_15 => ?_)
      · rw [if_pos c_15] at h
        refine K_of b_262_102 h_262_102 ?_
        refine q_aload rfl ?_
        refine q_iconst (1) (by decide) ?_
        refine q_putI (c0 := 12) (j := 48) rfl rfl (zl hS 105 (by decide)) (sk hS 105 (by decide) rfl) rfl ?_
        obtain ⟨I_104, nI_104, h⟩ := stI_some h
        refine q_nI nI_104 ?_
        refine q_iconst (0) (by decide) ?_
        refine q_istore (ls1 := [some (.ref 105), some (.int i1), some (.int i2), some (.int i3), some (.int (0 : Int32)), none, none]) (Nat.le_of_ble_eq_true rfl) rfl ?_
        refine q_end ?_
        exact (ih dp d hdp _ _ i1 i2 i3 (0 : Int32) 0 0 _ _ _).2.2.2.2 h
      · rw [if_neg c_15] at h
        refine q_iload rfl ?_
        refine q_if_ne (fun c_20 => ?_) (fun c_20 => ?_)
        · rw [if_neg c_20] at h
          refine K_of b_262_27 h_262_27 ?_
          refine q_iload rfl ?_
          refine q_iconst (1) (by decide) ?_
          refine q_icmp_ne (fun c_30 => ?_) (fun c_30 => ?_)
          · rw [if_neg c_30] at h
            refine K_of b_262_37 h_262_37 ?_
            refine q_iload rfl ?_
            refine q_end ?_
            refine K_of b_262_38 h_262_38 ?_
            refine q_istore (ls1 := [some (.ref 105), some (.int i1), some (.int i2), some (.int i3), some (.int i4), some (.int i3), none]) (Nat.le_of_ble_eq_true rfl) rfl ?_
            refine q_iconst (0) (by decide) ?_
            refine q_istore (ls1 := [some (.ref 105), some (.int i1), some (.int i2), some (.int i3), some (.int i4), some (.int i3), some (.int (0 : Int32))]) (Nat.le_of_ble_eq_true rfl) rfl ?_
            refine q_end ?_
            exact (ih dp d hdp _ _ i1 i2 i3 i4 i3 (0 : Int32) _ _ _).2.2.1 h
          · rw [if_pos c_30] at h
            refine q_iload rfl ?_
            refine q_goto ?_
            refine K_of b_262_38 h_262_38 ?_
            refine q_istore (ls1 := [some (.ref 105), some (.int i1), some (.int i2), some (.int i3), some (.int i4), some (.int i2), none]) (Nat.le_of_ble_eq_true rfl) rfl ?_
            refine q_iconst (0) (by decide) ?_
            refine q_istore (ls1 := [some (.ref 105), some (.int i1), some (.int i2), some (.int i3), some (.int i4), some (.int i2), some (.int (0 : Int32))]) (Nat.le_of_ble_eq_true rfl) rfl ?_
            refine q_end ?_
            exact (ih dp d hdp _ _ i1 i2 i3 i4 i2 (0 : Int32) _ _ _).2.2.1 h
        · rw [if_pos c_20] at h
          refine q_iload rfl ?_
          refine q_goto ?_
          refine K_of b_262_38 h_262_38 ?_
          refine q_istore (ls1 := [some (.ref 105), some (.int i1), some (.int i2), some (.int i3), some (.int i4), some (.int i1), none]) (Nat.le_of_ble_eq_true rfl) rfl ?_
          refine q_iconst (0) (by decide) ?_
          refine q_istore (ls1 := [some (.ref 105), some (.int i1), some (.int i2), some (.int i3), some (.int i4), some (.int i1), some (.int (0 : Int32))]) (Nat.le_of_ble_eq_true rfl) rfl ?_
          refine q_end ?_
          exact (ih dp d hdp _ _ i1 i2 i3 i4 i1 (0 : Int32) _ _ _).2.2.1 h
    · intro h
      rw [e_262_2] at h
      refine K_of b_262_43 h_262_43 ?_
      refine q_iload rfl ?_
      refine q_iload rfl ?_
      refine q_icmp_ge (fun c_47 => ?_) (fun c_47 => ?_)
      · rw [if_pos c_47] at h
        refine K_of b_262_77 h_262_77 ?_
        refine q_iload rfl ?_
        refine q_if_le (fun c_79 => ?_) (fun c_79 => ?_)
        · rw [if_pos c_79] at h
          exact (ih dp d hdp _ _ i1 i2 i3 i4 i5 i6 _ _ _).2.2.2.1 h
        · rw [if_neg c_79] at h
          refine q_aload rfl ?_
          refine q_getRs (c0 := 12) (j := 33) rfl rfl (zl hS 105 (by decide)) (sk hS 105 (by decide) rfl) rfl (by decide) (r_105_33 hS) ?_
          refine q_iload rfl ?_
          obtain ⟨⟨u_88, v_88⟩, h⟩ := ite_some h
          refine q_ialN (Int32.toNatClampNeg i4) (nx u_88) (zl hS 120 (by decide)) (sk hS 120 (by decide) rfl) v_88 (by decide) ?_
          refine q_iconst (64) (by decide) ?_
          refine q_icmp_le (fun c_91 => ?_) (fun c_91 => ?_)
          · rw [if_pos c_91] at h
            exact (ih dp d hdp _ _ i1 i2 i3 i4 i5 i6 _ _ _).2.2.2.1 h
          · rw [if_neg c_91] at h
            refine q_iconst (0) (by decide) ?_
            cases h
            exact q_iret rfl (Nat.le_refl _) (Nat.le_refl _) ⟨rfl, rfl⟩
      · rw [if_neg c_47] at h
        refine q_aload rfl ?_
        refine q_getRs (c0 := 12) (j := 39) rfl rfl (zl hS 105 (by decide)) (sk hS 105 (by decide) rfl) rfl (by decide) (r_105_39 hS) ?_
        refine q_aload rfl ?_
        refine q_getI (c0 := 12) (j := 40) rfl rfl (zl hS 105 (by decide)) (sk hS 105 (by decide) rfl) (Or.inl rfl) (by decide) ?_
        refine q_iload rfl ?_
        obtain ⟨⟨u_60, v_60⟩, h⟩ := ite_some h
        refine q_iasN (Int32.toNatClampNeg (I 105 40)) (nx u_60) (zl hS 126 (by decide)) (sk hS 126 (by decide) rfl) v_60 (by decide) ?_
        obtain ⟨I_60, nI_60, h⟩ := stI_some h
        refine q_nI nI_60 ?_
        refine q_aload rfl ?_
        refine q_dup rfl ?_
        refine q_getI (c0 := 12) (j := 40) rfl rfl (zl hS 105 (by decide)) (sk hS 105 (by decide) rfl) (Or.inl rfl) (by decide) ?_
        refine q_iconst (1) (by decide) ?_
        refine q_iadd ?_
        refine q_putI (c0 := 12) (j := 40) rfl rfl (zl hS 105 (by decide)) (sk hS 105 (by decide) rfl) rfl ?_
        obtain ⟨I_68, nI_68, h⟩ := stI_some h
        refine q_nI nI_68 ?_
        refine q_iinc (ls1 := [some (.ref 105), some (.int i1), some (.int i2), some (.int i3), some (.int i4), some (.int i5), some (.int (i6 + Int32.ofInt (1)))]) rfl rfl ?_
        refine q_goto ?_
        exact (ih dp d hdp _ _ i1 i2 i3 i4 i5 (i6 + Int32.ofInt (1)) _ _ _).2.2.1 h
    · intro h
      rw [e_262_3] at h
      refine K_of b_262_96 h_262_96 ?_
      refine q_iinc (ls1 := [some (.ref 105), some (.int i1), some (.int i2), some (.int i3), some (.int (i4 + Int32.ofInt (1))), some (.int i5), some (.int i6)]) rfl rfl ?_
      refine q_goto ?_
      refine K_mask [true, true, true, true, true, false, false] (Nat.le_of_ble_eq_true rfl) ?_
      exact (ih dp d hdp _ _ i1 i2 i3 (i4 + Int32.ofInt (1)) 0 0 _ _ _).2.1 h
    · intro h
      rw [e_262_4] at h
      refine K_of b_262_110 h_262_110 ?_
      refine q_iload rfl ?_
      refine q_iconst (10) (by decide) ?_
      refine q_icmp_ge (fun c_114 => ?_) (fun c_114 => ?_)
      · rw [if_pos c_114] at h
        refine K_of b_262_140 h_262_140 ?_
        refine q_iconst (1) (by decide) ?_
        cases h
        exact q_iret rfl (Nat.le_refl _) (Nat.le_refl _) ⟨rfl, rfl⟩
      · rw [if_neg c_114] at h
        refine q_aload rfl ?_
        refine q_getRs (c0 := 12) (j := 41) rfl rfl (zl hS 105 (by decide)) (sk hS 105 (by decide) rfl) rfl (by decide) (r_105_41 hS) ?_
        refine q_iload rfl ?_
        refine q_aload rfl ?_
        refine q_getRs (c0 := 12) (j := 3) rfl rfl (zl hS 105 (by decide)) (sk hS 105 (by decide) rfl) rfl (by decide) (r_105_3 hS) ?_
        refine q_iconst (60) (by decide) ?_
        refine q_iload rfl ?_
        refine q_iadd ?_
        obtain ⟨⟨u_132, v_132⟩, h⟩ := ite_some h
        refine q_ialN (Int32.toNatClampNeg ((60 : Int32) + i4)) (nx u_132) (zl hS 107 (by decide)) (sk hS 107 (by decide) rfl) v_132 (by decide) ?_
        obtain ⟨⟨u_133, v_133⟩, h⟩ := ite_some h
        refine q_iasN (Int32.toNatClampNeg i4) (nx u_133) (zl hS 127 (by decide)) (sk hS 127 (by decide) rfl) v_133 (by decide) ?_
        obtain ⟨I_133, nI_133, h⟩ := stI_some h
        refine q_nI nI_133 ?_
        refine q_iinc (ls1 := [some (.ref 105), some (.int i1), some (.int i2), some (.int i3), some (.int (i4 + Int32.ofInt (1))), none, none]) rfl rfl ?_
        refine q_goto ?_
        exact (ih dp d hdp _ _ i1 i2 i3 (i4 + Int32.ofInt (1)) 0 0 _ _ _).2.2.2.2 h
theorem a_262 (X : GX) {z : Nat} {kd : Nat → Nat × Nat} {Rf : Nat → Nat → Option Nat} (hS : Sh z kd Rf) {n dp d : Nat} (hd : dp ≤ d) {I : (Nat → Nat → Int32)} {L : (Nat → Nat → Int64)} {i1 : Int32} {i2 : Int32} {i3 : Int32} {I1 : (Nat → Nat → Int32)} {L1 : (Nat → Nat → Int64)} {r : Int32} (h : g_262 n dp (z, kd, Rf) 0 I L i1 i2 i3 0 0 0 = some (r, I1, L1)) : Ct X d 262 0 0 [.ref 105, .int i1, .int i2, .int i3] (z, kd, I, L, Rf) (AI (fun x τ => x = r ∧ τ = (z, kd, I1, L1, Rf))) :=
  Ct_of mu_262 (Nat.le_of_ble_eq_true rfl) ((w_262 X hS n dp d hd I L i1 i2 i3 0 0 0 _ _ _).1 h)

/-! 264 CutFloorModel.layOrders()V -/
set_option maxHeartbeats 4000000 in
set_option maxRecDepth 100000 in
def g_264 : Nat → Nat → EN → Nat → (Nat → Nat → Int32) → (Nat → Nat → Int64) → Int32 →  Option ((Nat → Nat → Int32) × (Nat → Nat → Int64))
  | 0, _, _, _, _, _, _ => none
  | n + 1, dp, e, lab, I, L, i1 =>
    if lab = 0 then (stI (u2 I 105 43 (0 : Int32)) (fun I_2 => (stI (u2 I_2 105 44 (1 : Int32)) (fun I_7 => (g_264 n dp e 1 I_7 L (0 : Int32))))))
    else if lab = 1 then (if (10 : Int32) ≤ i1 then (some (I, L)) else (if 0 ≤ i1 ∧ (Int32.toNatClampNeg i1) < 10 then (if (I 127 (Int32.toNatClampNeg i1)) ≤ 0 then (g_264 n dp e 2 I L i1) else (if 0 ≤ (I 105 43) ∧ (Int32.toNatClampNeg (I 105 43)) < 5 then (stI (u2 I 128 (Int32.toNatClampNeg (I 105 43)) i1) (fun I_36 => (stI (u2 I_36 105 43 ((I_36 105 43) + (1 : Int32))) (fun I_44 => (if 0 ≤ i1 ∧ (Int32.toNatClampNeg i1) < 10 then (stI (u2 I_44 105 44 ((I_44 105 44) * ((I_44 127 (Int32.toNatClampNeg i1)) + (1 : Int32)))) (fun I_61 => (g_264 n dp e 2 I_61 L i1))) else none))))) else none)) else none))
    else if lab = 2 then (g_264 n dp e 1 I L (i1 + Int32.ofInt (1)))
    else none
set_option maxRecDepth 100000 in
theorem e_264_0 (n dp : Nat) (e : EN) (I : (Nat → Nat → Int32)) (L : (Nat → Nat → Int64)) (i1 : Int32) : g_264 (n + 1) dp e 0 I L i1 = (stI (u2 I 105 43 (0 : Int32)) (fun I_2 => (stI (u2 I_2 105 44 (1 : Int32)) (fun I_7 => (g_264 n dp e 1 I_7 L (0 : Int32)))))) := by rw [g_264.eq_2, if_pos (show (0 : Nat) = 0 from rfl)]
set_option maxRecDepth 100000 in
theorem e_264_1 (n dp : Nat) (e : EN) (I : (Nat → Nat → Int32)) (L : (Nat → Nat → Int64)) (i1 : Int32) : g_264 (n + 1) dp e 1 I L i1 = (if (10 : Int32) ≤ i1 then (some (I, L)) else (if 0 ≤ i1 ∧ (Int32.toNatClampNeg i1) < 10 then (if (I 127 (Int32.toNatClampNeg i1)) ≤ 0 then (g_264 n dp e 2 I L i1) else (if 0 ≤ (I 105 43) ∧ (Int32.toNatClampNeg (I 105 43)) < 5 then (stI (u2 I 128 (Int32.toNatClampNeg (I 105 43)) i1) (fun I_36 => (stI (u2 I_36 105 43 ((I_36 105 43) + (1 : Int32))) (fun I_44 => (if 0 ≤ i1 ∧ (Int32.toNatClampNeg i1) < 10 then (stI (u2 I_44 105 44 ((I_44 105 44) * ((I_44 127 (Int32.toNatClampNeg i1)) + (1 : Int32)))) (fun I_61 => (g_264 n dp e 2 I_61 L i1))) else none))))) else none)) else none)) := by rw [g_264.eq_2, if_neg (show ¬ ((1 : Nat) = 0) by decide), if_pos (show (1 : Nat) = 1 from rfl)]
set_option maxRecDepth 100000 in
theorem e_264_2 (n dp : Nat) (e : EN) (I : (Nat → Nat → Int32)) (L : (Nat → Nat → Int64)) (i1 : Int32) : g_264 (n + 1) dp e 2 I L i1 = (g_264 n dp e 1 I L (i1 + Int32.ofInt (1))) := by rw [g_264.eq_2, if_neg (show ¬ ((2 : Nat) = 0) by decide), if_neg (show ¬ ((2 : Nat) = 1) by decide), if_pos (show (2 : Nat) = 2 from rfl)]
set_option maxHeartbeats 8000000 in
set_option maxRecDepth 100000 in
theorem w_264 (X : GX) {z : Nat} {kd : Nat → Nat × Nat} {Rf : Nat → Nat → Option Nat} (hS : Sh z kd Rf) : ∀ (n dp d : Nat), dp ≤ d → ∀ (I : (Nat → Nat → Int32)) (L : (Nat → Nat → Int64)) (i1 : Int32) (I1 : (Nat → Nat → Int32)) (L1 : (Nat → Nat → Int64)), (g_264 n dp (z, kd, Rf) 0 I L i1 = some (I1, L1) → K X d 264 0 0 (AV (fun τ => τ = (z, kd, I1, L1, Rf))) 0 [some (.ref 105), none] [] (z, kd, I, L, Rf) 0 0) ∧
    (g_264 n dp (z, kd, Rf) 1 I L i1 = some (I1, L1) → K X d 264 0 0 (AV (fun τ => τ = (z, kd, I1, L1, Rf))) 12 [some (.ref 105), some (.int i1)] [] (z, kd, I, L, Rf) 0 0) ∧
    (g_264 n dp (z, kd, Rf) 2 I L i1 = some (I1, L1) → K X d 264 0 0 (AV (fun τ => τ = (z, kd, I1, L1, Rf))) 64 [some (.ref 105), some (.int i1)] [] (z, kd, I, L, Rf) 0 0) := by
  intro n
  induction n with
  | zero => intro dp d hdp I L i1 I1 L1; exact ⟨(fun h => by cases h), (fun h => by cases h), (fun h => by cases h)⟩
  | succ n ih =>
    intro dp d hdp I L i1 I1 L1
    refine ⟨?_, ?_, ?_⟩
    · intro h
      rw [e_264_0] at h
      refine K_of b_264_0 h_264_0 ?_
      refine q_aload rfl ?_
      refine q_iconst (0) (by decide) ?_
      refine q_putI (c0 := 12) (j := 43) rfl rfl (zl hS 105 (by decide)) (sk hS 105 (by decide) rfl) rfl ?_
      obtain ⟨I_2, nI_2, h⟩ := stI_some h
      refine q_nI nI_2 ?_
      refine q_aload rfl ?_
      refine q_iconst (1) (by decide) ?_
      refine q_putI (c0 := 12) (j := 44) rfl rfl (zl hS 105 (by decide)) (sk hS 105 (by decide) rfl) rfl ?_
      obtain ⟨I_7, nI_7, h⟩ := stI_some h
      refine q_nI nI_7 ?_
      refine q_iconst (0) (by decide) ?_
      refine q_istore (ls1 := [some (.ref 105), some (.int (0 : Int32))]) (Nat.le_of_ble_eq_true rfl) rfl ?_
      refine q_end ?_
      exact (ih dp d hdp _ _ (0 : Int32) _ _).2.1 h
    · intro h
      rw [e_264_1] at h
      refine K_of b_264_12 h_264_12 ?_
      refine q_iload rfl ?_
      refine q_iconst (10) (by decide) ?_
      refine q_icmp_ge (fun c_15 => ?_) (fun c_15 => ?_)
      · rw [if_pos c_15] at h
        refine K_of b_264_70 h_264_70 ?_
        cases h
        exact q_vret rfl (Nat.le_refl _) (Nat.le_refl _) rfl
      · rw [if_neg c_15] at h
        refine q_aload rfl ?_
        refine q_getRs (c0 := 12) (j := 41) rfl rfl (zl hS 105 (by decide)) (sk hS 105 (by decide) rfl) rfl (by decide) (r_105_41 hS) ?_
        refine q_iload rfl ?_
        obtain ⟨⟨u_23, v_23⟩, h⟩ := ite_some h
        refine q_ialN (Int32.toNatClampNeg i1) (nx u_23) (zl hS 127 (by decide)) (sk hS 127 (by decide) rfl) v_23 (by decide) ?_
        refine q_if_le (fun c_24 => ?_) (fun c_24 => ?_)
        · rw [if_pos c_24] at h
          exact (ih dp d hdp _ _ i1 _ _).2.2 h
        · rw [if_neg c_24] at h
          refine q_aload rfl ?_
          refine q_getRs (c0 := 12) (j := 42) rfl rfl (zl hS 105 (by decide)) (sk hS 105 (by decide) rfl) rfl (by decide) (r_105_42 hS) ?_
          refine q_aload rfl ?_
          refine q_getI (c0 := 12) (j := 43) rfl rfl (zl hS 105 (by decide)) (sk hS 105 (by decide) rfl) (Or.inl rfl) (by decide) ?_
          refine q_iload rfl ?_
          obtain ⟨⟨u_36, v_36⟩, h⟩ := ite_some h
          refine q_iasN (Int32.toNatClampNeg (I 105 43)) (nx u_36) (zl hS 128 (by decide)) (sk hS 128 (by decide) rfl) v_36 (by decide) ?_
          obtain ⟨I_36, nI_36, h⟩ := stI_some h
          refine q_nI nI_36 ?_
          refine q_aload rfl ?_
          refine q_dup rfl ?_
          refine q_getI (c0 := 12) (j := 43) rfl rfl (zl hS 105 (by decide)) (sk hS 105 (by decide) rfl) (Or.inl rfl) (by decide) ?_
          refine q_iconst (1) (by decide) ?_
          refine q_iadd ?_
          refine q_putI (c0 := 12) (j := 43) rfl rfl (zl hS 105 (by decide)) (sk hS 105 (by decide) rfl) rfl ?_
          obtain ⟨I_44, nI_44, h⟩ := stI_some h
          refine q_nI nI_44 ?_
          refine q_aload rfl ?_
          refine q_dup rfl ?_
          refine q_getI (c0 := 12) (j := 44) rfl rfl (zl hS 105 (by decide)) (sk hS 105 (by decide) rfl) (Or.inl rfl) (by decide) ?_
          refine q_aload rfl ?_
          refine q_getRs (c0 := 12) (j := 41) rfl rfl (zl hS 105 (by decide)) (sk hS 105 (by decide) rfl) rfl (by decide) (r_105_41 hS) ?_
          refine q_iload rfl ?_
          obtain ⟨⟨u_57, v_57⟩, h⟩ := ite_some h
          refine q_ialN (Int32.toNatClampNeg i1) (nx u_57) (zl hS 127 (by decide)) (sk hS 127 (by decide) rfl) v_57 (by decide) ?_
          refine q_iconst (1) (by decide) ?_
          refine q_iadd ?_
          refine q_imul ?_
          refine q_putI (c0 := 12) (j := 44) rfl rfl (zl hS 105 (by decide)) (sk hS 105 (by decide) rfl) rfl ?_
          obtain ⟨I_61, nI_61, h⟩ := stI_some h
          refine q_nI nI_61 ?_
          refine q_end ?_
          exact (ih dp d hdp _ _ i1 _ _).2.2 h
    · intro h
      rw [e_264_2] at h
      refine K_of b_264_64 h_264_64 ?_
      refine q_iinc (ls1 := [some (.ref 105), some (.int (i1 + Int32.ofInt (1)))]) rfl rfl ?_
      refine q_goto ?_
      exact (ih dp d hdp _ _ (i1 + Int32.ofInt (1)) _ _).2.1 h
theorem a_264 (X : GX) {z : Nat} {kd : Nat → Nat × Nat} {Rf : Nat → Nat → Option Nat} (hS : Sh z kd Rf) {n dp d : Nat} (hd : dp ≤ d) {I : (Nat → Nat → Int32)} {L : (Nat → Nat → Int64)} {I1 : (Nat → Nat → Int32)} {L1 : (Nat → Nat → Int64)} (h : g_264 n dp (z, kd, Rf) 0 I L 0 = some (I1, L1)) : Ct X d 264 0 0 [.ref 105] (z, kd, I, L, Rf) (AV (fun τ => τ = (z, kd, I1, L1, Rf))) :=
  Ct_of mu_264 (Nat.le_of_ble_eq_true rfl) ((w_264 X hS n dp d hd I L 0 _ _).1 h)

/-! 265 CutFloorModel.split(I)V -/
set_option maxHeartbeats 4000000 in
set_option maxRecDepth 100000 in
def g_265 : Nat → Nat → EN → Nat → (Nat → Nat → Int32) → (Nat → Nat → Int64) → Int32 → Int32 → Int32 →  Option ((Nat → Nat → Int32) × (Nat → Nat → Int64))
  | 0, _, _, _, _, _, _, _, _ => none
  | n + 1, dp, e, lab, I, L, i1, i2, i3 =>
    if lab = 0 then (g_265 n dp e 1 I L i1 i1 (0 : Int32))
    else if lab = 1 then (if (I 105 43) ≤ i3 then (some (I, L)) else (if 0 ≤ i3 ∧ (Int32.toNatClampNeg i3) < 5 then (if 0 ≤ (I 128 (Int32.toNatClampNeg i3)) ∧ (Int32.toNatClampNeg (I 128 (Int32.toNatClampNeg i3))) < 10 then (stI ((I 127 (Int32.toNatClampNeg (I 128 (Int32.toNatClampNeg i3)))) + (1 : Int32)) (fun v_25 => (if ¬ v_25 = 0 then (if 0 ≤ i3 ∧ (Int32.toNatClampNeg i3) < 5 then (stI (u2 I 133 (Int32.toNatClampNeg i3) (i2 - i2 / v_25 * v_25)) (fun I_36 => (if ¬ v_25 = 0 then (g_265 n dp e 1 I_36 L i1 (i2 / v_25) (i3 + Int32.ofInt (1))) else none))) else none) else none))) else none) else none))
    else none
set_option maxRecDepth 100000 in
theorem e_265_0 (n dp : Nat) (e : EN) (I : (Nat → Nat → Int32)) (L : (Nat → Nat → Int64)) (i1 : Int32) (i2 : Int32) (i3 : Int32) : g_265 (n + 1) dp e 0 I L i1 i2 i3 = (g_265 n dp e 1 I L i1 i1 (0 : Int32)) := by rw [g_265.eq_2, if_pos (show (0 : Nat) = 0 from rfl)]
set_option maxRecDepth 100000 in
theorem e_265_1 (n dp : Nat) (e : EN) (I : (Nat → Nat → Int32)) (L : (Nat → Nat → Int64)) (i1 : Int32) (i2 : Int32) (i3 : Int32) : g_265 (n + 1) dp e 1 I L i1 i2 i3 = (if (I 105 43) ≤ i3 then (some (I, L)) else (if 0 ≤ i3 ∧ (Int32.toNatClampNeg i3) < 5 then (if 0 ≤ (I 128 (Int32.toNatClampNeg i3)) ∧ (Int32.toNatClampNeg (I 128 (Int32.toNatClampNeg i3))) < 10 then (stI ((I 127 (Int32.toNatClampNeg (I 128 (Int32.toNatClampNeg i3)))) + (1 : Int32)) (fun v_25 => (if ¬ v_25 = 0 then (if 0 ≤ i3 ∧ (Int32.toNatClampNeg i3) < 5 then (stI (u2 I 133 (Int32.toNatClampNeg i3) (i2 - i2 / v_25 * v_25)) (fun I_36 => (if ¬ v_25 = 0 then (g_265 n dp e 1 I_36 L i1 (i2 / v_25) (i3 + Int32.ofInt (1))) else none))) else none) else none))) else none) else none)) := by rw [g_265.eq_2, if_neg (show ¬ ((1 : Nat) = 0) by decide), if_pos (show (1 : Nat) = 1 from rfl)]
set_option maxHeartbeats 8000000 in
set_option maxRecDepth 100000 in
theorem w_265 (X : GX) {z : Nat} {kd : Nat → Nat × Nat} {Rf : Nat → Nat → Option Nat} (hS : Sh z kd Rf) : ∀ (n dp d : Nat), dp ≤ d → ∀ (I : (Nat → Nat → Int32)) (L : (Nat → Nat → Int64)) (i1 : Int32) (i2 : Int32) (i3 : Int32) (I1 : (Nat → Nat → Int32)) (L1 : (Nat → Nat → Int64)), (g_265 n dp (z, kd, Rf) 0 I L i1 i2 i3 = some (I1, L1) → K X d 265 0 0 (AV (fun τ => τ = (z, kd, I1, L1, Rf))) 0 [some (.ref 105), some (.int i1), none, none, none] [] (z, kd, I, L, Rf) 0 0) ∧
    (g_265 n dp (z, kd, Rf) 1 I L i1 i2 i3 = some (I1, L1) → K X d 265 0 0 (AV (fun τ => τ = (z, kd, I1, L1, Rf))) 4 [some (.ref 105), some (.int i1), some (.int i2), some (.int i3), none] [] (z, kd, I, L, Rf) 0 0) := by
  intro n
  induction n with
  | zero => intro dp d hdp I L i1 i2 i3 I1 L1; exact ⟨(fun h => by cases h), (fun h => by cases h)⟩
  | succ n ih =>
    intro dp d hdp I L i1 i2 i3 I1 L1
    refine ⟨?_, ?_⟩
    · intro h
      rw [e_265_0] at h
      refine K_of b_265_0 h_265_0 ?_
      refine q_iload rfl ?_
      refine q_istore (ls1 := [some (.ref 105), some (.int i1), some (.int i1), none, none]) (Nat.le_of_ble_eq_true rfl) rfl ?_
      refine q_iconst (0) (by decide) ?_
      refine q_istore (ls1 := [some (.ref 105), some (.int i1), some (.int i1), some (.int (0 : Int32)), none]) (Nat.le_of_ble_eq_true rfl) rfl ?_
      refine q_end ?_
      exact (ih dp d hdp _ _ i1 i1 (0 : Int32) _ _).2 h
    · intro h
      rw [e_265_1] at h
      refine K_of b_265_4 h_265_4 ?_
      refine q_iload rfl ?_
      refine q_aload rfl ?_
      refine q_getI (c0 := 12) (j := 43) rfl rfl (zl hS 105 (by decide)) (sk hS 105 (by decide) rfl) (Or.inl rfl) (by decide) ?_
      refine q_icmp_ge (fun c_9 => ?_) (fun c_9 => ?_)
      · rw [if_pos c_9] at h
        refine K_of b_265_48 h_265_48 ?_
        cases h
        exact q_vret rfl (Nat.le_refl _) (Nat.le_refl _) rfl
      · rw [if_neg c_9] at h
        refine q_aload rfl ?_
        refine q_getRs (c0 := 12) (j := 41) rfl rfl (zl hS 105 (by decide)) (sk hS 105 (by decide) rfl) rfl (by decide) (r_105_41 hS) ?_
        refine q_aload rfl ?_
        refine q_getRs (c0 := 12) (j := 42) rfl rfl (zl hS 105 (by decide)) (sk hS 105 (by decide) rfl) rfl (by decide) (r_105_42 hS) ?_
        refine q_iload rfl ?_
        obtain ⟨⟨u_21, v_21⟩, h⟩ := ite_some h
        refine q_ialN (Int32.toNatClampNeg i3) (nx u_21) (zl hS 128 (by decide)) (sk hS 128 (by decide) rfl) v_21 (by decide) ?_
        obtain ⟨⟨u_22, v_22⟩, h⟩ := ite_some h
        refine q_ialN (Int32.toNatClampNeg (I 128 (Int32.toNatClampNeg i3))) (nx u_22) (zl hS 127 (by decide)) (sk hS 127 (by decide) rfl) v_22 (by decide) ?_
        refine q_iconst (1) (by decide) ?_
        refine q_iadd ?_
        obtain ⟨v_25, nv_25, h⟩ := stI_some h
        refine q_eqi nv_25.symm ?_
        refine q_istore (ls1 := [some (.ref 105), some (.int i1), some (.int i2), some (.int i3), some (.int v_25)]) (Nat.le_of_ble_eq_true rfl) rfl ?_
        refine q_aload rfl ?_
        refine q_getRs (c0 := 12) (j := 50) rfl rfl (zl hS 105 (by decide)) (sk hS 105 (by decide) rfl) rfl (by decide) (r_105_50 hS) ?_
        refine q_iload rfl ?_
        refine q_iload rfl ?_
        refine q_iload rfl ?_
        obtain ⟨d_35, h⟩ := ite_some h
        refine q_irem d_35 ?_
        obtain ⟨⟨u_36, v_36⟩, h⟩ := ite_some h
        refine q_iasN (Int32.toNatClampNeg i3) (nx u_36) (zl hS 133 (by decide)) (sk hS 133 (by decide) rfl) v_36 (by decide) ?_
        obtain ⟨I_36, nI_36, h⟩ := stI_some h
        refine q_nI nI_36 ?_
        refine q_iload rfl ?_
        refine q_iload rfl ?_
        obtain ⟨d_40, h⟩ := ite_some h
        refine q_idiv d_40 ?_
        refine q_istore (ls1 := [some (.ref 105), some (.int i1), some (.int (i2 / v_25)), some (.int i3), some (.int v_25)]) (Nat.le_of_ble_eq_true rfl) rfl ?_
        refine q_iinc (ls1 := [some (.ref 105), some (.int i1), some (.int (i2 / v_25)), some (.int (i3 + Int32.ofInt (1))), some (.int v_25)]) rfl rfl ?_
        refine q_goto ?_
        refine K_mask [true, true, true, true, false] (Nat.le_of_ble_eq_true rfl) ?_
        exact (ih dp d hdp _ _ i1 (i2 / v_25) (i3 + Int32.ofInt (1)) _ _).2 h
theorem a_265 (X : GX) {z : Nat} {kd : Nat → Nat × Nat} {Rf : Nat → Nat → Option Nat} (hS : Sh z kd Rf) {n dp d : Nat} (hd : dp ≤ d) {I : (Nat → Nat → Int32)} {L : (Nat → Nat → Int64)} {i1 : Int32} {I1 : (Nat → Nat → Int32)} {L1 : (Nat → Nat → Int64)} (h : g_265 n dp (z, kd, Rf) 0 I L i1 0 0 = some (I1, L1)) : Ct X d 265 0 0 [.ref 105, .int i1] (z, kd, I, L, Rf) (AV (fun τ => τ = (z, kd, I1, L1, Rf))) :=
  Ct_of mu_265 (Nat.le_of_ble_eq_true rfl) ((w_265 X hS n dp d hd I L i1 0 0 _ _).1 h)

/-! 266 CutFloorModel.behind(II)I -/
set_option maxHeartbeats 4000000 in
set_option maxRecDepth 100000 in
def g_266 : Nat → Nat → EN → Nat → (Nat → Nat → Int32) → (Nat → Nat → Int64) → Int32 → Int32 → Int32 → Int32 → Int32 →  Option (Int32 × (Nat → Nat → Int32) × (Nat → Nat → Int64))
  | 0, _, _, _, _, _, _, _, _, _, _ => none
  | n + 1, dp, e, lab, I, L, i1, i2, i3, i4, i5 =>
    if lab = 0 then (stI (((640 : Int32) * i1) + ((10 : Int32) * i2)) (fun v_10 => (stI ((I 105 43) - (1 : Int32)) (fun v_20 => (g_266 n dp e 1 I L i1 i2 v_10 (0 : Int32) v_20)))))
    else if lab = 1 then (if i5 < 0 then (some (i4, I, L)) else (if 0 ≤ i5 ∧ (Int32.toNatClampNeg i5) < 5 then (if 0 ≤ (I 128 (Int32.toNatClampNeg i5)) ∧ (Int32.toNatClampNeg (I 128 (Int32.toNatClampNeg i5))) < 10 then (stI (I 127 (Int32.toNatClampNeg (I 128 (Int32.toNatClampNeg i5)))) (fun v_39 => (if 0 ≤ i5 ∧ (Int32.toNatClampNeg i5) < 5 then (if 0 ≤ i5 ∧ (Int32.toNatClampNeg i5) < 5 then (if 0 ≤ (i3 + (I 128 (Int32.toNatClampNeg i5))) ∧ (Int32.toNatClampNeg (i3 + (I 128 (Int32.toNatClampNeg i5)))) < 1920 then (stI ((I 133 (Int32.toNatClampNeg i5)) + (I 122 (Int32.toNatClampNeg (i3 + (I 128 (Int32.toNatClampNeg i5)))))) (fun v_63 => (if v_63 ≤ v_39 then (stI ((i4 * (v_39 + (1 : Int32))) + v_63) (fun v_87 => (g_266 n dp e 1 I L i1 i2 i3 v_87 (i5 + Int32.ofInt (-1))))) else (stI ((i4 * (v_39 + (1 : Int32))) + v_39) (fun v_87 => (g_266 n dp e 1 I L i1 i2 i3 v_87 (i5 + Int32.ofInt (-1)))))))) else none) else none) else none))) else none) else none))
    else none
set_option maxRecDepth 100000 in
theorem e_266_0 (n dp : Nat) (e : EN) (I : (Nat → Nat → Int32)) (L : (Nat → Nat → Int64)) (i1 : Int32) (i2 : Int32) (i3 : Int32) (i4 : Int32) (i5 : Int32) : g_266 (n + 1) dp e 0 I L i1 i2 i3 i4 i5 = (stI (((640 : Int32) * i1) + ((10 : Int32) * i2)) (fun v_10 => (stI ((I 105 43) - (1 : Int32)) (fun v_20 => (g_266 n dp e 1 I L i1 i2 v_10 (0 : Int32) v_20))))) := by rw [g_266.eq_2, if_pos (show (0 : Nat) = 0 from rfl)]
set_option maxRecDepth 100000 in
theorem e_266_1 (n dp : Nat) (e : EN) (I : (Nat → Nat → Int32)) (L : (Nat → Nat → Int64)) (i1 : Int32) (i2 : Int32) (i3 : Int32) (i4 : Int32) (i5 : Int32) : g_266 (n + 1) dp e 1 I L i1 i2 i3 i4 i5 = (if i5 < 0 then (some (i4, I, L)) else (if 0 ≤ i5 ∧ (Int32.toNatClampNeg i5) < 5 then (if 0 ≤ (I 128 (Int32.toNatClampNeg i5)) ∧ (Int32.toNatClampNeg (I 128 (Int32.toNatClampNeg i5))) < 10 then (stI (I 127 (Int32.toNatClampNeg (I 128 (Int32.toNatClampNeg i5)))) (fun v_39 => (if 0 ≤ i5 ∧ (Int32.toNatClampNeg i5) < 5 then (if 0 ≤ i5 ∧ (Int32.toNatClampNeg i5) < 5 then (if 0 ≤ (i3 + (I 128 (Int32.toNatClampNeg i5))) ∧ (Int32.toNatClampNeg (i3 + (I 128 (Int32.toNatClampNeg i5)))) < 1920 then (stI ((I 133 (Int32.toNatClampNeg i5)) + (I 122 (Int32.toNatClampNeg (i3 + (I 128 (Int32.toNatClampNeg i5)))))) (fun v_63 => (if v_63 ≤ v_39 then (stI ((i4 * (v_39 + (1 : Int32))) + v_63) (fun v_87 => (g_266 n dp e 1 I L i1 i2 i3 v_87 (i5 + Int32.ofInt (-1))))) else (stI ((i4 * (v_39 + (1 : Int32))) + v_39) (fun v_87 => (g_266 n dp e 1 I L i1 i2 i3 v_87 (i5 + Int32.ofInt (-1)))))))) else none) else none) else none))) else none) else none)) := by rw [g_266.eq_2, if_neg (show ¬ ((1 : Nat) = 0) by decide), if_pos (show (1 : Nat) = 1 from rfl)]
set_option maxHeartbeats 8000000 in
set_option maxRecDepth 100000 in
theorem w_266 (X : GX) {z : Nat} {kd : Nat → Nat × Nat} {Rf : Nat → Nat → Option Nat} (hS : Sh z kd Rf) : ∀ (n dp d : Nat), dp ≤ d → ∀ (I : (Nat → Nat → Int32)) (L : (Nat → Nat → Int64)) (i1 : Int32) (i2 : Int32) (i3 : Int32) (i4 : Int32) (i5 : Int32) (r : Int32) (I1 : (Nat → Nat → Int32)) (L1 : (Nat → Nat → Int64)), (g_266 n dp (z, kd, Rf) 0 I L i1 i2 i3 i4 i5 = some (r, I1, L1) → K X d 266 0 0 (AI (fun x τ => x = r ∧ τ = (z, kd, I1, L1, Rf))) 0 [some (.ref 105), some (.int i1), some (.int i2), none, none, none, none, none] [] (z, kd, I, L, Rf) 0 0) ∧
    (g_266 n dp (z, kd, Rf) 1 I L i1 i2 i3 i4 i5 = some (r, I1, L1) → K X d 266 0 0 (AI (fun x τ => x = r ∧ τ = (z, kd, I1, L1, Rf))) 22 [some (.ref 105), some (.int i1), some (.int i2), some (.int i3), some (.int i4), some (.int i5), none, none] [] (z, kd, I, L, Rf) 0 0) := by
  intro n
  induction n with
  | zero => intro dp d hdp I L i1 i2 i3 i4 i5 r I1 L1; exact ⟨(fun h => by cases h), (fun h => by cases h)⟩
  | succ n ih =>
    intro dp d hdp I L i1 i2 i3 i4 i5 r I1 L1
    refine ⟨?_, ?_⟩
    · intro h
      rw [e_266_0] at h
      refine K_of b_266_0 h_266_0 ?_
      refine q_iconst (640) (by decide) ?_
      refine q_iload rfl ?_
      refine q_imul ?_
      refine q_iconst (10) (by decide) ?_
      refine q_iload rfl ?_
      refine q_imul ?_
      refine q_iadd ?_
      obtain ⟨v_10, nv_10, h⟩ := stI_some h
      refine q_eqi nv_10.symm ?_
      refine q_istore (ls1 := [some (.ref 105), some (.int i1), some (.int i2), some (.int v_10), none, none, none, none]) (Nat.le_of_ble_eq_true rfl) rfl ?_
      refine q_iconst (0) (by decide) ?_
      refine q_istore (ls1 := [some (.ref 105), some (.int i1), some (.int i2), some (.int v_10), some (.int (0 : Int32)), none, none, none]) (Nat.le_of_ble_eq_true rfl) rfl ?_
      refine q_aload rfl ?_
      refine q_getI (c0 := 12) (j := 43) rfl rfl (zl hS 105 (by decide)) (sk hS 105 (by decide) rfl) (Or.inl rfl) (by decide) ?_
      refine q_iconst (1) (by decide) ?_
      refine q_isub ?_
      obtain ⟨v_20, nv_20, h⟩ := stI_some h
      refine q_eqi nv_20.symm ?_
      refine q_istore (ls1 := [some (.ref 105), some (.int i1), some (.int i2), some (.int v_10), some (.int (0 : Int32)), some (.int v_20), none, none]) (Nat.le_of_ble_eq_true rfl) rfl ?_
      refine q_end ?_
      exact (ih dp d hdp _ _ i1 i2 v_10 (0 : Int32) v_20 _ _ _).2 h
    · intro h
      rw [e_266_1] at h
      refine K_of b_266_22 h_266_22 ?_
      refine q_iload rfl ?_
      refine q_if_lt (fun c_24 => ?_) (fun c_24 => ?_)
      · rw [if_pos c_24] at h
        refine K_of b_266_95 h_266_95 ?_
        refine q_iload rfl ?_
        cases h
        exact q_iret rfl (Nat.le_refl _) (Nat.le_refl _) ⟨rfl, rfl⟩
      · rw [if_neg c_24] at h
        refine q_aload rfl ?_
        refine q_getRs (c0 := 12) (j := 41) rfl rfl (zl hS 105 (by decide)) (sk hS 105 (by decide) rfl) rfl (by decide) (r_105_41 hS) ?_
        refine q_aload rfl ?_
        refine q_getRs (c0 := 12) (j := 42) rfl rfl (zl hS 105 (by decide)) (sk hS 105 (by decide) rfl) rfl (by decide) (r_105_42 hS) ?_
        refine q_iload rfl ?_
        obtain ⟨⟨u_37, v_37⟩, h⟩ := ite_some h
        refine q_ialN (Int32.toNatClampNeg i5) (nx u_37) (zl hS 128 (by decide)) (sk hS 128 (by decide) rfl) v_37 (by decide) ?_
        obtain ⟨⟨u_38, v_38⟩, h⟩ := ite_some h
        refine q_ialN (Int32.toNatClampNeg (I 128 (Int32.toNatClampNeg i5))) (nx u_38) (zl hS 127 (by decide)) (sk hS 127 (by decide) rfl) v_38 (by decide) ?_
        obtain ⟨v_39, nv_39, h⟩ := stI_some h
        refine q_eqi nv_39.symm ?_
        refine q_istore (ls1 := [some (.ref 105), some (.int i1), some (.int i2), some (.int i3), some (.int i4), some (.int i5), some (.int v_39), none]) (Nat.le_of_ble_eq_true rfl) rfl ?_
        refine q_aload rfl ?_
        refine q_getRs (c0 := 12) (j := 50) rfl rfl (zl hS 105 (by decide)) (sk hS 105 (by decide) rfl) rfl (by decide) (r_105_50 hS) ?_
        refine q_iload rfl ?_
        obtain ⟨⟨u_47, v_47⟩, h⟩ := ite_some h
        refine q_ialN (Int32.toNatClampNeg i5) (nx u_47) (zl hS 133 (by decide)) (sk hS 133 (by decide) rfl) v_47 (by decide) ?_
        refine q_aload rfl ?_
        refine q_getRs (c0 := 12) (j := 35) rfl rfl (zl hS 105 (by decide)) (sk hS 105 (by decide) rfl) rfl (by decide) (r_105_35 hS) ?_
        refine q_iload rfl ?_
        refine q_aload rfl ?_
        refine q_getRs (c0 := 12) (j := 42) rfl rfl (zl hS 105 (by decide)) (sk hS 105 (by decide) rfl) rfl (by decide) (r_105_42 hS) ?_
        refine q_iload rfl ?_
        obtain ⟨⟨u_59, v_59⟩, h⟩ := ite_some h
        refine q_ialN (Int32.toNatClampNeg i5) (nx u_59) (zl hS 128 (by decide)) (sk hS 128 (by decide) rfl) v_59 (by decide) ?_
        refine q_iadd ?_
        obtain ⟨⟨u_61, v_61⟩, h⟩ := ite_some h
        refine q_ialN (Int32.toNatClampNeg (i3 + (I 128 (Int32.toNatClampNeg i5)))) (nx u_61) (zl hS 122 (by decide)) (sk hS 122 (by decide) rfl) v_61 (by decide) ?_
        refine q_iadd ?_
        obtain ⟨v_63, nv_63, h⟩ := stI_some h
        refine q_eqi nv_63.symm ?_
        refine q_istore (ls1 := [some (.ref 105), some (.int i1), some (.int i2), some (.int i3), some (.int i4), some (.int i5), some (.int v_39), some (.int v_63)]) (Nat.le_of_ble_eq_true rfl) rfl ?_
        refine q_iload rfl ?_
        refine q_iload rfl ?_
        refine q_iconst (1) (by decide) ?_
        refine q_iadd ?_
        refine q_imul ?_
        refine q_iload rfl ?_
        refine q_iload rfl ?_
        refine q_icmp_le (fun c_76 => ?_) (fun c_76 => ?_)
        · rw [if_pos c_76] at h
          refine K_of b_266_84 h_266_84 ?_
          refine q_iload rfl ?_
          refine q_end ?_
          refine K_of b_266_86 h_266_86 ?_
          refine q_iadd ?_
          obtain ⟨v_87, nv_87, h⟩ := stI_some h
          refine q_eqi nv_87.symm ?_
          refine q_istore (ls1 := [some (.ref 105), some (.int i1), some (.int i2), some (.int i3), some (.int v_87), some (.int i5), some (.int v_39), some (.int v_63)]) (Nat.le_of_ble_eq_true rfl) rfl ?_
          refine q_iinc (ls1 := [some (.ref 105), some (.int i1), some (.int i2), some (.int i3), some (.int v_87), some (.int (i5 + Int32.ofInt (-1))), some (.int v_39), some (.int v_63)]) rfl rfl ?_
          refine q_goto ?_
          refine K_mask [true, true, true, true, true, true, false, false] (Nat.le_of_ble_eq_true rfl) ?_
          exact (ih dp d hdp _ _ i1 i2 i3 v_87 (i5 + Int32.ofInt (-1)) _ _ _).2 h
        · rw [if_neg c_76] at h
          refine q_iload rfl ?_
          refine q_goto ?_
          refine K_of b_266_86 h_266_86 ?_
          refine q_iadd ?_
          obtain ⟨v_87, nv_87, h⟩ := stI_some h
          refine q_eqi nv_87.symm ?_
          refine q_istore (ls1 := [some (.ref 105), some (.int i1), some (.int i2), some (.int i3), some (.int v_87), some (.int i5), some (.int v_39), some (.int v_63)]) (Nat.le_of_ble_eq_true rfl) rfl ?_
          refine q_iinc (ls1 := [some (.ref 105), some (.int i1), some (.int i2), some (.int i3), some (.int v_87), some (.int (i5 + Int32.ofInt (-1))), some (.int v_39), some (.int v_63)]) rfl rfl ?_
          refine q_goto ?_
          refine K_mask [true, true, true, true, true, true, false, false] (Nat.le_of_ble_eq_true rfl) ?_
          exact (ih dp d hdp _ _ i1 i2 i3 v_87 (i5 + Int32.ofInt (-1)) _ _ _).2 h
theorem a_266 (X : GX) {z : Nat} {kd : Nat → Nat × Nat} {Rf : Nat → Nat → Option Nat} (hS : Sh z kd Rf) {n dp d : Nat} (hd : dp ≤ d) {I : (Nat → Nat → Int32)} {L : (Nat → Nat → Int64)} {i1 : Int32} {i2 : Int32} {I1 : (Nat → Nat → Int32)} {L1 : (Nat → Nat → Int64)} {r : Int32} (h : g_266 n dp (z, kd, Rf) 0 I L i1 i2 0 0 0 = some (r, I1, L1)) : Ct X d 266 0 0 [.ref 105, .int i1, .int i2] (z, kd, I, L, Rf) (AI (fun x τ => x = r ∧ τ = (z, kd, I1, L1, Rf))) :=
  Ct_of mu_266 (Nat.le_of_ble_eq_true rfl) ((w_266 X hS n dp d hd I L i1 i2 0 0 0 _ _ _).1 h)

/-! 269 CutFloorModel.over(II)I -/
set_option maxHeartbeats 4000000 in
set_option maxRecDepth 100000 in
def g_269 : Nat → Nat → EN → Nat → (Nat → Nat → Int32) → (Nat → Nat → Int64) → Int32 → Int32 → Int32 → Int32 →  Option (Int32 × (Nat → Nat → Int32) × (Nat → Nat → Int64))
  | 0, _, _, _, _, _, _, _, _, _ => none
  | n + 1, dp, e, lab, I, L, i1, i2, i3, i4 =>
    if lab = 0 then (g_269 n dp e 1 I L i1 i2 (0 : Int32) (0 : Int32))
    else if lab = 1 then (if (10 : Int32) ≤ i4 then (some (i3, I, L)) else (if 0 ≤ ((50 : Int32) + i4) ∧ (Int32.toNatClampNeg ((50 : Int32) + i4)) < 1570 then (if 0 ≤ ((((640 : Int32) * i1) + ((10 : Int32) * i2)) + i4) ∧ (Int32.toNatClampNeg ((((640 : Int32) * i1) + ((10 : Int32) * i2)) + i4)) < 1920 then (stI (i3 + ((I 107 (Int32.toNatClampNeg ((50 : Int32) + i4))) * (I 122 (Int32.toNatClampNeg ((((640 : Int32) * i1) + ((10 : Int32) * i2)) + i4))))) (fun v_43 => (g_269 n dp e 1 I L i1 i2 v_43 (i4 + Int32.ofInt (1))))) else none) else none))
    else none
set_option maxRecDepth 100000 in
theorem e_269_0 (n dp : Nat) (e : EN) (I : (Nat → Nat → Int32)) (L : (Nat → Nat → Int64)) (i1 : Int32) (i2 : Int32) (i3 : Int32) (i4 : Int32) : g_269 (n + 1) dp e 0 I L i1 i2 i3 i4 = (g_269 n dp e 1 I L i1 i2 (0 : Int32) (0 : Int32)) := by rw [g_269.eq_2, if_pos (show (0 : Nat) = 0 from rfl)]
set_option maxRecDepth 100000 in
theorem e_269_1 (n dp : Nat) (e : EN) (I : (Nat → Nat → Int32)) (L : (Nat → Nat → Int64)) (i1 : Int32) (i2 : Int32) (i3 : Int32) (i4 : Int32) : g_269 (n + 1) dp e 1 I L i1 i2 i3 i4 = (if (10 : Int32) ≤ i4 then (some (i3, I, L)) else (if 0 ≤ ((50 : Int32) + i4) ∧ (Int32.toNatClampNeg ((50 : Int32) + i4)) < 1570 then (if 0 ≤ ((((640 : Int32) * i1) + ((10 : Int32) * i2)) + i4) ∧ (Int32.toNatClampNeg ((((640 : Int32) * i1) + ((10 : Int32) * i2)) + i4)) < 1920 then (stI (i3 + ((I 107 (Int32.toNatClampNeg ((50 : Int32) + i4))) * (I 122 (Int32.toNatClampNeg ((((640 : Int32) * i1) + ((10 : Int32) * i2)) + i4))))) (fun v_43 => (g_269 n dp e 1 I L i1 i2 v_43 (i4 + Int32.ofInt (1))))) else none) else none)) := by rw [g_269.eq_2, if_neg (show ¬ ((1 : Nat) = 0) by decide), if_pos (show (1 : Nat) = 1 from rfl)]
set_option maxHeartbeats 8000000 in
set_option maxRecDepth 100000 in
theorem w_269 (X : GX) {z : Nat} {kd : Nat → Nat × Nat} {Rf : Nat → Nat → Option Nat} (hS : Sh z kd Rf) : ∀ (n dp d : Nat), dp ≤ d → ∀ (I : (Nat → Nat → Int32)) (L : (Nat → Nat → Int64)) (i1 : Int32) (i2 : Int32) (i3 : Int32) (i4 : Int32) (r : Int32) (I1 : (Nat → Nat → Int32)) (L1 : (Nat → Nat → Int64)), (g_269 n dp (z, kd, Rf) 0 I L i1 i2 i3 i4 = some (r, I1, L1) → K X d 269 0 0 (AI (fun x τ => x = r ∧ τ = (z, kd, I1, L1, Rf))) 0 [some (.ref 105), some (.int i1), some (.int i2), none, none] [] (z, kd, I, L, Rf) 0 0) ∧
    (g_269 n dp (z, kd, Rf) 1 I L i1 i2 i3 i4 = some (r, I1, L1) → K X d 269 0 0 (AI (fun x τ => x = r ∧ τ = (z, kd, I1, L1, Rf))) 5 [some (.ref 105), some (.int i1), some (.int i2), some (.int i3), some (.int i4)] [] (z, kd, I, L, Rf) 0 0) := by
  intro n
  induction n with
  | zero => intro dp d hdp I L i1 i2 i3 i4 r I1 L1; exact ⟨(fun h => by cases h), (fun h => by cases h)⟩
  | succ n ih =>
    intro dp d hdp I L i1 i2 i3 i4 r I1 L1
    refine ⟨?_, ?_⟩
    · intro h
      rw [e_269_0] at h
      refine K_of b_269_0 h_269_0 ?_
      refine q_iconst (0) (by decide) ?_
      refine q_istore (ls1 := [some (.ref 105), some (.int i1), some (.int i2), some (.int (0 : Int32)), none]) (Nat.le_of_ble_eq_true rfl) rfl ?_
      refine q_iconst (0) (by decide) ?_
      refine q_istore (ls1 := [some (.ref 105), some (.int i1), some (.int i2), some (.int (0 : Int32)), some (.int (0 : Int32))]) (Nat.le_of_ble_eq_true rfl) rfl ?_
      refine q_end ?_
      exact (ih dp d hdp _ _ i1 i2 (0 : Int32) (0 : Int32) _ _ _).2 h
    · intro h
      rw [e_269_1] at h
      refine K_of b_269_5 h_269_5 ?_
      refine q_iload rfl ?_
      refine q_iconst (10) (by decide) ?_
      refine q_icmp_ge (fun c_9 => ?_) (fun c_9 => ?_)
      · rw [if_pos c_9] at h
        refine K_of b_269_50 h_269_50 ?_
        refine q_iload rfl ?_
        cases h
        exact q_iret rfl (Nat.le_refl _) (Nat.le_refl _) ⟨rfl, rfl⟩
      · rw [if_neg c_9] at h
        refine q_iload rfl ?_
        refine q_aload rfl ?_
        refine q_getRs (c0 := 12) (j := 3) rfl rfl (zl hS 105 (by decide)) (sk hS 105 (by decide) rfl) rfl (by decide) (r_105_3 hS) ?_
        refine q_iconst (50) (by decide) ?_
        refine q_iload rfl ?_
        refine q_iadd ?_
        obtain ⟨⟨u_22, v_22⟩, h⟩ := ite_some h
        refine q_ialN (Int32.toNatClampNeg ((50 : Int32) + i4)) (nx u_22) (zl hS 107 (by decide)) (sk hS 107 (by decide) rfl) v_22 (by decide) ?_
        refine q_aload rfl ?_
        refine q_getRs (c0 := 12) (j := 35) rfl rfl (zl hS 105 (by decide)) (sk hS 105 (by decide) rfl) rfl (by decide) (r_105_35 hS) ?_
        refine q_iconst (640) (by decide) ?_
        refine q_iload rfl ?_
        refine q_imul ?_
        refine q_iconst (10) (by decide) ?_
        refine q_iload rfl ?_
        refine q_imul ?_
        refine q_iadd ?_
        refine q_iload rfl ?_
        refine q_iadd ?_
        obtain ⟨⟨u_40, v_40⟩, h⟩ := ite_some h
        refine q_ialN (Int32.toNatClampNeg ((((640 : Int32) * i1) + ((10 : Int32) * i2)) + i4)) (nx u_40) (zl hS 122 (by decide)) (sk hS 122 (by decide) rfl) v_40 (by decide) ?_
        refine q_imul ?_
        refine q_iadd ?_
        obtain ⟨v_43, nv_43, h⟩ := stI_some h
        refine q_eqi nv_43.symm ?_
        refine q_istore (ls1 := [some (.ref 105), some (.int i1), some (.int i2), some (.int v_43), some (.int i4)]) (Nat.le_of_ble_eq_true rfl) rfl ?_
        refine q_iinc (ls1 := [some (.ref 105), some (.int i1), some (.int i2), some (.int v_43), some (.int (i4 + Int32.ofInt (1)))]) rfl rfl ?_
        refine q_goto ?_
        exact (ih dp d hdp _ _ i1 i2 v_43 (i4 + Int32.ofInt (1)) _ _ _).2 h
theorem a_269 (X : GX) {z : Nat} {kd : Nat → Nat × Nat} {Rf : Nat → Nat → Option Nat} (hS : Sh z kd Rf) {n dp d : Nat} (hd : dp ≤ d) {I : (Nat → Nat → Int32)} {L : (Nat → Nat → Int64)} {i1 : Int32} {i2 : Int32} {I1 : (Nat → Nat → Int32)} {L1 : (Nat → Nat → Int64)} {r : Int32} (h : g_269 n dp (z, kd, Rf) 0 I L i1 i2 0 0 = some (r, I1, L1)) : Ct X d 269 0 0 [.ref 105, .int i1, .int i2] (z, kd, I, L, Rf) (AI (fun x τ => x = r ∧ τ = (z, kd, I1, L1, Rf))) :=
  Ct_of mu_269 (Nat.le_of_ble_eq_true rfl) ((w_269 X hS n dp d hd I L i1 i2 0 0 _ _ _).1 h)

/-! 268 CutFloorModel.gain(II)I -/
set_option maxHeartbeats 4000000 in
set_option maxRecDepth 100000 in
def g_268 : Nat → Nat → EN → Nat → (Nat → Nat → Int32) → (Nat → Nat → Int64) → Int32 → Int32 →  Option (Int32 × (Nat → Nat → Int32) × (Nat → Nat → Int64))
  | 0, _, _, _, _, _, _, _ => none
  | n + 1, dp, e, lab, I, L, i1, i2 =>
    if lab = 0 then (if 0 ≤ i1 ∧ (Int32.toNatClampNeg i1) < 8 then (if 1 ≤ dp then (g_269 n (dp - 1) e 0 I L (I 126 (Int32.toNatClampNeg i1)) i2 0 0).bind (fun ⟨x0_12, I0_12, L0_12⟩ => (if (I0_12 105 48) ≤ (1 : Int32) then (some ((((I 105 48) * x0_12) - (0 : Int32)), I0_12, L0_12)) else (if 0 ≤ i1 ∧ (Int32.toNatClampNeg i1) < 8 then (if i2 = (I0_12 132 (Int32.toNatClampNeg i1)) then (some ((((I 105 48) * x0_12) - (0 : Int32)), I0_12, L0_12)) else (some ((((I 105 48) * x0_12) - (1 : Int32)), I0_12, L0_12))) else none))) else none) else none)
    else none
set_option maxRecDepth 100000 in
theorem e_268_0 (n dp : Nat) (e : EN) (I : (Nat → Nat → Int32)) (L : (Nat → Nat → Int64)) (i1 : Int32) (i2 : Int32) : g_268 (n + 1) dp e 0 I L i1 i2 = (if 0 ≤ i1 ∧ (Int32.toNatClampNeg i1) < 8 then (if 1 ≤ dp then (g_269 n (dp - 1) e 0 I L (I 126 (Int32.toNatClampNeg i1)) i2 0 0).bind (fun ⟨x0_12, I0_12, L0_12⟩ => (if (I0_12 105 48) ≤ (1 : Int32) then (some ((((I 105 48) * x0_12) - (0 : Int32)), I0_12, L0_12)) else (if 0 ≤ i1 ∧ (Int32.toNatClampNeg i1) < 8 then (if i2 = (I0_12 132 (Int32.toNatClampNeg i1)) then (some ((((I 105 48) * x0_12) - (0 : Int32)), I0_12, L0_12)) else (some ((((I 105 48) * x0_12) - (1 : Int32)), I0_12, L0_12))) else none))) else none) else none) := by rw [g_268.eq_2, if_pos (show (0 : Nat) = 0 from rfl)]
set_option maxHeartbeats 8000000 in
set_option maxRecDepth 100000 in
theorem w_268 (X : GX) {z : Nat} {kd : Nat → Nat × Nat} {Rf : Nat → Nat → Option Nat} (hS : Sh z kd Rf) : ∀ (n dp d : Nat), dp ≤ d → ∀ (I : (Nat → Nat → Int32)) (L : (Nat → Nat → Int64)) (i1 : Int32) (i2 : Int32) (r : Int32) (I1 : (Nat → Nat → Int32)) (L1 : (Nat → Nat → Int64)), (g_268 n dp (z, kd, Rf) 0 I L i1 i2 = some (r, I1, L1) → K X d 268 0 0 (AI (fun x τ => x = r ∧ τ = (z, kd, I1, L1, Rf))) 0 [some (.ref 105), some (.int i1), some (.int i2)] [] (z, kd, I, L, Rf) 0 0) := by
  intro n
  induction n with
  | zero => intro dp d hdp I L i1 i2 r I1 L1; exact fun h => by cases h
  | succ n ih =>
    intro dp d hdp I L i1 i2 r I1 L1
    · intro h
      rw [e_268_0] at h
      refine K_of b_268_0 h_268_0 ?_
      refine q_aload rfl ?_
      refine q_getI (c0 := 12) (j := 48) rfl rfl (zl hS 105 (by decide)) (sk hS 105 (by decide) rfl) (Or.inl rfl) (by decide) ?_
      refine q_aload rfl ?_
      refine q_aload rfl ?_
      refine q_getRs (c0 := 12) (j := 39) rfl rfl (zl hS 105 (by decide)) (sk hS 105 (by decide) rfl) rfl (by decide) (r_105_39 hS) ?_
      refine q_iload rfl ?_
      obtain ⟨⟨u_10, v_10⟩, h⟩ := ite_some h
      refine q_ialN (Int32.toNatClampNeg i1) (nx u_10) (zl hS 126 (by decide)) (sk hS 126 (by decide) rfl) v_10 (by decide) ?_
      refine q_iload rfl ?_
      obtain ⟨d_12, h⟩ := ite_some h
      obtain ⟨⟨x0_12, I0_12, L0_12⟩, e_12, h⟩ := Option.bind_eq_some_iff.mp h
      dsimp only at h
      refine q_fv3I (a_269 X hS (d := d - 1) (by omega) e_12) (by omega) (Nat.le_refl _) (Nat.le_refl _) rfl (Nat.le_of_ble_eq_true rfl) ⟨(zl hS 105 (by decide)), congrArg Prod.fst (sk hS 105 (by decide) rfl), by decide⟩ ?_
      refine q_imul ?_
      refine q_aload rfl ?_
      refine q_getI (c0 := 12) (j := 48) rfl rfl (zl hS 105 (by decide)) (sk hS 105 (by decide) rfl) (Or.inl rfl) (by decide) ?_
      refine q_iconst (1) (by decide) ?_
      refine q_icmp_le (fun c_21 => ?_) (fun c_21 => ?_)
      · rw [if_pos c_21] at h
        refine K_of b_268_38 h_268_38 ?_
        refine q_iconst (0) (by decide) ?_
        refine q_end ?_
        refine K_of b_268_39 h_268_39 ?_
        refine q_isub ?_
        cases h
        exact q_iret rfl (Nat.le_refl _) (Nat.le_refl _) ⟨rfl, rfl⟩
      · rw [if_neg c_21] at h
        refine q_iload rfl ?_
        refine q_aload rfl ?_
        refine q_getRs (c0 := 12) (j := 49) rfl rfl (zl hS 105 (by decide)) (sk hS 105 (by decide) rfl) rfl (by decide) (r_105_49 hS) ?_
        refine q_iload rfl ?_
        obtain ⟨⟨u_30, v_30⟩, h⟩ := ite_some h
        refine q_ialN (Int32.toNatClampNeg i1) (nx u_30) (zl hS 132 (by decide)) (sk hS 132 (by decide) rfl) v_30 (by decide) ?_
        refine q_icmp_eq (fun c_31 => ?_) (fun c_31 => ?_)
        · rw [if_pos c_31] at h
          refine K_of b_268_38 h_268_38 ?_
          refine q_iconst (0) (by decide) ?_
          refine q_end ?_
          refine K_of b_268_39 h_268_39 ?_
          refine q_isub ?_
          cases h
          exact q_iret rfl (Nat.le_refl _) (Nat.le_refl _) ⟨rfl, rfl⟩
        · rw [if_neg c_31] at h
          refine q_iconst (1) (by decide) ?_
          refine q_goto ?_
          refine K_of b_268_39 h_268_39 ?_
          refine q_isub ?_
          cases h
          exact q_iret rfl (Nat.le_refl _) (Nat.le_refl _) ⟨rfl, rfl⟩
theorem a_268 (X : GX) {z : Nat} {kd : Nat → Nat × Nat} {Rf : Nat → Nat → Option Nat} (hS : Sh z kd Rf) {n dp d : Nat} (hd : dp ≤ d) {I : (Nat → Nat → Int32)} {L : (Nat → Nat → Int64)} {i1 : Int32} {i2 : Int32} {I1 : (Nat → Nat → Int32)} {L1 : (Nat → Nat → Int64)} {r : Int32} (h : g_268 n dp (z, kd, Rf) 0 I L i1 i2 = some (r, I1, L1)) : Ct X d 268 0 0 [.ref 105, .int i1, .int i2] (z, kd, I, L, Rf) (AI (fun x τ => x = r ∧ τ = (z, kd, I1, L1, Rf))) :=
  Ct_of mu_268 (Nat.le_of_ble_eq_true rfl) ((w_268 X hS n dp d hd I L i1 i2 _ _ _) h)

/-! 267 CutFloorModel.reckonState(II)V -/
set_option maxHeartbeats 4000000 in
set_option maxRecDepth 100000 in
def g_267 : Nat → Nat → EN → Nat → (Nat → Nat → Int32) → (Nat → Nat → Int64) → Int32 → Int32 → Int32 → Int32 → Int32 → Int32 → Int64 →  Option ((Nat → Nat → Int32) × (Nat → Nat → Int64))
  | 0, _, _, _, _, _, _, _, _, _, _, _, _ => none
  | n + 1, dp, e, lab, I, L, i1, i2, i3, i6, i7, i8, j4 =>
    if lab = 0 then (if 1 ≤ dp then (g_265 n (dp - 1) e 0 I L i2 0 0).bind (fun ⟨I0_2, L0_2⟩ => (g_267 n dp e 1 I0_2 L0_2 i1 i2 (0 : Int32) (0 : Int32) 0 0 (0 : Int64))) else none)
    else if lab = 1 then (if 0 ≤ i1 ∧ (Int32.toNatClampNeg i1) < 8 then (if 0 ≤ (I 126 (Int32.toNatClampNeg i1)) ∧ (Int32.toNatClampNeg (I 126 (Int32.toNatClampNeg i1))) < 3 then (if (I 120 (Int32.toNatClampNeg (I 126 (Int32.toNatClampNeg i1)))) ≤ i6 then (if 0 ≤ (((59049 : Int32) * i1) + i2) ∧ (Int32.toNatClampNeg (((59049 : Int32) * i1) + i2)) < 531441 then (stI (u2 I 129 (Int32.toNatClampNeg (((59049 : Int32) * i1) + i2)) i3) (fun I_126 => (if (lg_cmp j4 (1000000000 : Int64)) ≤ 0 then (if 0 ≤ (((59049 : Int32) * i1) + i2) ∧ (Int32.toNatClampNeg (((59049 : Int32) * i1) + i2)) < 531441 then (stI (u2 I_126 130 (Int32.toNatClampNeg (((59049 : Int32) * i1) + i2)) (Int64.toInt32 j4)) (fun I_156 => (some (I_156, L)))) else none) else (if 0 ≤ (((59049 : Int32) * i1) + i2) ∧ (Int32.toNatClampNeg (((59049 : Int32) * i1) + i2)) < 531441 then (stI (u2 I_126 130 (Int32.toNatClampNeg (((59049 : Int32) * i1) + i2)) (1000000000 : Int32)) (fun I_156 => (some (I_156, L)))) else none)))) else none) else (if 0 ≤ i1 ∧ (Int32.toNatClampNeg i1) < 8 then (if 1 ≤ dp then (g_266 n (dp - 1) e 0 I L (I 126 (Int32.toNatClampNeg i1)) i6 0 0 0).bind (fun ⟨x0_45, I0_45, L0_45⟩ => (stI (((59049 : Int32) * (i1 + (1 : Int32))) + x0_45) (fun v_49 => (if 1 ≤ dp then (g_268 n (dp - 1) e 0 I0_45 L0_45 i1 i6).bind (fun ⟨x1_55, I1_55, L1_55⟩ => (if 0 ≤ v_49 ∧ (Int32.toNatClampNeg v_49) < 531441 then (stI (x1_55 + (I1_55 129 (Int32.toNatClampNeg v_49))) (fun v_66 => (if i6 = 0 then (g_267 n dp e 2 I1_55 L1_55 i1 i2 i3 i6 v_49 v_66 j4) else (if v_66 ≤ i3 then (g_267 n dp e 3 I1_55 L1_55 i1 i2 i3 i6 v_49 v_66 j4) else (g_267 n dp e 2 I1_55 L1_55 i1 i2 i3 i6 v_49 v_66 j4))))) else none)) else none)))) else none) else none)) else none) else none)
    else if lab = 2 then (g_267 n dp e 3 I L i1 i2 i8 i6 i7 i8 (0 : Int64))
    else if lab = 3 then (if i8 = i3 then (if 0 ≤ i7 ∧ (Int32.toNatClampNeg i7) < 531441 then (stI (j4 + (Int32.toInt64 (I 130 (Int32.toNatClampNeg i7)))) (fun v_106 => (g_267 n dp e 1 I L i1 i2 i3 (i6 + Int32.ofInt (1)) 0 0 v_106))) else none) else (g_267 n dp e 1 I L i1 i2 i3 (i6 + Int32.ofInt (1)) 0 0 (j4 + (0 : Int64))))
    else none
set_option maxRecDepth 100000 in
theorem e_267_0 (n dp : Nat) (e : EN) (I : (Nat → Nat → Int32)) (L : (Nat → Nat → Int64)) (i1 : Int32) (i2 : Int32) (i3 : Int32) (i6 : Int32) (i7 : Int32) (i8 : Int32) (j4 : Int64) : g_267 (n + 1) dp e 0 I L i1 i2 i3 i6 i7 i8 j4 = (if 1 ≤ dp then (g_265 n (dp - 1) e 0 I L i2 0 0).bind (fun ⟨I0_2, L0_2⟩ => (g_267 n dp e 1 I0_2 L0_2 i1 i2 (0 : Int32) (0 : Int32) 0 0 (0 : Int64))) else none) := by rw [g_267.eq_2, if_pos (show (0 : Nat) = 0 from rfl)]
set_option maxRecDepth 100000 in
theorem e_267_1 (n dp : Nat) (e : EN) (I : (Nat → Nat → Int32)) (L : (Nat → Nat → Int64)) (i1 : Int32) (i2 : Int32) (i3 : Int32) (i6 : Int32) (i7 : Int32) (i8 : Int32) (j4 : Int64) : g_267 (n + 1) dp e 1 I L i1 i2 i3 i6 i7 i8 j4 = (if 0 ≤ i1 ∧ (Int32.toNatClampNeg i1) < 8 then (if 0 ≤ (I 126 (Int32.toNatClampNeg i1)) ∧ (Int32.toNatClampNeg (I 126 (Int32.toNatClampNeg i1))) < 3 then (if (I 120 (Int32.toNatClampNeg (I 126 (Int32.toNatClampNeg i1)))) ≤ i6 then (if 0 ≤ (((59049 : Int32) * i1) + i2) ∧ (Int32.toNatClampNeg (((59049 : Int32) * i1) + i2)) < 531441 then (stI (u2 I 129 (Int32.toNatClampNeg (((59049 : Int32) * i1) + i2)) i3) (fun I_126 => (if (lg_cmp j4 (1000000000 : Int64)) ≤ 0 then (if 0 ≤ (((59049 : Int32) * i1) + i2) ∧ (Int32.toNatClampNeg (((59049 : Int32) * i1) + i2)) < 531441 then (stI (u2 I_126 130 (Int32.toNatClampNeg (((59049 : Int32) * i1) + i2)) (Int64.toInt32 j4)) (fun I_156 => (some (I_156, L)))) else none) else (if 0 ≤ (((59049 : Int32) * i1) + i2) ∧ (Int32.toNatClampNeg (((59049 : Int32) * i1) + i2)) < 531441 then (stI (u2 I_126 130 (Int32.toNatClampNeg (((59049 : Int32) * i1) + i2)) (1000000000 : Int32)) (fun I_156 => (some (I_156, L)))) else none)))) else none) else (if 0 ≤ i1 ∧ (Int32.toNatClampNeg i1) < 8 then (if 1 ≤ dp then (g_266 n (dp - 1) e 0 I L (I 126 (Int32.toNatClampNeg i1)) i6 0 0 0).bind (fun ⟨x0_45, I0_45, L0_45⟩ => (stI (((59049 : Int32) * (i1 + (1 : Int32))) + x0_45) (fun v_49 => (if 1 ≤ dp then (g_268 n (dp - 1) e 0 I0_45 L0_45 i1 i6).bind (fun ⟨x1_55, I1_55, L1_55⟩ => (if 0 ≤ v_49 ∧ (Int32.toNatClampNeg v_49) < 531441 then (stI (x1_55 + (I1_55 129 (Int32.toNatClampNeg v_49))) (fun v_66 => (if i6 = 0 then (g_267 n dp e 2 I1_55 L1_55 i1 i2 i3 i6 v_49 v_66 j4) else (if v_66 ≤ i3 then (g_267 n dp e 3 I1_55 L1_55 i1 i2 i3 i6 v_49 v_66 j4) else (g_267 n dp e 2 I1_55 L1_55 i1 i2 i3 i6 v_49 v_66 j4))))) else none)) else none)))) else none) else none)) else none) else none) := by rw [g_267.eq_2, if_neg (show ¬ ((1 : Nat) = 0) by decide), if_pos (show (1 : Nat) = 1 from rfl)]
set_option maxRecDepth 100000 in
theorem e_267_2 (n dp : Nat) (e : EN) (I : (Nat → Nat → Int32)) (L : (Nat → Nat → Int64)) (i1 : Int32) (i2 : Int32) (i3 : Int32) (i6 : Int32) (i7 : Int32) (i8 : Int32) (j4 : Int64) : g_267 (n + 1) dp e 2 I L i1 i2 i3 i6 i7 i8 j4 = (g_267 n dp e 3 I L i1 i2 i8 i6 i7 i8 (0 : Int64)) := by rw [g_267.eq_2, if_neg (show ¬ ((2 : Nat) = 0) by decide), if_neg (show ¬ ((2 : Nat) = 1) by decide), if_pos (show (2 : Nat) = 2 from rfl)]
set_option maxRecDepth 100000 in
theorem e_267_3 (n dp : Nat) (e : EN) (I : (Nat → Nat → Int32)) (L : (Nat → Nat → Int64)) (i1 : Int32) (i2 : Int32) (i3 : Int32) (i6 : Int32) (i7 : Int32) (i8 : Int32) (j4 : Int64) : g_267 (n + 1) dp e 3 I L i1 i2 i3 i6 i7 i8 j4 = (if i8 = i3 then (if 0 ≤ i7 ∧ (Int32.toNatClampNeg i7) < 531441 then (stI (j4 + (Int32.toInt64 (I 130 (Int32.toNatClampNeg i7)))) (fun v_106 => (g_267 n dp e 1 I L i1 i2 i3 (i6 + Int32.ofInt (1)) 0 0 v_106))) else none) else (g_267 n dp e 1 I L i1 i2 i3 (i6 + Int32.ofInt (1)) 0 0 (j4 + (0 : Int64)))) := by rw [g_267.eq_2, if_neg (show ¬ ((3 : Nat) = 0) by decide), if_neg (show ¬ ((3 : Nat) = 1) by decide), if_neg (show ¬ ((3 : Nat) = 2) by decide), if_pos (show (3 : Nat) = 3 from rfl)]
set_option maxHeartbeats 8000000 in
set_option maxRecDepth 100000 in
theorem w_267 (X : GX) {z : Nat} {kd : Nat → Nat × Nat} {Rf : Nat → Nat → Option Nat} (hS : Sh z kd Rf) : ∀ (n dp d : Nat), dp ≤ d → ∀ (I : (Nat → Nat → Int32)) (L : (Nat → Nat → Int64)) (i1 : Int32) (i2 : Int32) (i3 : Int32) (i6 : Int32) (i7 : Int32) (i8 : Int32) (j4 : Int64) (I1 : (Nat → Nat → Int32)) (L1 : (Nat → Nat → Int64)), (g_267 n dp (z, kd, Rf) 0 I L i1 i2 i3 i6 i7 i8 j4 = some (I1, L1) → K X d 267 0 0 (AV (fun τ => τ = (z, kd, I1, L1, Rf))) 0 [some (.ref 105), some (.int i1), some (.int i2), none, none, none, none, none, none] [] (z, kd, I, L, Rf) 0 0) ∧
    (g_267 n dp (z, kd, Rf) 1 I L i1 i2 i3 i6 i7 i8 j4 = some (I1, L1) → K X d 267 0 0 (AV (fun τ => τ = (z, kd, I1, L1, Rf))) 13 [some (.ref 105), some (.int i1), some (.int i2), some (.int i3), some (.long j4), none, some (.int i6), none, none] [] (z, kd, I, L, Rf) 0 0) ∧
    (g_267 n dp (z, kd, Rf) 2 I L i1 i2 i3 i6 i7 i8 j4 = some (I1, L1) → K X d 267 0 0 (AV (fun τ => τ = (z, kd, I1, L1, Rf))) 79 [some (.ref 105), some (.int i1), some (.int i2), some (.int i3), some (.long j4), none, some (.int i6), some (.int i7), some (.int i8)] [] (z, kd, I, L, Rf) 0 0) ∧
    (g_267 n dp (z, kd, Rf) 3 I L i1 i2 i3 i6 i7 i8 j4 = some (I1, L1) → K X d 267 0 0 (AV (fun τ => τ = (z, kd, I1, L1, Rf))) 85 [some (.ref 105), some (.int i1), some (.int i2), some (.int i3), some (.long j4), none, some (.int i6), some (.int i7), some (.int i8)] [] (z, kd, I, L, Rf) 0 0) := by
  intro n
  induction n with
  | zero => intro dp d hdp I L i1 i2 i3 i6 i7 i8 j4 I1 L1; exact ⟨(fun h => by cases h), (fun h => by cases h), (fun h => by cases h), (fun h => by cases h)⟩
  | succ n ih =>
    intro dp d hdp I L i1 i2 i3 i6 i7 i8 j4 I1 L1
    refine ⟨?_, ?_, ?_, ?_⟩
    · intro h
      rw [e_267_0] at h
      refine K_of b_267_0 h_267_0 ?_
      refine q_aload rfl ?_
      refine q_iload rfl ?_
      obtain ⟨d_2, h⟩ := ite_some h
      obtain ⟨⟨I0_2, L0_2⟩, e_2, h⟩ := Option.bind_eq_some_iff.mp h
      dsimp only at h
      refine q_fv2V (a_265 X hS (d := d - 1) (by omega) e_2) (by omega) (Nat.le_refl _) (Nat.le_refl _) rfl (Nat.le_of_ble_eq_true rfl) ⟨(zl hS 105 (by decide)), congrArg Prod.fst (sk hS 105 (by decide) rfl), by decide⟩ ?_
      refine q_iconst (0) (by decide) ?_
      refine q_istore (ls1 := [some (.ref 105), some (.int i1), some (.int i2), some (.int (0 : Int32)), none, none, none, none, none]) (Nat.le_of_ble_eq_true rfl) rfl ?_
      refine q_lconst (0) (by decide) ?_
      refine q_lstore (ls1 := [some (.ref 105), some (.int i1), some (.int i2), some (.int (0 : Int32)), some (.long (0 : Int64)), none, none, none, none]) (Nat.le_of_ble_eq_true rfl) rfl ?_
      refine q_iconst (0) (by decide) ?_
      refine q_istore (ls1 := [some (.ref 105), some (.int i1), some (.int i2), some (.int (0 : Int32)), some (.long (0 : Int64)), none, some (.int (0 : Int32)), none, none]) (Nat.le_of_ble_eq_true rfl) rfl ?_
      refine q_end ?_
      exact (ih dp d hdp _ _ i1 i2 (0 : Int32) (0 : Int32) 0 0 (0 : Int64) _ _).2.1 h
    · intro h
      rw [e_267_1] at h
      refine K_of b_267_13 h_267_13 ?_
      refine q_iload rfl ?_
      refine q_aload rfl ?_
      refine q_getRs (c0 := 12) (j := 33) rfl rfl (zl hS 105 (by decide)) (sk hS 105 (by decide) rfl) rfl (by decide) (r_105_33 hS) ?_
      refine q_aload rfl ?_
      refine q_getRs (c0 := 12) (j := 39) rfl rfl (zl hS 105 (by decide)) (sk hS 105 (by decide) rfl) rfl (by decide) (r_105_39 hS) ?_
      refine q_iload rfl ?_
      obtain ⟨⟨u_24, v_24⟩, h⟩ := ite_some h
      refine q_ialN (Int32.toNatClampNeg i1) (nx u_24) (zl hS 126 (by decide)) (sk hS 126 (by decide) rfl) v_24 (by decide) ?_
      obtain ⟨⟨u_25, v_25⟩, h⟩ := ite_some h
      refine q_ialN (Int32.toNatClampNeg (I 126 (Int32.toNatClampNeg i1))) (nx u_25) (zl hS 120 (by decide)) (sk hS 120 (by decide) rfl) v_25 (by decide) ?_
      refine q_icmp_ge (fun c_26 => ?_) (fun c_26 => ?_)
      · rw [if_pos c_26] at h
        refine K_of b_267_114 h_267_114 ?_
        refine q_aload rfl ?_
        refine q_getRs (c0 := 12) (j := 45) rfl rfl (zl hS 105 (by decide)) (sk hS 105 (by decide) rfl) rfl (by decide) (r_105_45 hS) ?_
        refine q_iconst (59049) (by decide) ?_
        refine q_iload rfl ?_
        refine q_imul ?_
        refine q_iload rfl ?_
        refine q_iadd ?_
        refine q_iload rfl ?_
        obtain ⟨⟨u_126, v_126⟩, h⟩ := ite_some h
        refine q_iasN (Int32.toNatClampNeg (((59049 : Int32) * i1) + i2)) (nx u_126) (zl hS 129 (by decide)) (sk hS 129 (by decide) rfl) v_126 (by decide) ?_
        obtain ⟨I_126, nI_126, h⟩ := stI_some h
        refine q_nI nI_126 ?_
        refine q_aload rfl ?_
        refine q_getRs (c0 := 12) (j := 46) rfl rfl (zl hS 105 (by decide)) (sk hS 105 (by decide) rfl) rfl (by decide) (r_105_46 hS) ?_
        refine q_iconst (59049) (by decide) ?_
        refine q_iload rfl ?_
        refine q_imul ?_
        refine q_iload rfl ?_
        refine q_iadd ?_
        refine q_lload rfl ?_
        refine q_lconst (1000000000) (by decide) ?_
        refine q_lcmp ?_
        refine q_if_le (fun c_144 => ?_) (fun c_144 => ?_)
        · rw [if_pos c_144] at h
          refine K_of b_267_153 h_267_153 ?_
          refine q_lload rfl ?_
          refine q_l2i ?_
          refine q_end ?_
          refine K_of b_267_156 h_267_156 ?_
          obtain ⟨⟨u_156, v_156⟩, h⟩ := ite_some h
          refine q_iasN (Int32.toNatClampNeg (((59049 : Int32) * i1) + i2)) (nx u_156) (zl hS 130 (by decide)) (sk hS 130 (by decide) rfl) v_156 (by decide) ?_
          obtain ⟨I_156, nI_156, h⟩ := stI_some h
          refine q_nI nI_156 ?_
          cases h
          exact q_vret rfl (Nat.le_refl _) (Nat.le_refl _) rfl
        · rw [if_neg c_144] at h
          refine q_iconst (1000000000) (by decide) ?_
          refine q_goto ?_
          refine K_of b_267_156 h_267_156 ?_
          obtain ⟨⟨u_156, v_156⟩, h⟩ := ite_some h
          refine q_iasN (Int32.toNatClampNeg (((59049 : Int32) * i1) + i2)) (nx u_156) (zl hS 130 (by decide)) (sk hS 130 (by decide) rfl) v_156 (by decide) ?_
          obtain ⟨I_156, nI_156, h⟩ := stI_some h
          refine q_nI nI_156 ?_
          cases h
          exact q_vret rfl (Nat.le_refl _) (Nat.le_refl _) rfl
      · rw [if_neg c_26] at h
        refine q_iconst (59049) (by decide) ?_
        refine q_iload rfl ?_
        refine q_iconst (1) (by decide) ?_
        refine q_iadd ?_
        refine q_imul ?_
        refine q_aload rfl ?_
        refine q_aload rfl ?_
        refine q_getRs (c0 := 12) (j := 39) rfl rfl (zl hS 105 (by decide)) (sk hS 105 (by decide) rfl) rfl (by decide) (r_105_39 hS) ?_
        refine q_iload rfl ?_
        obtain ⟨⟨u_42, v_42⟩, h⟩ := ite_some h
        refine q_ialN (Int32.toNatClampNeg i1) (nx u_42) (zl hS 126 (by decide)) (sk hS 126 (by decide) rfl) v_42 (by decide) ?_
        refine q_iload rfl ?_
        obtain ⟨d_45, h⟩ := ite_some h
        obtain ⟨⟨x0_45, I0_45, L0_45⟩, e_45, h⟩ := Option.bind_eq_some_iff.mp h
        dsimp only at h
        refine q_fv3I (a_266 X hS (d := d - 1) (by omega) e_45) (by omega) (Nat.le_refl _) (Nat.le_refl _) rfl (Nat.le_of_ble_eq_true rfl) ⟨(zl hS 105 (by decide)), congrArg Prod.fst (sk hS 105 (by decide) rfl), by decide⟩ ?_
        refine q_iadd ?_
        obtain ⟨v_49, nv_49, h⟩ := stI_some h
        refine q_eqi nv_49.symm ?_
        refine q_istore (ls1 := [some (.ref 105), some (.int i1), some (.int i2), some (.int i3), some (.long j4), none, some (.int i6), some (.int v_49), none]) (Nat.le_of_ble_eq_true rfl) rfl ?_
        refine q_aload rfl ?_
        refine q_iload rfl ?_
        refine q_iload rfl ?_
        obtain ⟨d_55, h⟩ := ite_some h
        obtain ⟨⟨x1_55, I1_55, L1_55⟩, e_55, h⟩ := Option.bind_eq_some_iff.mp h
        dsimp only at h
        refine q_fv3I (a_268 X hS (d := d - 1) (by omega) e_55) (by omega) (Nat.le_refl _) (Nat.le_refl _) rfl (Nat.le_of_ble_eq_true rfl) ⟨(zl hS 105 (by decide)), congrArg Prod.fst (sk hS 105 (by decide) rfl), by decide⟩ ?_
        refine q_aload rfl ?_
        refine q_getRs (c0 := 12) (j := 45) rfl rfl (zl hS 105 (by decide)) (sk hS 105 (by decide) rfl) rfl (by decide) (r_105_45 hS) ?_
        refine q_iload rfl ?_
        obtain ⟨⟨u_64, v_64⟩, h⟩ := ite_some h
        refine q_ialN (Int32.toNatClampNeg v_49) (nx u_64) (zl hS 129 (by decide)) (sk hS 129 (by decide) rfl) v_64 (by decide) ?_
        refine q_iadd ?_
        obtain ⟨v_66, nv_66, h⟩ := stI_some h
        refine q_eqi nv_66.symm ?_
        refine q_istore (ls1 := [some (.ref 105), some (.int i1), some (.int i2), some (.int i3), some (.long j4), none, some (.int i6), some (.int v_49), some (.int v_66)]) (Nat.le_of_ble_eq_true rfl) rfl ?_
        refine q_iload rfl ?_
        refine q_if_eq (fun c_70 => ?_) (fun c_70 => ?_)
        · rw [if_pos c_70] at h
          exact (ih dp d hdp _ _ i1 i2 i3 i6 v_49 v_66 j4 _ _).2.2.1 h
        · rw [if_neg c_70] at h
          refine q_iload rfl ?_
          refine q_iload rfl ?_
          refine q_icmp_le (fun c_76 => ?_) (fun c_76 => ?_)
          · rw [if_pos c_76] at h
            exact (ih dp d hdp _ _ i1 i2 i3 i6 v_49 v_66 j4 _ _).2.2.2 h
          · rw [if_neg c_76] at h
            refine q_end ?_
            exact (ih dp d hdp _ _ i1 i2 i3 i6 v_49 v_66 j4 _ _).2.2.1 h
    · intro h
      rw [e_267_2] at h
      refine K_of b_267_79 h_267_79 ?_
      refine q_iload rfl ?_
      refine q_istore (ls1 := [some (.ref 105), some (.int i1), some (.int i2), some (.int i8), some (.long j4), none, some (.int i6), some (.int i7), some (.int i8)]) (Nat.le_of_ble_eq_true rfl) rfl ?_
      refine q_lconst (0) (by decide) ?_
      refine q_lstore (ls1 := [some (.ref 105), some (.int i1), some (.int i2), some (.int i8), some (.long (0 : Int64)), none, some (.int i6), some (.int i7), some (.int i8)]) (Nat.le_of_ble_eq_true rfl) rfl ?_
      refine q_end ?_
      exact (ih dp d hdp _ _ i1 i2 i8 i6 i7 i8 (0 : Int64) _ _).2.2.2 h
    · intro h
      rw [e_267_3] at h
      refine K_of b_267_85 h_267_85 ?_
      refine q_lload rfl ?_
      refine q_iload rfl ?_
      refine q_iload rfl ?_
      refine q_icmp_ne (fun c_90 => ?_) (fun c_90 => ?_)
      · rw [if_neg c_90] at h
        refine K_of b_267_104 h_267_104 ?_
        refine q_lconst (0) (by decide) ?_
        refine q_end ?_
        refine K_of b_267_105 h_267_105 ?_
        refine q_ladd ?_
        refine q_lstore (ls1 := [some (.ref 105), some (.int i1), some (.int i2), some (.int i3), some (.long (j4 + (0 : Int64))), none, some (.int i6), some (.int i7), some (.int i8)]) (Nat.le_of_ble_eq_true rfl) rfl ?_
        refine q_iinc (ls1 := [some (.ref 105), some (.int i1), some (.int i2), some (.int i3), some (.long (j4 + (0 : Int64))), none, some (.int (i6 + Int32.ofInt (1))), some (.int i7), some (.int i8)]) rfl rfl ?_
        refine q_goto ?_
        refine K_mask [true, true, true, true, true, false, true, false, false] (Nat.le_of_ble_eq_true rfl) ?_
        exact (ih dp d hdp _ _ i1 i2 i3 (i6 + Int32.ofInt (1)) 0 0 (j4 + (0 : Int64)) _ _).2.1 h
      · rw [if_pos c_90] at h
        refine q_aload rfl ?_
        refine q_getRs (c0 := 12) (j := 46) rfl rfl (zl hS 105 (by decide)) (sk hS 105 (by decide) rfl) rfl (by decide) (r_105_46 hS) ?_
        refine q_iload rfl ?_
        obtain ⟨⟨u_99, v_99⟩, h⟩ := ite_some h
        refine q_ialN (Int32.toNatClampNeg i7) (nx u_99) (zl hS 130 (by decide)) (sk hS 130 (by decide) rfl) v_99 (by decide) ?_
        refine q_i2l ?_
        refine q_goto ?_
        refine K_of b_267_105 h_267_105 ?_
        refine q_ladd ?_
        obtain ⟨v_106, nv_106, h⟩ := stI_some h
        refine q_eql nv_106.symm ?_
        refine q_lstore (ls1 := [some (.ref 105), some (.int i1), some (.int i2), some (.int i3), some (.long v_106), none, some (.int i6), some (.int i7), some (.int i8)]) (Nat.le_of_ble_eq_true rfl) rfl ?_
        refine q_iinc (ls1 := [some (.ref 105), some (.int i1), some (.int i2), some (.int i3), some (.long v_106), none, some (.int (i6 + Int32.ofInt (1))), some (.int i7), some (.int i8)]) rfl rfl ?_
        refine q_goto ?_
        refine K_mask [true, true, true, true, true, false, true, false, false] (Nat.le_of_ble_eq_true rfl) ?_
        exact (ih dp d hdp _ _ i1 i2 i3 (i6 + Int32.ofInt (1)) 0 0 v_106 _ _).2.1 h
theorem a_267 (X : GX) {z : Nat} {kd : Nat → Nat × Nat} {Rf : Nat → Nat → Option Nat} (hS : Sh z kd Rf) {n dp d : Nat} (hd : dp ≤ d) {I : (Nat → Nat → Int32)} {L : (Nat → Nat → Int64)} {i1 : Int32} {i2 : Int32} {I1 : (Nat → Nat → Int32)} {L1 : (Nat → Nat → Int64)} (h : g_267 n dp (z, kd, Rf) 0 I L i1 i2 0 0 0 0 0 = some (I1, L1)) : Ct X d 267 0 0 [.ref 105, .int i1, .int i2] (z, kd, I, L, Rf) (AV (fun τ => τ = (z, kd, I1, L1, Rf))) :=
  Ct_of mu_267 (Nat.le_of_ble_eq_true rfl) ((w_267 X hS n dp d hd I L i1 i2 0 0 0 0 0 _ _).1 h)

/-! 263 CutFloorModel.reckon()I -/
set_option maxHeartbeats 4000000 in
set_option maxRecDepth 100000 in
def g_263 : Nat → Nat → EN → Nat → (Nat → Nat → Int32) → (Nat → Nat → Int64) → Int32 → Int32 → Int32 →  Option (Int32 × (Nat → Nat → Int32) × (Nat → Nat → Int64))
  | 0, _, _, _, _, _, _, _, _ => none
  | n + 1, dp, e, lab, I, L, i1, i2, i3 =>
    if lab = 0 then (if 1 ≤ dp then (g_264 n (dp - 1) e 0 I L 0).bind (fun ⟨I0_1, L0_1⟩ => (g_263 n dp e 1 I0_1 L0_1 (0 : Int32) 0 0)) else none)
    else if lab = 1 then (if (I 105 40) < i1 then (g_263 n dp e 3 I L (0 : Int32) 0 0) else (g_263 n dp e 2 I L i1 (0 : Int32) 0))
    else if lab = 2 then (if (I 105 44) ≤ i2 then (g_263 n dp e 1 I L (i1 + Int32.ofInt (1)) 0 0) else (if i1 = 0 then (if i2 = 0 then (if 0 ≤ (((59049 : Int32) * i1) + i2) ∧ (Int32.toNatClampNeg (((59049 : Int32) * i1) + i2)) < 531441 then (stI (u2 I 131 (Int32.toNatClampNeg (((59049 : Int32) * i1) + i2)) (1 : Int32)) (fun I_48 => (g_263 n dp e 2 I_48 L i1 (i2 + Int32.ofInt (1)) 0))) else none) else (if 0 ≤ (((59049 : Int32) * i1) + i2) ∧ (Int32.toNatClampNeg (((59049 : Int32) * i1) + i2)) < 531441 then (stI (u2 I 131 (Int32.toNatClampNeg (((59049 : Int32) * i1) + i2)) (0 : Int32)) (fun I_48 => (g_263 n dp e 2 I_48 L i1 (i2 + Int32.ofInt (1)) 0))) else none)) else (if 0 ≤ (((59049 : Int32) * i1) + i2) ∧ (Int32.toNatClampNeg (((59049 : Int32) * i1) + i2)) < 531441 then (stI (u2 I 131 (Int32.toNatClampNeg (((59049 : Int32) * i1) + i2)) (0 : Int32)) (fun I_48 => (g_263 n dp e 2 I_48 L i1 (i2 + Int32.ofInt (1)) 0))) else none)))
    else if lab = 3 then (if (I 105 40) ≤ i1 then (g_263 n dp e 7 I L (0 : Int32) 0 0) else (g_263 n dp e 4 I L i1 (0 : Int32) 0))
    else if lab = 4 then (if (I 105 44) ≤ i2 then (g_263 n dp e 3 I L (i1 + Int32.ofInt (1)) 0 0) else (if 0 ≤ (((59049 : Int32) * i1) + i2) ∧ (Int32.toNatClampNeg (((59049 : Int32) * i1) + i2)) < 531441 then (if (I 131 (Int32.toNatClampNeg (((59049 : Int32) * i1) + i2))) = 0 then (g_263 n dp e 6 I L i1 i2 0) else (if 1 ≤ dp then (g_265 n (dp - 1) e 0 I L i2 0 0).bind (fun ⟨I0_98, L0_98⟩ => (g_263 n dp e 5 I0_98 L0_98 i1 i2 (0 : Int32))) else none)) else none))
    else if lab = 5 then (if 0 ≤ i1 ∧ (Int32.toNatClampNeg i1) < 8 then (if 0 ≤ (I 126 (Int32.toNatClampNeg i1)) ∧ (Int32.toNatClampNeg (I 126 (Int32.toNatClampNeg i1))) < 3 then (if (I 120 (Int32.toNatClampNeg (I 126 (Int32.toNatClampNeg i1)))) ≤ i3 then (g_263 n dp e 6 I L i1 i2 0) else (if 0 ≤ i1 ∧ (Int32.toNatClampNeg i1) < 8 then (if 1 ≤ dp then (g_266 n (dp - 1) e 0 I L (I 126 (Int32.toNatClampNeg i1)) i3 0 0 0).bind (fun ⟨x0_137, I0_137, L0_137⟩ => (if 0 ≤ (((59049 : Int32) * (i1 + (1 : Int32))) + x0_137) ∧ (Int32.toNatClampNeg (((59049 : Int32) * (i1 + (1 : Int32))) + x0_137)) < 531441 then (stI (u2 I0_137 131 (Int32.toNatClampNeg (((59049 : Int32) * (i1 + (1 : Int32))) + x0_137)) (1 : Int32)) (fun I_142 => (g_263 n dp e 5 I_142 L0_137 i1 i2 (i3 + Int32.ofInt (1))))) else none)) else none) else none)) else none) else none)
    else if lab = 6 then (g_263 n dp e 4 I L i1 (i2 + Int32.ofInt (1)) 0)
    else if lab = 7 then (if (I 105 44) ≤ i1 then (stI ((I 105 40) - (1 : Int32)) (fun v_282 => (g_263 n dp e 9 I L v_282 0 0))) else (if 1 ≤ dp then (g_265 n (dp - 1) e 0 I L i1 0 0).bind (fun ⟨I0_173, L0_173⟩ => (g_263 n dp e 8 I0_173 L0_173 i1 (0 : Int32) (0 : Int32))) else none))
    else if lab = 8 then (if (I 105 43) ≤ i3 then (if 0 ≤ (((59049 : Int32) * (I 105 40)) + i1) ∧ (Int32.toNatClampNeg (((59049 : Int32) * (I 105 40)) + i1)) < 531441 then (stI (u2 I 129 (Int32.toNatClampNeg (((59049 : Int32) * (I 105 40)) + i1)) ((I 105 48) * i2)) (fun I_253 => (if 0 ≤ (((59049 : Int32) * (I_253 105 40)) + i1) ∧ (Int32.toNatClampNeg (((59049 : Int32) * (I_253 105 40)) + i1)) < 531441 then (stI (u2 I_253 130 (Int32.toNatClampNeg (((59049 : Int32) * (I_253 105 40)) + i1)) (1 : Int32)) (fun I_269 => (g_263 n dp e 7 I_269 L (i1 + Int32.ofInt (1)) 0 0))) else none))) else none) else (if 0 ≤ i3 ∧ (Int32.toNatClampNeg i3) < 5 then (if 0 ≤ i3 ∧ (Int32.toNatClampNeg i3) < 5 then (if 0 ≤ ((40 : Int32) + (I 128 (Int32.toNatClampNeg i3))) ∧ (Int32.toNatClampNeg ((40 : Int32) + (I 128 (Int32.toNatClampNeg i3)))) < 1570 then (if 0 ≤ i3 ∧ (Int32.toNatClampNeg i3) < 5 then (if 0 ≤ ((50 : Int32) + (I 128 (Int32.toNatClampNeg i3))) ∧ (Int32.toNatClampNeg ((50 : Int32) + (I 128 (Int32.toNatClampNeg i3)))) < 1570 then (stI (i2 + ((I 133 (Int32.toNatClampNeg i3)) * ((I 107 (Int32.toNatClampNeg ((40 : Int32) + (I 128 (Int32.toNatClampNeg i3))))) - (I 107 (Int32.toNatClampNeg ((50 : Int32) + (I 128 (Int32.toNatClampNeg i3)))))))) (fun v_226 => (g_263 n dp e 8 I L i1 v_226 (i3 + Int32.ofInt (1))))) else none) else none) else none) else none) else none))
    else if lab = 9 then (if i1 < 0 then (some ((I 129 0), I, L)) else (g_263 n dp e 10 I L i1 (0 : Int32) 0))
    else if lab = 10 then (if (I 105 44) ≤ i2 then (g_263 n dp e 9 I L (i1 + Int32.ofInt (-1)) 0 0) else (if 0 ≤ (((59049 : Int32) * i1) + i2) ∧ (Int32.toNatClampNeg (((59049 : Int32) * i1) + i2)) < 531441 then (if (I 131 (Int32.toNatClampNeg (((59049 : Int32) * i1) + i2))) = 0 then (g_263 n dp e 11 I L i1 i2 0) else (if 1 ≤ dp then (g_267 n (dp - 1) e 0 I L i1 i2 0 0 0 0 0).bind (fun ⟨I0_315, L0_315⟩ => (g_263 n dp e 11 I0_315 L0_315 i1 i2 0)) else none)) else none))
    else if lab = 11 then (g_263 n dp e 10 I L i1 (i2 + Int32.ofInt (1)) 0)
    else none
set_option maxRecDepth 100000 in
theorem e_263_0 (n dp : Nat) (e : EN) (I : (Nat → Nat → Int32)) (L : (Nat → Nat → Int64)) (i1 : Int32) (i2 : Int32) (i3 : Int32) : g_263 (n + 1) dp e 0 I L i1 i2 i3 = (if 1 ≤ dp then (g_264 n (dp - 1) e 0 I L 0).bind (fun ⟨I0_1, L0_1⟩ => (g_263 n dp e 1 I0_1 L0_1 (0 : Int32) 0 0)) else none) := by rw [g_263.eq_2, if_pos (show (0 : Nat) = 0 from rfl)]
set_option maxRecDepth 100000 in
theorem e_263_1 (n dp : Nat) (e : EN) (I : (Nat → Nat → Int32)) (L : (Nat → Nat → Int64)) (i1 : Int32) (i2 : Int32) (i3 : Int32) : g_263 (n + 1) dp e 1 I L i1 i2 i3 = (if (I 105 40) < i1 then (g_263 n dp e 3 I L (0 : Int32) 0 0) else (g_263 n dp e 2 I L i1 (0 : Int32) 0)) := by rw [g_263.eq_2, if_neg (show ¬ ((1 : Nat) = 0) by decide), if_pos (show (1 : Nat) = 1 from rfl)]
set_option maxRecDepth 100000 in
theorem e_263_2 (n dp : Nat) (e : EN) (I : (Nat → Nat → Int32)) (L : (Nat → Nat → Int64)) (i1 : Int32) (i2 : Int32) (i3 : Int32) : g_263 (n + 1) dp e 2 I L i1 i2 i3 = (if (I 105 44) ≤ i2 then (g_263 n dp e 1 I L (i1 + Int32.ofInt (1)) 0 0) else (if i1 = 0 then (if i2 = 0 then (if 0 ≤ (((59049 : Int32) * i1) + i2) ∧ (Int32.toNatClampNeg (((59049 : Int32) * i1) + i2)) < 531441 then (stI (u2 I 131 (Int32.toNatClampNeg (((59049 : Int32) * i1) + i2)) (1 : Int32)) (fun I_48 => (g_263 n dp e 2 I_48 L i1 (i2 + Int32.ofInt (1)) 0))) else none) else (if 0 ≤ (((59049 : Int32) * i1) + i2) ∧ (Int32.toNatClampNeg (((59049 : Int32) * i1) + i2)) < 531441 then (stI (u2 I 131 (Int32.toNatClampNeg (((59049 : Int32) * i1) + i2)) (0 : Int32)) (fun I_48 => (g_263 n dp e 2 I_48 L i1 (i2 + Int32.ofInt (1)) 0))) else none)) else (if 0 ≤ (((59049 : Int32) * i1) + i2) ∧ (Int32.toNatClampNeg (((59049 : Int32) * i1) + i2)) < 531441 then (stI (u2 I 131 (Int32.toNatClampNeg (((59049 : Int32) * i1) + i2)) (0 : Int32)) (fun I_48 => (g_263 n dp e 2 I_48 L i1 (i2 + Int32.ofInt (1)) 0))) else none))) := by rw [g_263.eq_2, if_neg (show ¬ ((2 : Nat) = 0) by decide), if_neg (show ¬ ((2 : Nat) = 1) by decide), if_pos (show (2 : Nat) = 2 from rfl)]
set_option maxRecDepth 100000 in
theorem e_263_3 (n dp : Nat) (e : EN) (I : (Nat → Nat → Int32)) (L : (Nat → Nat → Int64)) (i1 : Int32) (i2 : Int32) (i3 : Int32) : g_263 (n + 1) dp e 3 I L i1 i2 i3 = (if (I 105 40) ≤ i1 then (g_263 n dp e 7 I L (0 : Int32) 0 0) else (g_263 n dp e 4 I L i1 (0 : Int32) 0)) := by rw [g_263.eq_2, if_neg (show ¬ ((3 : Nat) = 0) by decide), if_neg (show ¬ ((3 : Nat) = 1) by decide), if_neg (show ¬ ((3 : Nat) = 2) by decide), if_pos (show (3 : Nat) = 3 from rfl)]
set_option maxRecDepth 100000 in
theorem e_263_4 (n dp : Nat) (e : EN) (I : (Nat → Nat → Int32)) (L : (Nat → Nat → Int64)) (i1 : Int32) (i2 : Int32) (i3 : Int32) : g_263 (n + 1) dp e 4 I L i1 i2 i3 = (if (I 105 44) ≤ i2 then (g_263 n dp e 3 I L (i1 + Int32.ofInt (1)) 0 0) else (if 0 ≤ (((59049 : Int32) * i1) + i2) ∧ (Int32.toNatClampNeg (((59049 : Int32) * i1) + i2)) < 531441 then (if (I 131 (Int32.toNatClampNeg (((59049 : Int32) * i1) + i2))) = 0 then (g_263 n dp e 6 I L i1 i2 0) else (if 1 ≤ dp then (g_265 n (dp - 1) e 0 I L i2 0 0).bind (fun ⟨I0_98, L0_98⟩ => (g_263 n dp e 5 I0_98 L0_98 i1 i2 (0 : Int32))) else none)) else none)) := by rw [g_263.eq_2, if_neg (show ¬ ((4 : Nat) = 0) by decide), if_neg (show ¬ ((4 : Nat) = 1) by decide), if_neg (show ¬ ((4 : Nat) = 2) by decide), if_neg (show ¬ ((4 : Nat) = 3) by decide), if_pos (show (4 : Nat) = 4 from rfl)]
set_option maxRecDepth 100000 in
theorem e_263_5 (n dp : Nat) (e : EN) (I : (Nat → Nat → Int32)) (L : (Nat → Nat → Int64)) (i1 : Int32) (i2 : Int32) (i3 : Int32) : g_263 (n + 1) dp e 5 I L i1 i2 i3 = (if 0 ≤ i1 ∧ (Int32.toNatClampNeg i1) < 8 then (if 0 ≤ (I 126 (Int32.toNatClampNeg i1)) ∧ (Int32.toNatClampNeg (I 126 (Int32.toNatClampNeg i1))) < 3 then (if (I 120 (Int32.toNatClampNeg (I 126 (Int32.toNatClampNeg i1)))) ≤ i3 then (g_263 n dp e 6 I L i1 i2 0) else (if 0 ≤ i1 ∧ (Int32.toNatClampNeg i1) < 8 then (if 1 ≤ dp then (g_266 n (dp - 1) e 0 I L (I 126 (Int32.toNatClampNeg i1)) i3 0 0 0).bind (fun ⟨x0_137, I0_137, L0_137⟩ => (if 0 ≤ (((59049 : Int32) * (i1 + (1 : Int32))) + x0_137) ∧ (Int32.toNatClampNeg (((59049 : Int32) * (i1 + (1 : Int32))) + x0_137)) < 531441 then (stI (u2 I0_137 131 (Int32.toNatClampNeg (((59049 : Int32) * (i1 + (1 : Int32))) + x0_137)) (1 : Int32)) (fun I_142 => (g_263 n dp e 5 I_142 L0_137 i1 i2 (i3 + Int32.ofInt (1))))) else none)) else none) else none)) else none) else none) := by rw [g_263.eq_2, if_neg (show ¬ ((5 : Nat) = 0) by decide), if_neg (show ¬ ((5 : Nat) = 1) by decide), if_neg (show ¬ ((5 : Nat) = 2) by decide), if_neg (show ¬ ((5 : Nat) = 3) by decide), if_neg (show ¬ ((5 : Nat) = 4) by decide), if_pos (show (5 : Nat) = 5 from rfl)]
set_option maxRecDepth 100000 in
theorem e_263_6 (n dp : Nat) (e : EN) (I : (Nat → Nat → Int32)) (L : (Nat → Nat → Int64)) (i1 : Int32) (i2 : Int32) (i3 : Int32) : g_263 (n + 1) dp e 6 I L i1 i2 i3 = (g_263 n dp e 4 I L i1 (i2 + Int32.ofInt (1)) 0) := by rw [g_263.eq_2, if_neg (show ¬ ((6 : Nat) = 0) by decide), if_neg (show ¬ ((6 : Nat) = 1) by decide), if_neg (show ¬ ((6 : Nat) = 2) by decide), if_neg (show ¬ ((6 : Nat) = 3) by decide), if_neg (show ¬ ((6 : Nat) = 4) by decide), if_neg (show ¬ ((6 : Nat) = 5) by decide), if_pos (show (6 : Nat) = 6 from rfl)]
set_option maxRecDepth 100000 in
theorem e_263_7 (n dp : Nat) (e : EN) (I : (Nat → Nat → Int32)) (L : (Nat → Nat → Int64)) (i1 : Int32) (i2 : Int32) (i3 : Int32) : g_263 (n + 1) dp e 7 I L i1 i2 i3 = (if (I 105 44) ≤ i1 then (stI ((I 105 40) - (1 : Int32)) (fun v_282 => (g_263 n dp e 9 I L v_282 0 0))) else (if 1 ≤ dp then (g_265 n (dp - 1) e 0 I L i1 0 0).bind (fun ⟨I0_173, L0_173⟩ => (g_263 n dp e 8 I0_173 L0_173 i1 (0 : Int32) (0 : Int32))) else none)) := by rw [g_263.eq_2, if_neg (show ¬ ((7 : Nat) = 0) by decide), if_neg (show ¬ ((7 : Nat) = 1) by decide), if_neg (show ¬ ((7 : Nat) = 2) by decide), if_neg (show ¬ ((7 : Nat) = 3) by decide), if_neg (show ¬ ((7 : Nat) = 4) by decide), if_neg (show ¬ ((7 : Nat) = 5) by decide), if_neg (show ¬ ((7 : Nat) = 6) by decide), if_pos (show (7 : Nat) = 7 from rfl)]
set_option maxRecDepth 100000 in
theorem e_263_8 (n dp : Nat) (e : EN) (I : (Nat → Nat → Int32)) (L : (Nat → Nat → Int64)) (i1 : Int32) (i2 : Int32) (i3 : Int32) : g_263 (n + 1) dp e 8 I L i1 i2 i3 = (if (I 105 43) ≤ i3 then (if 0 ≤ (((59049 : Int32) * (I 105 40)) + i1) ∧ (Int32.toNatClampNeg (((59049 : Int32) * (I 105 40)) + i1)) < 531441 then (stI (u2 I 129 (Int32.toNatClampNeg (((59049 : Int32) * (I 105 40)) + i1)) ((I 105 48) * i2)) (fun I_253 => (if 0 ≤ (((59049 : Int32) * (I_253 105 40)) + i1) ∧ (Int32.toNatClampNeg (((59049 : Int32) * (I_253 105 40)) + i1)) < 531441 then (stI (u2 I_253 130 (Int32.toNatClampNeg (((59049 : Int32) * (I_253 105 40)) + i1)) (1 : Int32)) (fun I_269 => (g_263 n dp e 7 I_269 L (i1 + Int32.ofInt (1)) 0 0))) else none))) else none) else (if 0 ≤ i3 ∧ (Int32.toNatClampNeg i3) < 5 then (if 0 ≤ i3 ∧ (Int32.toNatClampNeg i3) < 5 then (if 0 ≤ ((40 : Int32) + (I 128 (Int32.toNatClampNeg i3))) ∧ (Int32.toNatClampNeg ((40 : Int32) + (I 128 (Int32.toNatClampNeg i3)))) < 1570 then (if 0 ≤ i3 ∧ (Int32.toNatClampNeg i3) < 5 then (if 0 ≤ ((50 : Int32) + (I 128 (Int32.toNatClampNeg i3))) ∧ (Int32.toNatClampNeg ((50 : Int32) + (I 128 (Int32.toNatClampNeg i3)))) < 1570 then (stI (i2 + ((I 133 (Int32.toNatClampNeg i3)) * ((I 107 (Int32.toNatClampNeg ((40 : Int32) + (I 128 (Int32.toNatClampNeg i3))))) - (I 107 (Int32.toNatClampNeg ((50 : Int32) + (I 128 (Int32.toNatClampNeg i3)))))))) (fun v_226 => (g_263 n dp e 8 I L i1 v_226 (i3 + Int32.ofInt (1))))) else none) else none) else none) else none) else none)) := by rw [g_263.eq_2, if_neg (show ¬ ((8 : Nat) = 0) by decide), if_neg (show ¬ ((8 : Nat) = 1) by decide), if_neg (show ¬ ((8 : Nat) = 2) by decide), if_neg (show ¬ ((8 : Nat) = 3) by decide), if_neg (show ¬ ((8 : Nat) = 4) by decide), if_neg (show ¬ ((8 : Nat) = 5) by decide), if_neg (show ¬ ((8 : Nat) = 6) by decide), if_neg (show ¬ ((8 : Nat) = 7) by decide), if_pos (show (8 : Nat) = 8 from rfl)]
set_option maxRecDepth 100000 in
theorem e_263_9 (n dp : Nat) (e : EN) (I : (Nat → Nat → Int32)) (L : (Nat → Nat → Int64)) (i1 : Int32) (i2 : Int32) (i3 : Int32) : g_263 (n + 1) dp e 9 I L i1 i2 i3 = (if i1 < 0 then (some ((I 129 0), I, L)) else (g_263 n dp e 10 I L i1 (0 : Int32) 0)) := by rw [g_263.eq_2, if_neg (show ¬ ((9 : Nat) = 0) by decide), if_neg (show ¬ ((9 : Nat) = 1) by decide), if_neg (show ¬ ((9 : Nat) = 2) by decide), if_neg (show ¬ ((9 : Nat) = 3) by decide), if_neg (show ¬ ((9 : Nat) = 4) by decide), if_neg (show ¬ ((9 : Nat) = 5) by decide), if_neg (show ¬ ((9 : Nat) = 6) by decide), if_neg (show ¬ ((9 : Nat) = 7) by decide), if_neg (show ¬ ((9 : Nat) = 8) by decide), if_pos (show (9 : Nat) = 9 from rfl)]
set_option maxRecDepth 100000 in
theorem e_263_10 (n dp : Nat) (e : EN) (I : (Nat → Nat → Int32)) (L : (Nat → Nat → Int64)) (i1 : Int32) (i2 : Int32) (i3 : Int32) : g_263 (n + 1) dp e 10 I L i1 i2 i3 = (if (I 105 44) ≤ i2 then (g_263 n dp e 9 I L (i1 + Int32.ofInt (-1)) 0 0) else (if 0 ≤ (((59049 : Int32) * i1) + i2) ∧ (Int32.toNatClampNeg (((59049 : Int32) * i1) + i2)) < 531441 then (if (I 131 (Int32.toNatClampNeg (((59049 : Int32) * i1) + i2))) = 0 then (g_263 n dp e 11 I L i1 i2 0) else (if 1 ≤ dp then (g_267 n (dp - 1) e 0 I L i1 i2 0 0 0 0 0).bind (fun ⟨I0_315, L0_315⟩ => (g_263 n dp e 11 I0_315 L0_315 i1 i2 0)) else none)) else none)) := by rw [g_263.eq_2, if_neg (show ¬ ((10 : Nat) = 0) by decide), if_neg (show ¬ ((10 : Nat) = 1) by decide), if_neg (show ¬ ((10 : Nat) = 2) by decide), if_neg (show ¬ ((10 : Nat) = 3) by decide), if_neg (show ¬ ((10 : Nat) = 4) by decide), if_neg (show ¬ ((10 : Nat) = 5) by decide), if_neg (show ¬ ((10 : Nat) = 6) by decide), if_neg (show ¬ ((10 : Nat) = 7) by decide), if_neg (show ¬ ((10 : Nat) = 8) by decide), if_neg (show ¬ ((10 : Nat) = 9) by decide), if_pos (show (10 : Nat) = 10 from rfl)]
set_option maxRecDepth 100000 in
theorem e_263_11 (n dp : Nat) (e : EN) (I : (Nat → Nat → Int32)) (L : (Nat → Nat → Int64)) (i1 : Int32) (i2 : Int32) (i3 : Int32) : g_263 (n + 1) dp e 11 I L i1 i2 i3 = (g_263 n dp e 10 I L i1 (i2 + Int32.ofInt (1)) 0) := by rw [g_263.eq_2, if_neg (show ¬ ((11 : Nat) = 0) by decide), if_neg (show ¬ ((11 : Nat) = 1) by decide), if_neg (show ¬ ((11 : Nat) = 2) by decide), if_neg (show ¬ ((11 : Nat) = 3) by decide), if_neg (show ¬ ((11 : Nat) = 4) by decide), if_neg (show ¬ ((11 : Nat) = 5) by decide), if_neg (show ¬ ((11 : Nat) = 6) by decide), if_neg (show ¬ ((11 : Nat) = 7) by decide), if_neg (show ¬ ((11 : Nat) = 8) by decide), if_neg (show ¬ ((11 : Nat) = 9) by decide), if_neg (show ¬ ((11 : Nat) = 10) by decide), if_pos (show (11 : Nat) = 11 from rfl)]
set_option maxHeartbeats 8000000 in
set_option maxRecDepth 100000 in
theorem w_263 (X : GX) {z : Nat} {kd : Nat → Nat × Nat} {Rf : Nat → Nat → Option Nat} (hS : Sh z kd Rf) : ∀ (n dp d : Nat), dp ≤ d → ∀ (I : (Nat → Nat → Int32)) (L : (Nat → Nat → Int64)) (i1 : Int32) (i2 : Int32) (i3 : Int32) (r : Int32) (I1 : (Nat → Nat → Int32)) (L1 : (Nat → Nat → Int64)), (g_263 n dp (z, kd, Rf) 0 I L i1 i2 i3 = some (r, I1, L1) → K X d 263 0 0 (AI (fun x τ => x = r ∧ τ = (z, kd, I1, L1, Rf))) 0 [some (.ref 105), none, none, none] [] (z, kd, I, L, Rf) 0 0) ∧
    (g_263 n dp (z, kd, Rf) 1 I L i1 i2 i3 = some (r, I1, L1) → K X d 263 0 0 (AI (fun x τ => x = r ∧ τ = (z, kd, I1, L1, Rf))) 6 [some (.ref 105), some (.int i1), none, none] [] (z, kd, I, L, Rf) 0 0) ∧
    (g_263 n dp (z, kd, Rf) 2 I L i1 i2 i3 = some (r, I1, L1) → K X d 263 0 0 (AI (fun x τ => x = r ∧ τ = (z, kd, I1, L1, Rf))) 16 [some (.ref 105), some (.int i1), some (.int i2), none] [] (z, kd, I, L, Rf) 0 0) ∧
    (g_263 n dp (z, kd, Rf) 3 I L i1 i2 i3 = some (r, I1, L1) → K X d 263 0 0 (AI (fun x τ => x = r ∧ τ = (z, kd, I1, L1, Rf))) 63 [some (.ref 105), some (.int i1), none, none] [] (z, kd, I, L, Rf) 0 0) ∧
    (g_263 n dp (z, kd, Rf) 4 I L i1 i2 i3 = some (r, I1, L1) → K X d 263 0 0 (AI (fun x τ => x = r ∧ τ = (z, kd, I1, L1, Rf))) 73 [some (.ref 105), some (.int i1), some (.int i2), none] [] (z, kd, I, L, Rf) 0 0) ∧
    (g_263 n dp (z, kd, Rf) 5 I L i1 i2 i3 = some (r, I1, L1) → K X d 263 0 0 (AI (fun x τ => x = r ∧ τ = (z, kd, I1, L1, Rf))) 103 [some (.ref 105), some (.int i1), some (.int i2), some (.int i3)] [] (z, kd, I, L, Rf) 0 0) ∧
    (g_263 n dp (z, kd, Rf) 6 I L i1 i2 i3 = some (r, I1, L1) → K X d 263 0 0 (AI (fun x τ => x = r ∧ τ = (z, kd, I1, L1, Rf))) 149 [some (.ref 105), some (.int i1), some (.int i2), none] [] (z, kd, I, L, Rf) 0 0) ∧
    (g_263 n dp (z, kd, Rf) 7 I L i1 i2 i3 = some (r, I1, L1) → K X d 263 0 0 (AI (fun x τ => x = r ∧ τ = (z, kd, I1, L1, Rf))) 163 [some (.ref 105), some (.int i1), none, none] [] (z, kd, I, L, Rf) 0 0) ∧
    (g_263 n dp (z, kd, Rf) 8 I L i1 i2 i3 = some (r, I1, L1) → K X d 263 0 0 (AI (fun x τ => x = r ∧ τ = (z, kd, I1, L1, Rf))) 180 [some (.ref 105), some (.int i1), some (.int i2), some (.int i3)] [] (z, kd, I, L, Rf) 0 0) ∧
    (g_263 n dp (z, kd, Rf) 9 I L i1 i2 i3 = some (r, I1, L1) → K X d 263 0 0 (AI (fun x τ => x = r ∧ τ = (z, kd, I1, L1, Rf))) 283 [some (.ref 105), some (.int i1), none, none] [] (z, kd, I, L, Rf) 0 0) ∧
    (g_263 n dp (z, kd, Rf) 10 I L i1 i2 i3 = some (r, I1, L1) → K X d 263 0 0 (AI (fun x τ => x = r ∧ τ = (z, kd, I1, L1, Rf))) 289 [some (.ref 105), some (.int i1), some (.int i2), none] [] (z, kd, I, L, Rf) 0 0) ∧
    (g_263 n dp (z, kd, Rf) 11 I L i1 i2 i3 = some (r, I1, L1) → K X d 263 0 0 (AI (fun x τ => x = r ∧ τ = (z, kd, I1, L1, Rf))) 318 [some (.ref 105), some (.int i1), some (.int i2), none] [] (z, kd, I, L, Rf) 0 0) := by
  intro n
  induction n with
  | zero => intro dp d hdp I L i1 i2 i3 r I1 L1; exact ⟨(fun h => by cases h), (fun h => by cases h), (fun h => by cases h), (fun h => by cases h), (fun h => by cases h), (fun h => by cases h), (fun h => by cases h), (fun h => by cases h), (fun h => by cases h), (fun h => by cases h), (fun h => by cases h), (fun h => by cases h)⟩
  | succ n ih =>
    intro dp d hdp I L i1 i2 i3 r I1 L1
    refine ⟨?_, ?_, ?_, ?_, ?_, ?_, ?_, ?_, ?_, ?_, ?_, ?_⟩
    · intro h
      rw [e_263_0] at h
      refine K_of b_263_0 h_263_0 ?_
      refine q_aload rfl ?_
      obtain ⟨d_1, h⟩ := ite_some h
      obtain ⟨⟨I0_1, L0_1⟩, e_1, h⟩ := Option.bind_eq_some_iff.mp h
      dsimp only at h
      refine q_fv1V (a_264 X hS (d := d - 1) (by omega) e_1) (by omega) (Nat.le_refl _) (Nat.le_refl _) rfl (Nat.le_of_ble_eq_true rfl) ⟨(zl hS 105 (by decide)), congrArg Prod.fst (sk hS 105 (by decide) rfl), by decide⟩ ?_
      refine q_iconst (0) (by decide) ?_
      refine q_istore (ls1 := [some (.ref 105), some (.int (0 : Int32)), none, none]) (Nat.le_of_ble_eq_true rfl) rfl ?_
      refine q_end ?_
      exact (ih dp d hdp _ _ (0 : Int32) 0 0 _ _ _).2.1 h
    · intro h
      rw [e_263_1] at h
      refine K_of b_263_6 h_263_6 ?_
      refine q_iload rfl ?_
      refine q_aload rfl ?_
      refine q_getI (c0 := 12) (j := 40) rfl rfl (zl hS 105 (by decide)) (sk hS 105 (by decide) rfl) (Or.inl rfl) (by decide) ?_
      refine q_icmp_gt (fun c_11 => ?_) (fun c_11 => ?_)
      · rw [if_pos c_11] at h
        refine K_of b_263_61 h_263_61 ?_
        refine q_iconst (0) (by decide) ?_
        refine q_istore (ls1 := [some (.ref 105), some (.int (0 : Int32)), none, none]) (Nat.le_of_ble_eq_true rfl) rfl ?_
        refine q_end ?_
        exact (ih dp d hdp _ _ (0 : Int32) 0 0 _ _ _).2.2.2.1 h
      · rw [if_neg c_11] at h
        refine q_iconst (0) (by decide) ?_
        refine q_istore (ls1 := [some (.ref 105), some (.int i1), some (.int (0 : Int32)), none]) (Nat.le_of_ble_eq_true rfl) rfl ?_
        refine q_end ?_
        exact (ih dp d hdp _ _ i1 (0 : Int32) 0 _ _ _).2.2.1 h
    · intro h
      rw [e_263_2] at h
      refine K_of b_263_16 h_263_16 ?_
      refine q_iload rfl ?_
      refine q_aload rfl ?_
      refine q_getI (c0 := 12) (j := 44) rfl rfl (zl hS 105 (by decide)) (sk hS 105 (by decide) rfl) (Or.inl rfl) (by decide) ?_
      refine q_icmp_ge (fun c_21 => ?_) (fun c_21 => ?_)
      · rw [if_pos c_21] at h
        refine K_of b_263_55 h_263_55 ?_
        refine q_iinc (ls1 := [some (.ref 105), some (.int (i1 + Int32.ofInt (1))), some (.int i2), none]) rfl rfl ?_
        refine q_goto ?_
        refine K_mask [true, true, false, false] (Nat.le_of_ble_eq_true rfl) ?_
        exact (ih dp d hdp _ _ (i1 + Int32.ofInt (1)) 0 0 _ _ _).2.1 h
      · rw [if_neg c_21] at h
        refine q_aload rfl ?_
        refine q_getRs (c0 := 12) (j := 47) rfl rfl (zl hS 105 (by decide)) (sk hS 105 (by decide) rfl) rfl (by decide) (r_105_47 hS) ?_
        refine q_iconst (59049) (by decide) ?_
        refine q_iload rfl ?_
        refine q_imul ?_
        refine q_iload rfl ?_
        refine q_iadd ?_
        refine q_iload rfl ?_
        refine q_if_ne (fun c_36 => ?_) (fun c_36 => ?_)
        · rw [if_neg c_36] at h
          refine K_of b_263_47 h_263_47 ?_
          refine q_iconst (0) (by decide) ?_
          refine q_end ?_
          refine K_of b_263_48 h_263_48 ?_
          obtain ⟨⟨u_48, v_48⟩, h⟩ := ite_some h
          refine q_zasN (Int32.toNatClampNeg (((59049 : Int32) * i1) + i2)) (nx u_48) (zl hS 131 (by decide)) (sk hS 131 (by decide) rfl) v_48 (by decide) (Or.inl rfl) ?_
          obtain ⟨I_48, nI_48, h⟩ := stI_some h
          refine q_nI nI_48 ?_
          refine q_iinc (ls1 := [some (.ref 105), some (.int i1), some (.int (i2 + Int32.ofInt (1))), none]) rfl rfl ?_
          refine q_goto ?_
          exact (ih dp d hdp _ _ i1 (i2 + Int32.ofInt (1)) 0 _ _ _).2.2.1 h
        · rw [if_pos c_36] at h
          refine q_iload rfl ?_
          refine q_if_ne (fun c_40 => ?_) (fun c_40 => ?_)
          · rw [if_neg c_40] at h
            refine K_of b_263_47 h_263_47 ?_
            refine q_iconst (0) (by decide) ?_
            refine q_end ?_
            refine K_of b_263_48 h_263_48 ?_
            obtain ⟨⟨u_48, v_48⟩, h⟩ := ite_some h
            refine q_zasN (Int32.toNatClampNeg (((59049 : Int32) * i1) + i2)) (nx u_48) (zl hS 131 (by decide)) (sk hS 131 (by decide) rfl) v_48 (by decide) (Or.inl rfl) ?_
            obtain ⟨I_48, nI_48, h⟩ := stI_some h
            refine q_nI nI_48 ?_
            refine q_iinc (ls1 := [some (.ref 105), some (.int i1), some (.int (i2 + Int32.ofInt (1))), none]) rfl rfl ?_
            refine q_goto ?_
            exact (ih dp d hdp _ _ i1 (i2 + Int32.ofInt (1)) 0 _ _ _).2.2.1 h
          · rw [if_pos c_40] at h
            refine q_iconst (1) (by decide) ?_
            refine q_goto ?_
            refine K_of b_263_48 h_263_48 ?_
            obtain ⟨⟨u_48, v_48⟩, h⟩ := ite_some h
            refine q_zasN (Int32.toNatClampNeg (((59049 : Int32) * i1) + i2)) (nx u_48) (zl hS 131 (by decide)) (sk hS 131 (by decide) rfl) v_48 (by decide) (Or.inr rfl) ?_
            obtain ⟨I_48, nI_48, h⟩ := stI_some h
            refine q_nI nI_48 ?_
            refine q_iinc (ls1 := [some (.ref 105), some (.int i1), some (.int (i2 + Int32.ofInt (1))), none]) rfl rfl ?_
            refine q_goto ?_
            exact (ih dp d hdp _ _ i1 (i2 + Int32.ofInt (1)) 0 _ _ _).2.2.1 h
    · intro h
      rw [e_263_3] at h
      refine K_of b_263_63 h_263_63 ?_
      refine q_iload rfl ?_
      refine q_aload rfl ?_
      refine q_getI (c0 := 12) (j := 40) rfl rfl (zl hS 105 (by decide)) (sk hS 105 (by decide) rfl) (Or.inl rfl) (by decide) ?_
      refine q_icmp_ge (fun c_68 => ?_) (fun c_68 => ?_)
      · rw [if_pos c_68] at h
        refine K_of b_263_161 h_263_161 ?_
        refine q_iconst (0) (by decide) ?_
        refine q_istore (ls1 := [some (.ref 105), some (.int (0 : Int32)), none, none]) (Nat.le_of_ble_eq_true rfl) rfl ?_
        refine q_end ?_
        exact (ih dp d hdp _ _ (0 : Int32) 0 0 _ _ _).2.2.2.2.2.2.2.1 h
      · rw [if_neg c_68] at h
        refine q_iconst (0) (by decide) ?_
        refine q_istore (ls1 := [some (.ref 105), some (.int i1), some (.int (0 : Int32)), none]) (Nat.le_of_ble_eq_true rfl) rfl ?_
        refine q_end ?_
        exact (ih dp d hdp _ _ i1 (0 : Int32) 0 _ _ _).2.2.2.2.1 h
    · intro h
      rw [e_263_4] at h
      refine K_of b_263_73 h_263_73 ?_
      refine q_iload rfl ?_
      refine q_aload rfl ?_
      refine q_getI (c0 := 12) (j := 44) rfl rfl (zl hS 105 (by decide)) (sk hS 105 (by decide) rfl) (Or.inl rfl) (by decide) ?_
      refine q_icmp_ge (fun c_78 => ?_) (fun c_78 => ?_)
      · rw [if_pos c_78] at h
        refine K_of b_263_155 h_263_155 ?_
        refine q_iinc (ls1 := [some (.ref 105), some (.int (i1 + Int32.ofInt (1))), some (.int i2), none]) rfl rfl ?_
        refine q_goto ?_
        refine K_mask [true, true, false, false] (Nat.le_of_ble_eq_true rfl) ?_
        exact (ih dp d hdp _ _ (i1 + Int32.ofInt (1)) 0 0 _ _ _).2.2.2.1 h
      · rw [if_neg c_78] at h
        refine q_aload rfl ?_
        refine q_getRs (c0 := 12) (j := 47) rfl rfl (zl hS 105 (by decide)) (sk hS 105 (by decide) rfl) rfl (by decide) (r_105_47 hS) ?_
        refine q_iconst (59049) (by decide) ?_
        refine q_iload rfl ?_
        refine q_imul ?_
        refine q_iload rfl ?_
        refine q_iadd ?_
        obtain ⟨⟨u_92, v_92⟩, h⟩ := ite_some h
        refine q_zalN (Int32.toNatClampNeg (((59049 : Int32) * i1) + i2)) (nx u_92) (zl hS 131 (by decide)) (sk hS 131 (by decide) rfl) v_92 (by decide) ?_
        refine q_if_eq (fun c_93 => ?_) (fun c_93 => ?_)
        · rw [if_pos c_93] at h
          exact (ih dp d hdp _ _ i1 i2 0 _ _ _).2.2.2.2.2.2.1 h
        · rw [if_neg c_93] at h
          refine q_aload rfl ?_
          refine q_iload rfl ?_
          obtain ⟨d_98, h⟩ := ite_some h
          obtain ⟨⟨I0_98, L0_98⟩, e_98, h⟩ := Option.bind_eq_some_iff.mp h
          dsimp only at h
          refine q_fv2V (a_265 X hS (d := d - 1) (by omega) e_98) (by omega) (Nat.le_refl _) (Nat.le_refl _) rfl (Nat.le_of_ble_eq_true rfl) ⟨(zl hS 105 (by decide)), congrArg Prod.fst (sk hS 105 (by decide) rfl), by decide⟩ ?_
          refine q_iconst (0) (by decide) ?_
          refine q_istore (ls1 := [some (.ref 105), some (.int i1), some (.int i2), some (.int (0 : Int32))]) (Nat.le_of_ble_eq_true rfl) rfl ?_
          refine q_end ?_
          exact (ih dp d hdp _ _ i1 i2 (0 : Int32) _ _ _).2.2.2.2.2.1 h
    · intro h
      rw [e_263_5] at h
      refine K_of b_263_103 h_263_103 ?_
      refine q_iload rfl ?_
      refine q_aload rfl ?_
      refine q_getRs (c0 := 12) (j := 33) rfl rfl (zl hS 105 (by decide)) (sk hS 105 (by decide) rfl) rfl (by decide) (r_105_33 hS) ?_
      refine q_aload rfl ?_
      refine q_getRs (c0 := 12) (j := 39) rfl rfl (zl hS 105 (by decide)) (sk hS 105 (by decide) rfl) rfl (by decide) (r_105_39 hS) ?_
      refine q_iload rfl ?_
      obtain ⟨⟨u_113, v_113⟩, h⟩ := ite_some h
      refine q_ialN (Int32.toNatClampNeg i1) (nx u_113) (zl hS 126 (by decide)) (sk hS 126 (by decide) rfl) v_113 (by decide) ?_
      obtain ⟨⟨u_114, v_114⟩, h⟩ := ite_some h
      refine q_ialN (Int32.toNatClampNeg (I 126 (Int32.toNatClampNeg i1))) (nx u_114) (zl hS 120 (by decide)) (sk hS 120 (by decide) rfl) v_114 (by decide) ?_
      refine q_icmp_ge (fun c_115 => ?_) (fun c_115 => ?_)
      · rw [if_pos c_115] at h
        refine K_mask [true, true, true, false] (Nat.le_of_ble_eq_true rfl) ?_
        exact (ih dp d hdp _ _ i1 i2 0 _ _ _).2.2.2.2.2.2.1 h
      · rw [if_neg c_115] at h
        refine q_aload rfl ?_
        refine q_getRs (c0 := 12) (j := 47) rfl rfl (zl hS 105 (by decide)) (sk hS 105 (by decide) rfl) rfl (by decide) (r_105_47 hS) ?_
        refine q_iconst (59049) (by decide) ?_
        refine q_iload rfl ?_
        refine q_iconst (1) (by decide) ?_
        refine q_iadd ?_
        refine q_imul ?_
        refine q_aload rfl ?_
        refine q_aload rfl ?_
        refine q_getRs (c0 := 12) (j := 39) rfl rfl (zl hS 105 (by decide)) (sk hS 105 (by decide) rfl) rfl (by decide) (r_105_39 hS) ?_
        refine q_iload rfl ?_
        obtain ⟨⟨u_135, v_135⟩, h⟩ := ite_some h
        refine q_ialN (Int32.toNatClampNeg i1) (nx u_135) (zl hS 126 (by decide)) (sk hS 126 (by decide) rfl) v_135 (by decide) ?_
        refine q_iload rfl ?_
        obtain ⟨d_137, h⟩ := ite_some h
        obtain ⟨⟨x0_137, I0_137, L0_137⟩, e_137, h⟩ := Option.bind_eq_some_iff.mp h
        dsimp only at h
        refine q_fv3I (a_266 X hS (d := d - 1) (by omega) e_137) (by omega) (Nat.le_refl _) (Nat.le_refl _) rfl (Nat.le_of_ble_eq_true rfl) ⟨(zl hS 105 (by decide)), congrArg Prod.fst (sk hS 105 (by decide) rfl), by decide⟩ ?_
        refine q_iadd ?_
        refine q_iconst (1) (by decide) ?_
        obtain ⟨⟨u_142, v_142⟩, h⟩ := ite_some h
        refine q_zasN (Int32.toNatClampNeg (((59049 : Int32) * (i1 + (1 : Int32))) + x0_137)) (nx u_142) (zl hS 131 (by decide)) (sk hS 131 (by decide) rfl) v_142 (by decide) (Or.inr rfl) ?_
        obtain ⟨I_142, nI_142, h⟩ := stI_some h
        refine q_nI nI_142 ?_
        refine q_iinc (ls1 := [some (.ref 105), some (.int i1), some (.int i2), some (.int (i3 + Int32.ofInt (1)))]) rfl rfl ?_
        refine q_goto ?_
        exact (ih dp d hdp _ _ i1 i2 (i3 + Int32.ofInt (1)) _ _ _).2.2.2.2.2.1 h
    · intro h
      rw [e_263_6] at h
      refine K_of b_263_149 h_263_149 ?_
      refine q_iinc (ls1 := [some (.ref 105), some (.int i1), some (.int (i2 + Int32.ofInt (1))), none]) rfl rfl ?_
      refine q_goto ?_
      exact (ih dp d hdp _ _ i1 (i2 + Int32.ofInt (1)) 0 _ _ _).2.2.2.2.1 h
    · intro h
      rw [e_263_7] at h
      refine K_of b_263_163 h_263_163 ?_
      refine q_iload rfl ?_
      refine q_aload rfl ?_
      refine q_getI (c0 := 12) (j := 44) rfl rfl (zl hS 105 (by decide)) (sk hS 105 (by decide) rfl) (Or.inl rfl) (by decide) ?_
      refine q_icmp_ge (fun c_168 => ?_) (fun c_168 => ?_)
      · rw [if_pos c_168] at h
        refine K_of b_263_276 h_263_276 ?_
        refine q_aload rfl ?_
        refine q_getI (c0 := 12) (j := 40) rfl rfl (zl hS 105 (by decide)) (sk hS 105 (by decide) rfl) (Or.inl rfl) (by decide) ?_
        refine q_iconst (1) (by decide) ?_
        refine q_isub ?_
        obtain ⟨v_282, nv_282, h⟩ := stI_some h
        refine q_eqi nv_282.symm ?_
        refine q_istore (ls1 := [some (.ref 105), some (.int v_282), none, none]) (Nat.le_of_ble_eq_true rfl) rfl ?_
        refine q_end ?_
        exact (ih dp d hdp _ _ v_282 0 0 _ _ _).2.2.2.2.2.2.2.2.2.1 h
      · rw [if_neg c_168] at h
        refine q_aload rfl ?_
        refine q_iload rfl ?_
        obtain ⟨d_173, h⟩ := ite_some h
        obtain ⟨⟨I0_173, L0_173⟩, e_173, h⟩ := Option.bind_eq_some_iff.mp h
        dsimp only at h
        refine q_fv2V (a_265 X hS (d := d - 1) (by omega) e_173) (by omega) (Nat.le_refl _) (Nat.le_refl _) rfl (Nat.le_of_ble_eq_true rfl) ⟨(zl hS 105 (by decide)), congrArg Prod.fst (sk hS 105 (by decide) rfl), by decide⟩ ?_
        refine q_iconst (0) (by decide) ?_
        refine q_istore (ls1 := [some (.ref 105), some (.int i1), some (.int (0 : Int32)), none]) (Nat.le_of_ble_eq_true rfl) rfl ?_
        refine q_iconst (0) (by decide) ?_
        refine q_istore (ls1 := [some (.ref 105), some (.int i1), some (.int (0 : Int32)), some (.int (0 : Int32))]) (Nat.le_of_ble_eq_true rfl) rfl ?_
        refine q_end ?_
        exact (ih dp d hdp _ _ i1 (0 : Int32) (0 : Int32) _ _ _).2.2.2.2.2.2.2.2.1 h
    · intro h
      rw [e_263_8] at h
      refine K_of b_263_180 h_263_180 ?_
      refine q_iload rfl ?_
      refine q_aload rfl ?_
      refine q_getI (c0 := 12) (j := 43) rfl rfl (zl hS 105 (by decide)) (sk hS 105 (by decide) rfl) (Or.inl rfl) (by decide) ?_
      refine q_icmp_ge (fun c_185 => ?_) (fun c_185 => ?_)
      · rw [if_pos c_185] at h
        refine K_of b_263_233 h_263_233 ?_
        refine q_aload rfl ?_
        refine q_getRs (c0 := 12) (j := 45) rfl rfl (zl hS 105 (by decide)) (sk hS 105 (by decide) rfl) rfl (by decide) (r_105_45 hS) ?_
        refine q_iconst (59049) (by decide) ?_
        refine q_aload rfl ?_
        refine q_getI (c0 := 12) (j := 40) rfl rfl (zl hS 105 (by decide)) (sk hS 105 (by decide) rfl) (Or.inl rfl) (by decide) ?_
        refine q_imul ?_
        refine q_iload rfl ?_
        refine q_iadd ?_
        refine q_aload rfl ?_
        refine q_getI (c0 := 12) (j := 48) rfl rfl (zl hS 105 (by decide)) (sk hS 105 (by decide) rfl) (Or.inl rfl) (by decide) ?_
        refine q_iload rfl ?_
        refine q_imul ?_
        obtain ⟨⟨u_253, v_253⟩, h⟩ := ite_some h
        refine q_iasN (Int32.toNatClampNeg (((59049 : Int32) * (I 105 40)) + i1)) (nx u_253) (zl hS 129 (by decide)) (sk hS 129 (by decide) rfl) v_253 (by decide) ?_
        obtain ⟨I_253, nI_253, h⟩ := stI_some h
        refine q_nI nI_253 ?_
        refine q_aload rfl ?_
        refine q_getRs (c0 := 12) (j := 46) rfl rfl (zl hS 105 (by decide)) (sk hS 105 (by decide) rfl) rfl (by decide) (r_105_46 hS) ?_
        refine q_iconst (59049) (by decide) ?_
        refine q_aload rfl ?_
        refine q_getI (c0 := 12) (j := 40) rfl rfl (zl hS 105 (by decide)) (sk hS 105 (by decide) rfl) (Or.inl rfl) (by decide) ?_
        refine q_imul ?_
        refine q_iload rfl ?_
        refine q_iadd ?_
        refine q_iconst (1) (by decide) ?_
        obtain ⟨⟨u_269, v_269⟩, h⟩ := ite_some h
        refine q_iasN (Int32.toNatClampNeg (((59049 : Int32) * (I_253 105 40)) + i1)) (nx u_269) (zl hS 130 (by decide)) (sk hS 130 (by decide) rfl) v_269 (by decide) ?_
        obtain ⟨I_269, nI_269, h⟩ := stI_some h
        refine q_nI nI_269 ?_
        refine q_iinc (ls1 := [some (.ref 105), some (.int (i1 + Int32.ofInt (1))), some (.int i2), some (.int i3)]) rfl rfl ?_
        refine q_goto ?_
        refine K_mask [true, true, false, false] (Nat.le_of_ble_eq_true rfl) ?_
        exact (ih dp d hdp _ _ (i1 + Int32.ofInt (1)) 0 0 _ _ _).2.2.2.2.2.2.2.1 h
      · rw [if_neg c_185] at h
        refine q_iload rfl ?_
        refine q_aload rfl ?_
        refine q_getRs (c0 := 12) (j := 50) rfl rfl (zl hS 105 (by decide)) (sk hS 105 (by decide) rfl) rfl (by decide) (r_105_50 hS) ?_
        refine q_iload rfl ?_
        obtain ⟨⟨u_194, v_194⟩, h⟩ := ite_some h
        refine q_ialN (Int32.toNatClampNeg i3) (nx u_194) (zl hS 133 (by decide)) (sk hS 133 (by decide) rfl) v_194 (by decide) ?_
        refine q_aload rfl ?_
        refine q_getRs (c0 := 12) (j := 3) rfl rfl (zl hS 105 (by decide)) (sk hS 105 (by decide) rfl) rfl (by decide) (r_105_3 hS) ?_
        refine q_iconst (40) (by decide) ?_
        refine q_aload rfl ?_
        refine q_getRs (c0 := 12) (j := 42) rfl rfl (zl hS 105 (by decide)) (sk hS 105 (by decide) rfl) rfl (by decide) (r_105_42 hS) ?_
        refine q_iload rfl ?_
        obtain ⟨⟨u_206, v_206⟩, h⟩ := ite_some h
        refine q_ialN (Int32.toNatClampNeg i3) (nx u_206) (zl hS 128 (by decide)) (sk hS 128 (by decide) rfl) v_206 (by decide) ?_
        refine q_iadd ?_
        obtain ⟨⟨u_208, v_208⟩, h⟩ := ite_some h
        refine q_ialN (Int32.toNatClampNeg ((40 : Int32) + (I 128 (Int32.toNatClampNeg i3)))) (nx u_208) (zl hS 107 (by decide)) (sk hS 107 (by decide) rfl) v_208 (by decide) ?_
        refine q_aload rfl ?_
        refine q_getRs (c0 := 12) (j := 3) rfl rfl (zl hS 105 (by decide)) (sk hS 105 (by decide) rfl) rfl (by decide) (r_105_3 hS) ?_
        refine q_iconst (50) (by decide) ?_
        refine q_aload rfl ?_
        refine q_getRs (c0 := 12) (j := 42) rfl rfl (zl hS 105 (by decide)) (sk hS 105 (by decide) rfl) rfl (by decide) (r_105_42 hS) ?_
        refine q_iload rfl ?_
        obtain ⟨⟨u_220, v_220⟩, h⟩ := ite_some h
        refine q_ialN (Int32.toNatClampNeg i3) (nx u_220) (zl hS 128 (by decide)) (sk hS 128 (by decide) rfl) v_220 (by decide) ?_
        refine q_iadd ?_
        obtain ⟨⟨u_222, v_222⟩, h⟩ := ite_some h
        refine q_ialN (Int32.toNatClampNeg ((50 : Int32) + (I 128 (Int32.toNatClampNeg i3)))) (nx u_222) (zl hS 107 (by decide)) (sk hS 107 (by decide) rfl) v_222 (by decide) ?_
        refine q_isub ?_
        refine q_imul ?_
        refine q_iadd ?_
        obtain ⟨v_226, nv_226, h⟩ := stI_some h
        refine q_eqi nv_226.symm ?_
        refine q_istore (ls1 := [some (.ref 105), some (.int i1), some (.int v_226), some (.int i3)]) (Nat.le_of_ble_eq_true rfl) rfl ?_
        refine q_iinc (ls1 := [some (.ref 105), some (.int i1), some (.int v_226), some (.int (i3 + Int32.ofInt (1)))]) rfl rfl ?_
        refine q_goto ?_
        exact (ih dp d hdp _ _ i1 v_226 (i3 + Int32.ofInt (1)) _ _ _).2.2.2.2.2.2.2.2.1 h
    · intro h
      rw [e_263_9] at h
      refine K_of b_263_283 h_263_283 ?_
      refine q_iload rfl ?_
      refine q_if_lt (fun c_284 => ?_) (fun c_284 => ?_)
      · rw [if_pos c_284] at h
        refine K_of b_263_330 h_263_330 ?_
        refine q_aload rfl ?_
        refine q_getRs (c0 := 12) (j := 45) rfl rfl (zl hS 105 (by decide)) (sk hS 105 (by decide) rfl) rfl (by decide) (r_105_45 hS) ?_
        refine q_iconst (0) (by decide) ?_
        refine q_ialN (0) rfl (zl hS 129 (by decide)) (sk hS 129 (by decide) rfl) (by decide) (by decide) ?_
        cases h
        exact q_iret rfl (Nat.le_refl _) (Nat.le_refl _) ⟨rfl, rfl⟩
      · rw [if_neg c_284] at h
        refine q_iconst (0) (by decide) ?_
        refine q_istore (ls1 := [some (.ref 105), some (.int i1), some (.int (0 : Int32)), none]) (Nat.le_of_ble_eq_true rfl) rfl ?_
        refine q_end ?_
        exact (ih dp d hdp _ _ i1 (0 : Int32) 0 _ _ _).2.2.2.2.2.2.2.2.2.2.1 h
    · intro h
      rw [e_263_10] at h
      refine K_of b_263_289 h_263_289 ?_
      refine q_iload rfl ?_
      refine q_aload rfl ?_
      refine q_getI (c0 := 12) (j := 44) rfl rfl (zl hS 105 (by decide)) (sk hS 105 (by decide) rfl) (Or.inl rfl) (by decide) ?_
      refine q_icmp_ge (fun c_294 => ?_) (fun c_294 => ?_)
      · rw [if_pos c_294] at h
        refine K_of b_263_324 h_263_324 ?_
        refine q_iinc (ls1 := [some (.ref 105), some (.int (i1 + Int32.ofInt (-1))), some (.int i2), none]) rfl rfl ?_
        refine q_goto ?_
        refine K_mask [true, true, false, false] (Nat.le_of_ble_eq_true rfl) ?_
        exact (ih dp d hdp _ _ (i1 + Int32.ofInt (-1)) 0 0 _ _ _).2.2.2.2.2.2.2.2.2.1 h
      · rw [if_neg c_294] at h
        refine q_aload rfl ?_
        refine q_getRs (c0 := 12) (j := 47) rfl rfl (zl hS 105 (by decide)) (sk hS 105 (by decide) rfl) rfl (by decide) (r_105_47 hS) ?_
        refine q_iconst (59049) (by decide) ?_
        refine q_iload rfl ?_
        refine q_imul ?_
        refine q_iload rfl ?_
        refine q_iadd ?_
        obtain ⟨⟨u_308, v_308⟩, h⟩ := ite_some h
        refine q_zalN (Int32.toNatClampNeg (((59049 : Int32) * i1) + i2)) (nx u_308) (zl hS 131 (by decide)) (sk hS 131 (by decide) rfl) v_308 (by decide) ?_
        refine q_if_eq (fun c_309 => ?_) (fun c_309 => ?_)
        · rw [if_pos c_309] at h
          exact (ih dp d hdp _ _ i1 i2 0 _ _ _).2.2.2.2.2.2.2.2.2.2.2 h
        · rw [if_neg c_309] at h
          refine q_aload rfl ?_
          refine q_iload rfl ?_
          refine q_iload rfl ?_
          obtain ⟨d_315, h⟩ := ite_some h
          obtain ⟨⟨I0_315, L0_315⟩, e_315, h⟩ := Option.bind_eq_some_iff.mp h
          dsimp only at h
          refine q_fv3V (a_267 X hS (d := d - 1) (by omega) e_315) (by omega) (Nat.le_refl _) (Nat.le_refl _) rfl (Nat.le_of_ble_eq_true rfl) ⟨(zl hS 105 (by decide)), congrArg Prod.fst (sk hS 105 (by decide) rfl), by decide⟩ ?_
          refine q_end ?_
          exact (ih dp d hdp _ _ i1 i2 0 _ _ _).2.2.2.2.2.2.2.2.2.2.2 h
    · intro h
      rw [e_263_11] at h
      refine K_of b_263_318 h_263_318 ?_
      refine q_iinc (ls1 := [some (.ref 105), some (.int i1), some (.int (i2 + Int32.ofInt (1))), none]) rfl rfl ?_
      refine q_goto ?_
      exact (ih dp d hdp _ _ i1 (i2 + Int32.ofInt (1)) 0 _ _ _).2.2.2.2.2.2.2.2.2.2.1 h
theorem a_263 (X : GX) {z : Nat} {kd : Nat → Nat × Nat} {Rf : Nat → Nat → Option Nat} (hS : Sh z kd Rf) {n dp d : Nat} (hd : dp ≤ d) {I : (Nat → Nat → Int32)} {L : (Nat → Nat → Int64)} {I1 : (Nat → Nat → Int32)} {L1 : (Nat → Nat → Int64)} {r : Int32} (h : g_263 n dp (z, kd, Rf) 0 I L 0 0 0 = some (r, I1, L1)) : Ct X d 263 0 0 [.ref 105] (z, kd, I, L, Rf) (AI (fun x τ => x = r ∧ τ = (z, kd, I1, L1, Rf))) :=
  Ct_of mu_263 (Nat.le_of_ble_eq_true rfl) ((w_263 X hS n dp d hd I L 0 0 0 _ _ _).1 h)

/-! 261 CutFloorModel.findPlan()Z -/
set_option maxHeartbeats 4000000 in
set_option maxRecDepth 100000 in
def g_261 : Nat → Nat → EN → Nat → (Nat → Nat → Int32) → (Nat → Nat → Int64) → Int32 → Int32 → Int32 → Int32 →  Option (Int32 × (Nat → Nat → Int32) × (Nat → Nat → Int64))
  | 0, _, _, _, _, _, _, _, _, _ => none
  | n + 1, dp, e, lab, I, L, i1, i2, i3, i4 =>
    if lab = 0 then (if (I 105 51) = 0 then (stI (u2 I 105 51 (1 : Int32)) (fun I_14 => (if 1 ≤ dp then (g_262 n (dp - 1) e 0 I_14 L (I_14 107 0) (I_14 107 1) (I_14 107 2) 0 0 0).bind (fun ⟨x0_37, I0_37, L0_37⟩ => (if x0_37 = 0 ∨ x0_37 = 1 then (stI (u2 I0_37 105 52 x0_37) (fun I_40 => (if (I_40 105 52) = 0 then (some ((0 : Int32), I_40, L0_37)) else (if 1 ≤ dp then (g_263 n (dp - 1) e 0 I_40 L0_37 0 0 0).bind (fun ⟨x1_54, I1_54, L1_54⟩ => (stI (u2 I1_54 105 53 x1_54) (fun I_57 => (stI (u2 I_57 105 54 (I_57 130 0)) (fun I_67 => (g_261 n dp e 1 I_67 L1_54 (0 : Int32) (0 : Int32) 0 0)))))) else none)))) else none)) else none))) else (if (I 105 52) = 0 ∨ (I 105 52) = 1 then (some ((I 105 52), I, L)) else none))
    else if lab = 1 then (if (10 : Int32) ≤ i2 then (g_261 n dp e 2 I L i1 (0 : Int32) 0 0) else (if 0 ≤ i2 ∧ (Int32.toNatClampNeg i2) < 10 then (stI (u2 I 135 (Int32.toNatClampNeg i2) (0 : Int32)) (fun I_86 => (g_261 n dp e 1 I_86 L i1 (i2 + Int32.ofInt (1)) 0 0))) else none))
    else if lab = 2 then (if (I 105 40) ≤ i2 then (some ((1 : Int32), I, L)) else (if 1 ≤ dp then (g_265 n (dp - 1) e 0 I L i1 0 0).bind (fun ⟨I0_105, L0_105⟩ => (g_261 n dp e 3 I0_105 L0_105 i1 i2 (0 : Int32) 0)) else none))
    else if lab = 3 then (if 1 ≤ dp then (g_268 n (dp - 1) e 0 I L i2 i3).bind (fun ⟨x0_113, I0_113, L0_113⟩ => (if 0 ≤ i2 ∧ (Int32.toNatClampNeg i2) < 8 then (if 1 ≤ dp then (g_266 n (dp - 1) e 0 I0_113 L0_113 (I0_113 126 (Int32.toNatClampNeg i2)) i3 0 0 0).bind (fun ⟨x1_135, I1_135, L1_135⟩ => (if 0 ≤ (((59049 : Int32) * (i2 + (1 : Int32))) + x1_135) ∧ (Int32.toNatClampNeg (((59049 : Int32) * (i2 + (1 : Int32))) + x1_135)) < 531441 then (if 0 ≤ (((59049 : Int32) * i2) + i1) ∧ (Int32.toNatClampNeg (((59049 : Int32) * i2) + i1)) < 531441 then (if (x0_113 + (I1_135 129 (Int32.toNatClampNeg (((59049 : Int32) * (i2 + (1 : Int32))) + x1_135)))) = (I1_135 129 (Int32.toNatClampNeg (((59049 : Int32) * i2) + i1))) then (if 0 ≤ i2 ∧ (Int32.toNatClampNeg i2) < 8 then (stI (u2 I1_135 134 (Int32.toNatClampNeg i2) i3) (fun I_168 => (if 0 ≤ i2 ∧ (Int32.toNatClampNeg i2) < 8 then (if 1 ≤ dp then (g_266 n (dp - 1) e 0 I_168 L1_135 (I_168 126 (Int32.toNatClampNeg i2)) i3 0 0 0).bind (fun ⟨x2_177, I2_177, L2_177⟩ => (g_261 n dp e 4 I2_177 L2_177 x2_177 i2 i3 (0 : Int32))) else none) else none))) else none) else (g_261 n dp e 3 I1_135 L1_135 i1 i2 (i3 + Int32.ofInt (1)) 0)) else none) else none)) else none) else none)) else none)
    else if lab = 4 then (if (10 : Int32) ≤ i4 then (g_261 n dp e 2 I L i1 (i2 + Int32.ofInt (1)) 0 0) else (if 0 ≤ i4 ∧ (Int32.toNatClampNeg i4) < 10 then (if 0 ≤ i2 ∧ (Int32.toNatClampNeg i2) < 8 then (if 0 ≤ ((((640 : Int32) * (I 126 (Int32.toNatClampNeg i2))) + ((10 : Int32) * i3)) + i4) ∧ (Int32.toNatClampNeg ((((640 : Int32) * (I 126 (Int32.toNatClampNeg i2))) + ((10 : Int32) * i3)) + i4)) < 1920 then (if 0 ≤ i4 ∧ (Int32.toNatClampNeg i4) < 10 then (stI (u2 I 135 (Int32.toNatClampNeg i4) ((I 135 (Int32.toNatClampNeg i4)) + (I 122 (Int32.toNatClampNeg ((((640 : Int32) * (I 126 (Int32.toNatClampNeg i2))) + ((10 : Int32) * i3)) + i4))))) (fun I_223 => (g_261 n dp e 4 I_223 L i1 i2 i3 (i4 + Int32.ofInt (1))))) else none) else none) else none) else none))
    else none
set_option maxRecDepth 100000 in
theorem e_261_0 (n dp : Nat) (e : EN) (I : (Nat → Nat → Int32)) (L : (Nat → Nat → Int64)) (i1 : Int32) (i2 : Int32) (i3 : Int32) (i4 : Int32) : g_261 (n + 1) dp e 0 I L i1 i2 i3 i4 = (if (I 105 51) = 0 then (stI (u2 I 105 51 (1 : Int32)) (fun I_14 => (if 1 ≤ dp then (g_262 n (dp - 1) e 0 I_14 L (I_14 107 0) (I_14 107 1) (I_14 107 2) 0 0 0).bind (fun ⟨x0_37, I0_37, L0_37⟩ => (if x0_37 = 0 ∨ x0_37 = 1 then (stI (u2 I0_37 105 52 x0_37) (fun I_40 => (if (I_40 105 52) = 0 then (some ((0 : Int32), I_40, L0_37)) else (if 1 ≤ dp then (g_263 n (dp - 1) e 0 I_40 L0_37 0 0 0).bind (fun ⟨x1_54, I1_54, L1_54⟩ => (stI (u2 I1_54 105 53 x1_54) (fun I_57 => (stI (u2 I_57 105 54 (I_57 130 0)) (fun I_67 => (g_261 n dp e 1 I_67 L1_54 (0 : Int32) (0 : Int32) 0 0)))))) else none)))) else none)) else none))) else (if (I 105 52) = 0 ∨ (I 105 52) = 1 then (some ((I 105 52), I, L)) else none)) := by rw [g_261.eq_2, if_pos (show (0 : Nat) = 0 from rfl)]
set_option maxRecDepth 100000 in
theorem e_261_1 (n dp : Nat) (e : EN) (I : (Nat → Nat → Int32)) (L : (Nat → Nat → Int64)) (i1 : Int32) (i2 : Int32) (i3 : Int32) (i4 : Int32) : g_261 (n + 1) dp e 1 I L i1 i2 i3 i4 = (if (10 : Int32) ≤ i2 then (g_261 n dp e 2 I L i1 (0 : Int32) 0 0) else (if 0 ≤ i2 ∧ (Int32.toNatClampNeg i2) < 10 then (stI (u2 I 135 (Int32.toNatClampNeg i2) (0 : Int32)) (fun I_86 => (g_261 n dp e 1 I_86 L i1 (i2 + Int32.ofInt (1)) 0 0))) else none)) := by rw [g_261.eq_2, if_neg (show ¬ ((1 : Nat) = 0) by decide), if_pos (show (1 : Nat) = 1 from rfl)]
set_option maxRecDepth 100000 in
theorem e_261_2 (n dp : Nat) (e : EN) (I : (Nat → Nat → Int32)) (L : (Nat → Nat → Int64)) (i1 : Int32) (i2 : Int32) (i3 : Int32) (i4 : Int32) : g_261 (n + 1) dp e 2 I L i1 i2 i3 i4 = (if (I 105 40) ≤ i2 then (some ((1 : Int32), I, L)) else (if 1 ≤ dp then (g_265 n (dp - 1) e 0 I L i1 0 0).bind (fun ⟨I0_105, L0_105⟩ => (g_261 n dp e 3 I0_105 L0_105 i1 i2 (0 : Int32) 0)) else none)) := by rw [g_261.eq_2, if_neg (show ¬ ((2 : Nat) = 0) by decide), if_neg (show ¬ ((2 : Nat) = 1) by decide), if_pos (show (2 : Nat) = 2 from rfl)]
set_option maxRecDepth 100000 in
theorem e_261_3 (n dp : Nat) (e : EN) (I : (Nat → Nat → Int32)) (L : (Nat → Nat → Int64)) (i1 : Int32) (i2 : Int32) (i3 : Int32) (i4 : Int32) : g_261 (n + 1) dp e 3 I L i1 i2 i3 i4 = (if 1 ≤ dp then (g_268 n (dp - 1) e 0 I L i2 i3).bind (fun ⟨x0_113, I0_113, L0_113⟩ => (if 0 ≤ i2 ∧ (Int32.toNatClampNeg i2) < 8 then (if 1 ≤ dp then (g_266 n (dp - 1) e 0 I0_113 L0_113 (I0_113 126 (Int32.toNatClampNeg i2)) i3 0 0 0).bind (fun ⟨x1_135, I1_135, L1_135⟩ => (if 0 ≤ (((59049 : Int32) * (i2 + (1 : Int32))) + x1_135) ∧ (Int32.toNatClampNeg (((59049 : Int32) * (i2 + (1 : Int32))) + x1_135)) < 531441 then (if 0 ≤ (((59049 : Int32) * i2) + i1) ∧ (Int32.toNatClampNeg (((59049 : Int32) * i2) + i1)) < 531441 then (if (x0_113 + (I1_135 129 (Int32.toNatClampNeg (((59049 : Int32) * (i2 + (1 : Int32))) + x1_135)))) = (I1_135 129 (Int32.toNatClampNeg (((59049 : Int32) * i2) + i1))) then (if 0 ≤ i2 ∧ (Int32.toNatClampNeg i2) < 8 then (stI (u2 I1_135 134 (Int32.toNatClampNeg i2) i3) (fun I_168 => (if 0 ≤ i2 ∧ (Int32.toNatClampNeg i2) < 8 then (if 1 ≤ dp then (g_266 n (dp - 1) e 0 I_168 L1_135 (I_168 126 (Int32.toNatClampNeg i2)) i3 0 0 0).bind (fun ⟨x2_177, I2_177, L2_177⟩ => (g_261 n dp e 4 I2_177 L2_177 x2_177 i2 i3 (0 : Int32))) else none) else none))) else none) else (g_261 n dp e 3 I1_135 L1_135 i1 i2 (i3 + Int32.ofInt (1)) 0)) else none) else none)) else none) else none)) else none) := by rw [g_261.eq_2, if_neg (show ¬ ((3 : Nat) = 0) by decide), if_neg (show ¬ ((3 : Nat) = 1) by decide), if_neg (show ¬ ((3 : Nat) = 2) by decide), if_pos (show (3 : Nat) = 3 from rfl)]
set_option maxRecDepth 100000 in
theorem e_261_4 (n dp : Nat) (e : EN) (I : (Nat → Nat → Int32)) (L : (Nat → Nat → Int64)) (i1 : Int32) (i2 : Int32) (i3 : Int32) (i4 : Int32) : g_261 (n + 1) dp e 4 I L i1 i2 i3 i4 = (if (10 : Int32) ≤ i4 then (g_261 n dp e 2 I L i1 (i2 + Int32.ofInt (1)) 0 0) else (if 0 ≤ i4 ∧ (Int32.toNatClampNeg i4) < 10 then (if 0 ≤ i2 ∧ (Int32.toNatClampNeg i2) < 8 then (if 0 ≤ ((((640 : Int32) * (I 126 (Int32.toNatClampNeg i2))) + ((10 : Int32) * i3)) + i4) ∧ (Int32.toNatClampNeg ((((640 : Int32) * (I 126 (Int32.toNatClampNeg i2))) + ((10 : Int32) * i3)) + i4)) < 1920 then (if 0 ≤ i4 ∧ (Int32.toNatClampNeg i4) < 10 then (stI (u2 I 135 (Int32.toNatClampNeg i4) ((I 135 (Int32.toNatClampNeg i4)) + (I 122 (Int32.toNatClampNeg ((((640 : Int32) * (I 126 (Int32.toNatClampNeg i2))) + ((10 : Int32) * i3)) + i4))))) (fun I_223 => (g_261 n dp e 4 I_223 L i1 i2 i3 (i4 + Int32.ofInt (1))))) else none) else none) else none) else none)) := by rw [g_261.eq_2, if_neg (show ¬ ((4 : Nat) = 0) by decide), if_neg (show ¬ ((4 : Nat) = 1) by decide), if_neg (show ¬ ((4 : Nat) = 2) by decide), if_neg (show ¬ ((4 : Nat) = 3) by decide), if_pos (show (4 : Nat) = 4 from rfl)]
set_option maxHeartbeats 8000000 in
set_option maxRecDepth 100000 in
theorem w_261 (X : GX) {z : Nat} {kd : Nat → Nat × Nat} {Rf : Nat → Nat → Option Nat} (hS : Sh z kd Rf) : ∀ (n dp d : Nat), dp ≤ d → ∀ (I : (Nat → Nat → Int32)) (L : (Nat → Nat → Int64)) (i1 : Int32) (i2 : Int32) (i3 : Int32) (i4 : Int32) (r : Int32) (I1 : (Nat → Nat → Int32)) (L1 : (Nat → Nat → Int64)), (g_261 n dp (z, kd, Rf) 0 I L i1 i2 i3 i4 = some (r, I1, L1) → K X d 261 0 0 (AI (fun x τ => x = r ∧ τ = (z, kd, I1, L1, Rf))) 0 [some (.ref 105), none, none, none, none] [] (z, kd, I, L, Rf) 0 0) ∧
    (g_261 n dp (z, kd, Rf) 1 I L i1 i2 i3 i4 = some (r, I1, L1) → K X d 261 0 0 (AI (fun x τ => x = r ∧ τ = (z, kd, I1, L1, Rf))) 74 [some (.ref 105), some (.int i1), some (.int i2), none, none] [] (z, kd, I, L, Rf) 0 0) ∧
    (g_261 n dp (z, kd, Rf) 2 I L i1 i2 i3 i4 = some (r, I1, L1) → K X d 261 0 0 (AI (fun x τ => x = r ∧ τ = (z, kd, I1, L1, Rf))) 95 [some (.ref 105), some (.int i1), some (.int i2), none, none] [] (z, kd, I, L, Rf) 0 0) ∧
    (g_261 n dp (z, kd, Rf) 3 I L i1 i2 i3 i4 = some (r, I1, L1) → K X d 261 0 0 (AI (fun x τ => x = r ∧ τ = (z, kd, I1, L1, Rf))) 110 [some (.ref 105), some (.int i1), some (.int i2), some (.int i3), none] [] (z, kd, I, L, Rf) 0 0) ∧
    (g_261 n dp (z, kd, Rf) 4 I L i1 i2 i3 i4 = some (r, I1, L1) → K X d 261 0 0 (AI (fun x τ => x = r ∧ τ = (z, kd, I1, L1, Rf))) 184 [some (.ref 105), some (.int i1), some (.int i2), some (.int i3), some (.int i4)] [] (z, kd, I, L, Rf) 0 0) := by
  intro n
  induction n with
  | zero => intro dp d hdp I L i1 i2 i3 i4 r I1 L1; exact ⟨(fun h => by cases h), (fun h => by cases h), (fun h => by cases h), (fun h => by cases h), (fun h => by cases h)⟩
  | succ n ih =>
    intro dp d hdp I L i1 i2 i3 i4 r I1 L1
    refine ⟨?_, ?_, ?_, ?_, ?_⟩
    · intro h
      rw [e_261_0] at h
      refine K_of b_261_0 h_261_0 ?_
      refine q_aload rfl ?_
      refine q_getI (c0 := 12) (j := 51) rfl rfl (zl hS 105 (by decide)) (sk hS 105 (by decide) rfl) (Or.inr rfl) (by decide) ?_
      refine q_if_eq (fun c_4 => ?_) (fun c_4 => ?_)
      · rw [if_pos c_4] at h
        refine K_of b_261_12 h_261_12 ?_
        refine q_aload rfl ?_
        refine q_iconst (1) (by decide) ?_
        refine q_putZ (c0 := 12) (j := 51) rfl rfl (zl hS 105 (by decide)) (sk hS 105 (by decide) rfl) rfl (Or.inr rfl) ?_
        obtain ⟨I_14, nI_14, h⟩ := stI_some h
        refine q_nI nI_14 ?_
        refine q_aload rfl ?_
        refine q_aload rfl ?_
        refine q_aload rfl ?_
        refine q_getRs (c0 := 12) (j := 3) rfl rfl (zl hS 105 (by decide)) (sk hS 105 (by decide) rfl) rfl (by decide) (r_105_3 hS) ?_
        refine q_iconst (0) (by decide) ?_
        refine q_ialN (0) rfl (zl hS 107 (by decide)) (sk hS 107 (by decide) rfl) (by decide) (by decide) ?_
        refine q_aload rfl ?_
        refine q_getRs (c0 := 12) (j := 3) rfl rfl (zl hS 105 (by decide)) (sk hS 105 (by decide) rfl) rfl (by decide) (r_105_3 hS) ?_
        refine q_iconst (1) (by decide) ?_
        refine q_ialN (1) rfl (zl hS 107 (by decide)) (sk hS 107 (by decide) rfl) (by decide) (by decide) ?_
        refine q_aload rfl ?_
        refine q_getRs (c0 := 12) (j := 3) rfl rfl (zl hS 105 (by decide)) (sk hS 105 (by decide) rfl) rfl (by decide) (r_105_3 hS) ?_
        refine q_iconst (2) (by decide) ?_
        refine q_ialN (2) rfl (zl hS 107 (by decide)) (sk hS 107 (by decide) rfl) (by decide) (by decide) ?_
        obtain ⟨d_37, h⟩ := ite_some h
        obtain ⟨⟨x0_37, I0_37, L0_37⟩, e_37, h⟩ := Option.bind_eq_some_iff.mp h
        dsimp only at h
        refine q_fv4I (a_262 X hS (d := d - 1) (by omega) e_37) (by omega) (Nat.le_refl _) (Nat.le_refl _) rfl (Nat.le_of_ble_eq_true rfl) ⟨(zl hS 105 (by decide)), congrArg Prod.fst (sk hS 105 (by decide) rfl), by decide⟩ ?_
        obtain ⟨w_40, h⟩ := ite_some h
        refine q_putZ (c0 := 12) (j := 52) rfl rfl (zl hS 105 (by decide)) (sk hS 105 (by decide) rfl) rfl w_40 ?_
        obtain ⟨I_40, nI_40, h⟩ := stI_some h
        refine q_nI nI_40 ?_
        refine q_aload rfl ?_
        refine q_getI (c0 := 12) (j := 52) rfl rfl (zl hS 105 (by decide)) (sk hS 105 (by decide) rfl) (Or.inr rfl) (by decide) ?_
        refine q_if_ne (fun c_47 => ?_) (fun c_47 => ?_)
        · rw [if_neg c_47] at h
          refine K_of b_261_52 h_261_52 ?_
          refine q_aload rfl ?_
          refine q_aload rfl ?_
          obtain ⟨d_54, h⟩ := ite_some h
          obtain ⟨⟨x1_54, I1_54, L1_54⟩, e_54, h⟩ := Option.bind_eq_some_iff.mp h
          dsimp only at h
          refine q_fv1I (a_263 X hS (d := d - 1) (by omega) e_54) (by omega) (Nat.le_refl _) (Nat.le_refl _) rfl (Nat.le_of_ble_eq_true rfl) ⟨(zl hS 105 (by decide)), congrArg Prod.fst (sk hS 105 (by decide) rfl), by decide⟩ ?_
          refine q_putI (c0 := 12) (j := 53) rfl rfl (zl hS 105 (by decide)) (sk hS 105 (by decide) rfl) rfl ?_
          obtain ⟨I_57, nI_57, h⟩ := stI_some h
          refine q_nI nI_57 ?_
          refine q_aload rfl ?_
          refine q_aload rfl ?_
          refine q_getRs (c0 := 12) (j := 46) rfl rfl (zl hS 105 (by decide)) (sk hS 105 (by decide) rfl) rfl (by decide) (r_105_46 hS) ?_
          refine q_iconst (0) (by decide) ?_
          refine q_ialN (0) rfl (zl hS 130 (by decide)) (sk hS 130 (by decide) rfl) (by decide) (by decide) ?_
          refine q_putI (c0 := 12) (j := 54) rfl rfl (zl hS 105 (by decide)) (sk hS 105 (by decide) rfl) rfl ?_
          obtain ⟨I_67, nI_67, h⟩ := stI_some h
          refine q_nI nI_67 ?_
          refine q_iconst (0) (by decide) ?_
          refine q_istore (ls1 := [some (.ref 105), some (.int (0 : Int32)), none, none, none]) (Nat.le_of_ble_eq_true rfl) rfl ?_
          refine q_iconst (0) (by decide) ?_
          refine q_istore (ls1 := [some (.ref 105), some (.int (0 : Int32)), some (.int (0 : Int32)), none, none]) (Nat.le_of_ble_eq_true rfl) rfl ?_
          refine q_end ?_
          exact (ih dp d hdp _ _ (0 : Int32) (0 : Int32) 0 0 _ _ _).2.1 h
        · rw [if_pos c_47] at h
          refine q_iconst (0) (by decide) ?_
          cases h
          exact q_iret rfl (Nat.le_refl _) (Nat.le_refl _) ⟨rfl, rfl⟩
      · rw [if_neg c_4] at h
        refine q_aload rfl ?_
        refine q_getI (c0 := 12) (j := 52) rfl rfl (zl hS 105 (by decide)) (sk hS 105 (by decide) rfl) (Or.inr rfl) (by decide) ?_
        obtain ⟨w_11, h⟩ := ite_some h
        cases h
        exact q_iret (narB w_11) (Nat.le_refl _) (Nat.le_refl _) ⟨rfl, rfl⟩
    · intro h
      rw [e_261_1] at h
      refine K_of b_261_74 h_261_74 ?_
      refine q_iload rfl ?_
      refine q_iconst (10) (by decide) ?_
      refine q_icmp_ge (fun c_77 => ?_) (fun c_77 => ?_)
      · rw [if_pos c_77] at h
        refine K_of b_261_93 h_261_93 ?_
        refine q_iconst (0) (by decide) ?_
        refine q_istore (ls1 := [some (.ref 105), some (.int i1), some (.int (0 : Int32)), none, none]) (Nat.le_of_ble_eq_true rfl) rfl ?_
        refine q_end ?_
        exact (ih dp d hdp _ _ i1 (0 : Int32) 0 0 _ _ _).2.2.1 h
      · rw [if_neg c_77] at h
        refine q_aload rfl ?_
        refine q_getRs (c0 := 12) (j := 56) rfl rfl (zl hS 105 (by decide)) (sk hS 105 (by decide) rfl) rfl (by decide) (r_105_56 hS) ?_
        refine q_iload rfl ?_
        refine q_iconst (0) (by decide) ?_
        obtain ⟨⟨u_86, v_86⟩, h⟩ := ite_some h
        refine q_iasN (Int32.toNatClampNeg i2) (nx u_86) (zl hS 135 (by decide)) (sk hS 135 (by decide) rfl) v_86 (by decide) ?_
        obtain ⟨I_86, nI_86, h⟩ := stI_some h
        refine q_nI nI_86 ?_
        refine q_iinc (ls1 := [some (.ref 105), some (.int i1), some (.int (i2 + Int32.ofInt (1))), none, none]) rfl rfl ?_
        refine q_goto ?_
        exact (ih dp d hdp _ _ i1 (i2 + Int32.ofInt (1)) 0 0 _ _ _).2.1 h
    · intro h
      rw [e_261_2] at h
      refine K_of b_261_95 h_261_95 ?_
      refine q_iload rfl ?_
      refine q_aload rfl ?_
      refine q_getI (c0 := 12) (j := 40) rfl rfl (zl hS 105 (by decide)) (sk hS 105 (by decide) rfl) (Or.inl rfl) (by decide) ?_
      refine q_icmp_ge (fun c_100 => ?_) (fun c_100 => ?_)
      · rw [if_pos c_100] at h
        refine K_of b_261_236 h_261_236 ?_
        refine q_iconst (1) (by decide) ?_
        cases h
        exact q_iret rfl (Nat.le_refl _) (Nat.le_refl _) ⟨rfl, rfl⟩
      · rw [if_neg c_100] at h
        refine q_aload rfl ?_
        refine q_iload rfl ?_
        obtain ⟨d_105, h⟩ := ite_some h
        obtain ⟨⟨I0_105, L0_105⟩, e_105, h⟩ := Option.bind_eq_some_iff.mp h
        dsimp only at h
        refine q_fv2V (a_265 X hS (d := d - 1) (by omega) e_105) (by omega) (Nat.le_refl _) (Nat.le_refl _) rfl (Nat.le_of_ble_eq_true rfl) ⟨(zl hS 105 (by decide)), congrArg Prod.fst (sk hS 105 (by decide) rfl), by decide⟩ ?_
        refine q_iconst (0) (by decide) ?_
        refine q_istore (ls1 := [some (.ref 105), some (.int i1), some (.int i2), some (.int (0 : Int32)), none]) (Nat.le_of_ble_eq_true rfl) rfl ?_
        refine q_end ?_
        exact (ih dp d hdp _ _ i1 i2 (0 : Int32) 0 _ _ _).2.2.2.1 h
    · intro h
      rw [e_261_3] at h
      refine K_of b_261_110 h_261_110 ?_
      refine q_aload rfl ?_
      refine q_iload rfl ?_
      refine q_iload rfl ?_
      obtain ⟨d_113, h⟩ := ite_some h
      obtain ⟨⟨x0_113, I0_113, L0_113⟩, e_113, h⟩ := Option.bind_eq_some_iff.mp h
      dsimp only at h
      refine q_fv3I (a_268 X hS (d := d - 1) (by omega) e_113) (by omega) (Nat.le_refl _) (Nat.le_refl _) rfl (Nat.le_of_ble_eq_true rfl) ⟨(zl hS 105 (by decide)), congrArg Prod.fst (sk hS 105 (by decide) rfl), by decide⟩ ?_
      refine q_aload rfl ?_
      refine q_getRs (c0 := 12) (j := 45) rfl rfl (zl hS 105 (by decide)) (sk hS 105 (by decide) rfl) rfl (by decide) (r_105_45 hS) ?_
      refine q_iconst (59049) (by decide) ?_
      refine q_iload rfl ?_
      refine q_iconst (1) (by decide) ?_
      refine q_iadd ?_
      refine q_imul ?_
      refine q_aload rfl ?_
      refine q_aload rfl ?_
      refine q_getRs (c0 := 12) (j := 39) rfl rfl (zl hS 105 (by decide)) (sk hS 105 (by decide) rfl) rfl (by decide) (r_105_39 hS) ?_
      refine q_iload rfl ?_
      obtain ⟨⟨u_133, v_133⟩, h⟩ := ite_some h
      refine q_ialN (Int32.toNatClampNeg i2) (nx u_133) (zl hS 126 (by decide)) (sk hS 126 (by decide) rfl) v_133 (by decide) ?_
      refine q_iload rfl ?_
      obtain ⟨d_135, h⟩ := ite_some h
      obtain ⟨⟨x1_135, I1_135, L1_135⟩, e_135, h⟩ := Option.bind_eq_some_iff.mp h
      dsimp only at h
      refine q_fv3I (a_266 X hS (d := d - 1) (by omega) e_135) (by omega) (Nat.le_refl _) (Nat.le_refl _) rfl (Nat.le_of_ble_eq_true rfl) ⟨(zl hS 105 (by decide)), congrArg Prod.fst (sk hS 105 (by decide) rfl), by decide⟩ ?_
      refine q_iadd ?_
      obtain ⟨⟨u_139, v_139⟩, h⟩ := ite_some h
      refine q_ialN (Int32.toNatClampNeg (((59049 : Int32) * (i2 + (1 : Int32))) + x1_135)) (nx u_139) (zl hS 129 (by decide)) (sk hS 129 (by decide) rfl) v_139 (by decide) ?_
      refine q_iadd ?_
      refine q_aload rfl ?_
      refine q_getRs (c0 := 12) (j := 45) rfl rfl (zl hS 105 (by decide)) (sk hS 105 (by decide) rfl) rfl (by decide) (r_105_45 hS) ?_
      refine q_iconst (59049) (by decide) ?_
      refine q_iload rfl ?_
      refine q_imul ?_
      refine q_iload rfl ?_
      refine q_iadd ?_
      obtain ⟨⟨u_152, v_152⟩, h⟩ := ite_some h
      refine q_ialN (Int32.toNatClampNeg (((59049 : Int32) * i2) + i1)) (nx u_152) (zl hS 129 (by decide)) (sk hS 129 (by decide) rfl) v_152 (by decide) ?_
      refine q_icmp_eq (fun c_153 => ?_) (fun c_153 => ?_)
      · rw [if_pos c_153] at h
        refine K_of b_261_162 h_261_162 ?_
        refine q_aload rfl ?_
        refine q_getRs (c0 := 12) (j := 55) rfl rfl (zl hS 105 (by decide)) (sk hS 105 (by decide) rfl) rfl (by decide) (r_105_55 hS) ?_
        refine q_iload rfl ?_
        refine q_iload rfl ?_
        obtain ⟨⟨u_168, v_168⟩, h⟩ := ite_some h
        refine q_iasN (Int32.toNatClampNeg i2) (nx u_168) (zl hS 134 (by decide)) (sk hS 134 (by decide) rfl) v_168 (by decide) ?_
        obtain ⟨I_168, nI_168, h⟩ := stI_some h
        refine q_nI nI_168 ?_
        refine q_aload rfl ?_
        refine q_aload rfl ?_
        refine q_getRs (c0 := 12) (j := 39) rfl rfl (zl hS 105 (by decide)) (sk hS 105 (by decide) rfl) rfl (by decide) (r_105_39 hS) ?_
        refine q_iload rfl ?_
        obtain ⟨⟨u_175, v_175⟩, h⟩ := ite_some h
        refine q_ialN (Int32.toNatClampNeg i2) (nx u_175) (zl hS 126 (by decide)) (sk hS 126 (by decide) rfl) v_175 (by decide) ?_
        refine q_iload rfl ?_
        obtain ⟨d_177, h⟩ := ite_some h
        obtain ⟨⟨x2_177, I2_177, L2_177⟩, e_177, h⟩ := Option.bind_eq_some_iff.mp h
        dsimp only at h
        refine q_fv3I (a_266 X hS (d := d - 1) (by omega) e_177) (by omega) (Nat.le_refl _) (Nat.le_refl _) rfl (Nat.le_of_ble_eq_true rfl) ⟨(zl hS 105 (by decide)), congrArg Prod.fst (sk hS 105 (by decide) rfl), by decide⟩ ?_
        refine q_istore (ls1 := [some (.ref 105), some (.int x2_177), some (.int i2), some (.int i3), none]) (Nat.le_of_ble_eq_true rfl) rfl ?_
        refine q_iconst (0) (by decide) ?_
        refine q_istore (ls1 := [some (.ref 105), some (.int x2_177), some (.int i2), some (.int i3), some (.int (0 : Int32))]) (Nat.le_of_ble_eq_true rfl) rfl ?_
        refine q_end ?_
        exact (ih dp d hdp _ _ x2_177 i2 i3 (0 : Int32) _ _ _).2.2.2.2 h
      · rw [if_neg c_153] at h
        refine q_iinc (ls1 := [some (.ref 105), some (.int i1), some (.int i2), some (.int (i3 + Int32.ofInt (1))), none]) rfl rfl ?_
        refine q_goto ?_
        exact (ih dp d hdp _ _ i1 i2 (i3 + Int32.ofInt (1)) 0 _ _ _).2.2.2.1 h
    · intro h
      rw [e_261_4] at h
      refine K_of b_261_184 h_261_184 ?_
      refine q_iload rfl ?_
      refine q_iconst (10) (by decide) ?_
      refine q_icmp_ge (fun c_188 => ?_) (fun c_188 => ?_)
      · rw [if_pos c_188] at h
        refine K_of b_261_230 h_261_230 ?_
        refine q_iinc (ls1 := [some (.ref 105), some (.int i1), some (.int (i2 + Int32.ofInt (1))), some (.int i3), some (.int i4)]) rfl rfl ?_
        refine q_goto ?_
        refine K_mask [true, true, true, false, false] (Nat.le_of_ble_eq_true rfl) ?_
        exact (ih dp d hdp _ _ i1 (i2 + Int32.ofInt (1)) 0 0 _ _ _).2.2.1 h
      · rw [if_neg c_188] at h
        refine q_aload rfl ?_
        refine q_getRs (c0 := 12) (j := 56) rfl rfl (zl hS 105 (by decide)) (sk hS 105 (by decide) rfl) rfl (by decide) (r_105_56 hS) ?_
        refine q_iload rfl ?_
        refine q_dup2 rfl rfl ?_
        obtain ⟨⟨u_198, v_198⟩, h⟩ := ite_some h
        refine q_ialN (Int32.toNatClampNeg i4) (nx u_198) (zl hS 135 (by decide)) (sk hS 135 (by decide) rfl) v_198 (by decide) ?_
        refine q_aload rfl ?_
        refine q_getRs (c0 := 12) (j := 35) rfl rfl (zl hS 105 (by decide)) (sk hS 105 (by decide) rfl) rfl (by decide) (r_105_35 hS) ?_
        refine q_iconst (640) (by decide) ?_
        refine q_aload rfl ?_
        refine q_getRs (c0 := 12) (j := 39) rfl rfl (zl hS 105 (by decide)) (sk hS 105 (by decide) rfl) rfl (by decide) (r_105_39 hS) ?_
        refine q_iload rfl ?_
        obtain ⟨⟨u_211, v_211⟩, h⟩ := ite_some h
        refine q_ialN (Int32.toNatClampNeg i2) (nx u_211) (zl hS 126 (by decide)) (sk hS 126 (by decide) rfl) v_211 (by decide) ?_
        refine q_imul ?_
        refine q_iconst (10) (by decide) ?_
        refine q_iload rfl ?_
        refine q_imul ?_
        refine q_iadd ?_
        refine q_iload rfl ?_
        refine q_iadd ?_
        obtain ⟨⟨u_221, v_221⟩, h⟩ := ite_some h
        refine q_ialN (Int32.toNatClampNeg ((((640 : Int32) * (I 126 (Int32.toNatClampNeg i2))) + ((10 : Int32) * i3)) + i4)) (nx u_221) (zl hS 122 (by decide)) (sk hS 122 (by decide) rfl) v_221 (by decide) ?_
        refine q_iadd ?_
        obtain ⟨⟨u_223, v_223⟩, h⟩ := ite_some h
        refine q_iasN (Int32.toNatClampNeg i4) (nx u_223) (zl hS 135 (by decide)) (sk hS 135 (by decide) rfl) v_223 (by decide) ?_
        obtain ⟨I_223, nI_223, h⟩ := stI_some h
        refine q_nI nI_223 ?_
        refine q_iinc (ls1 := [some (.ref 105), some (.int i1), some (.int i2), some (.int i3), some (.int (i4 + Int32.ofInt (1)))]) rfl rfl ?_
        refine q_goto ?_
        exact (ih dp d hdp _ _ i1 i2 i3 (i4 + Int32.ofInt (1)) _ _ _).2.2.2.2 h
theorem a_261 (X : GX) {z : Nat} {kd : Nat → Nat × Nat} {Rf : Nat → Nat → Option Nat} (hS : Sh z kd Rf) {n dp d : Nat} (hd : dp ≤ d) {I : (Nat → Nat → Int32)} {L : (Nat → Nat → Int64)} {I1 : (Nat → Nat → Int32)} {L1 : (Nat → Nat → Int64)} {r : Int32} (h : g_261 n dp (z, kd, Rf) 0 I L 0 0 0 0 = some (r, I1, L1)) : Ct X d 261 0 0 [.ref 105] (z, kd, I, L, Rf) (AI (fun x τ => x = r ∧ τ = (z, kd, I1, L1, Rf))) :=
  Ct_of mu_261 (Nat.le_of_ble_eq_true rfl) ((w_261 X hS n dp d hd I L 0 0 0 0 _ _ _).1 h)

/-! 260 CutFloorModel.best(I)I -/
set_option maxHeartbeats 4000000 in
set_option maxRecDepth 100000 in
def g_260 : Nat → Nat → EN → Nat → (Nat → Nat → Int32) → (Nat → Nat → Int64) → Int32 →  Option (Int32 × (Nat → Nat → Int32) × (Nat → Nat → Int64))
  | 0, _, _, _, _, _, _ => none
  | n + 1, dp, e, lab, I, L, i1 =>
    if lab = 0 then (stI (u2 I 105 0 (0 : Int32)) (fun I_2 => (if 1 ≤ dp then (g_193 n (dp - 1) e 0 I_2 L (Int32.toInt64 i1) (0 : Int64) (1 : Int64)).bind (fun ⟨x0_9, I0_9, L0_9⟩ => (if x0_9 = 0 then (some ((-1 : Int32), I0_9, L0_9)) else (if 1 ≤ dp then (g_261 n (dp - 1) e 0 I0_9 L0_9 0 0 0 0).bind (fun ⟨x1_16, I1_16, L1_16⟩ => (if x1_16 = 0 then (some ((-1 : Int32), I1_16, L1_16)) else (if i1 = 0 then (some ((I1_16 105 53), I1_16, L1_16)) else (some ((I1_16 105 54), I1_16, L1_16))))) else none))) else none)))
    else none
set_option maxRecDepth 100000 in
theorem e_260_0 (n dp : Nat) (e : EN) (I : (Nat → Nat → Int32)) (L : (Nat → Nat → Int64)) (i1 : Int32) : g_260 (n + 1) dp e 0 I L i1 = (stI (u2 I 105 0 (0 : Int32)) (fun I_2 => (if 1 ≤ dp then (g_193 n (dp - 1) e 0 I_2 L (Int32.toInt64 i1) (0 : Int64) (1 : Int64)).bind (fun ⟨x0_9, I0_9, L0_9⟩ => (if x0_9 = 0 then (some ((-1 : Int32), I0_9, L0_9)) else (if 1 ≤ dp then (g_261 n (dp - 1) e 0 I0_9 L0_9 0 0 0 0).bind (fun ⟨x1_16, I1_16, L1_16⟩ => (if x1_16 = 0 then (some ((-1 : Int32), I1_16, L1_16)) else (if i1 = 0 then (some ((I1_16 105 53), I1_16, L1_16)) else (some ((I1_16 105 54), I1_16, L1_16))))) else none))) else none))) := by rw [g_260.eq_2, if_pos (show (0 : Nat) = 0 from rfl)]
set_option maxHeartbeats 8000000 in
set_option maxRecDepth 100000 in
theorem w_260 (X : GX) {z : Nat} {kd : Nat → Nat × Nat} {Rf : Nat → Nat → Option Nat} (hS : Sh z kd Rf) : ∀ (n dp d : Nat), dp ≤ d → ∀ (I : (Nat → Nat → Int32)) (L : (Nat → Nat → Int64)) (i1 : Int32) (r : Int32) (I1 : (Nat → Nat → Int32)) (L1 : (Nat → Nat → Int64)), (g_260 n dp (z, kd, Rf) 0 I L i1 = some (r, I1, L1) → K X d 260 0 0 (AI (fun x τ => x = r ∧ τ = (z, kd, I1, L1, Rf))) 0 [some (.ref 105), some (.int i1)] [] (z, kd, I, L, Rf) 0 0) := by
  intro n
  induction n with
  | zero => intro dp d hdp I L i1 r I1 L1; exact fun h => by cases h
  | succ n ih =>
    intro dp d hdp I L i1 r I1 L1
    · intro h
      rw [e_260_0] at h
      refine K_of b_260_0 h_260_0 ?_
      refine q_aload rfl ?_
      refine q_iconst (0) (by decide) ?_
      refine q_putI (c0 := 12) (j := 0) rfl rfl (zl hS 105 (by decide)) (sk hS 105 (by decide) rfl) rfl ?_
      obtain ⟨I_2, nI_2, h⟩ := stI_some h
      refine q_nI nI_2 ?_
      refine q_iload rfl ?_
      refine q_i2l ?_
      refine q_lconst (0) (by decide) ?_
      refine q_lconst (1) (by decide) ?_
      obtain ⟨d_9, h⟩ := ite_some h
      obtain ⟨⟨x0_9, I0_9, L0_9⟩, e_9, h⟩ := Option.bind_eq_some_iff.mp h
      dsimp only at h
      refine q_fs3I (a_193 X hS (d := d - 1) (by omega) e_9) (by omega) (Nat.le_refl _) (Nat.le_refl _) rfl (Nat.le_of_ble_eq_true rfl) ?_
      refine q_if_eq (fun c_12 => ?_) (fun c_12 => ?_)
      · rw [if_pos c_12] at h
        refine K_of b_260_22 h_260_22 ?_
        refine q_iconst (-1) (by decide) ?_
        cases h
        exact q_iret rfl (Nat.le_refl _) (Nat.le_refl _) ⟨rfl, rfl⟩
      · rw [if_neg c_12] at h
        refine q_aload rfl ?_
        obtain ⟨d_16, h⟩ := ite_some h
        obtain ⟨⟨x1_16, I1_16, L1_16⟩, e_16, h⟩ := Option.bind_eq_some_iff.mp h
        dsimp only at h
        refine q_fv1I (a_261 X hS (d := d - 1) (by omega) e_16) (by omega) (Nat.le_refl _) (Nat.le_refl _) rfl (Nat.le_of_ble_eq_true rfl) ⟨(zl hS 105 (by decide)), congrArg Prod.fst (sk hS 105 (by decide) rfl), by decide⟩ ?_
        refine q_if_ne (fun c_19 => ?_) (fun c_19 => ?_)
        · rw [if_neg c_19] at h
          refine K_of b_260_24 h_260_24 ?_
          refine q_iload rfl ?_
          refine q_if_ne (fun c_25 => ?_) (fun c_25 => ?_)
          · rw [if_neg c_25] at h
            refine K_of b_260_35 h_260_35 ?_
            refine q_aload rfl ?_
            refine q_getI (c0 := 12) (j := 54) rfl rfl (zl hS 105 (by decide)) (sk hS 105 (by decide) rfl) (Or.inl rfl) (by decide) ?_
            refine q_end ?_
            refine K_of b_260_39 h_260_39 ?_
            cases h
            exact q_iret rfl (Nat.le_refl _) (Nat.le_refl _) ⟨rfl, rfl⟩
          · rw [if_pos c_25] at h
            refine q_aload rfl ?_
            refine q_getI (c0 := 12) (j := 53) rfl rfl (zl hS 105 (by decide)) (sk hS 105 (by decide) rfl) (Or.inl rfl) (by decide) ?_
            refine q_goto ?_
            refine K_of b_260_39 h_260_39 ?_
            cases h
            exact q_iret rfl (Nat.le_refl _) (Nat.le_refl _) ⟨rfl, rfl⟩
        · rw [if_pos c_19] at h
          refine q_end ?_
          refine K_of b_260_22 h_260_22 ?_
          refine q_iconst (-1) (by decide) ?_
          cases h
          exact q_iret rfl (Nat.le_refl _) (Nat.le_refl _) ⟨rfl, rfl⟩
theorem a_260 (X : GX) {z : Nat} {kd : Nat → Nat × Nat} {Rf : Nat → Nat → Option Nat} (hS : Sh z kd Rf) {n dp d : Nat} (hd : dp ≤ d) {I : (Nat → Nat → Int32)} {L : (Nat → Nat → Int64)} {i1 : Int32} {I1 : (Nat → Nat → Int32)} {L1 : (Nat → Nat → Int64)} {r : Int32} (h : g_260 n dp (z, kd, Rf) 0 I L i1 = some (r, I1, L1)) : Ct X d 260 0 0 [.ref 105, .int i1] (z, kd, I, L, Rf) (AI (fun x τ => x = r ∧ τ = (z, kd, I1, L1, Rf))) :=
  Ct_of mu_260 (Nat.le_of_ble_eq_true rfl) ((w_260 X hS n dp d hd I L i1 _ _ _) h)

/-! 270 CutFloorModel.plan(I)I -/
set_option maxHeartbeats 4000000 in
set_option maxRecDepth 100000 in
def g_270 : Nat → Nat → EN → Nat → (Nat → Nat → Int32) → (Nat → Nat → Int64) → Int32 →  Option (Int32 × (Nat → Nat → Int32) × (Nat → Nat → Int64))
  | 0, _, _, _, _, _, _ => none
  | n + 1, dp, e, lab, I, L, i1 =>
    if lab = 0 then (stI (u2 I 105 0 (0 : Int32)) (fun I_2 => (if 1 ≤ dp then (g_261 n (dp - 1) e 0 I_2 L 0 0 0 0).bind (fun ⟨x0_6, I0_6, L0_6⟩ => (if x0_6 = 0 then (some ((-1 : Int32), I0_6, L0_6)) else (if 1 ≤ dp then (g_198 n (dp - 1) e 0 I0_6 L0_6).bind (fun ⟨x1_16, I1_16, L1_16⟩ => (if 1 ≤ dp then (g_193 n (dp - 1) e 0 I1_16 L1_16 (Int32.toInt64 i1) (0 : Int64) ((Int32.toInt64 x1_16) - (1 : Int64))).bind (fun ⟨x2_22, I2_22, L2_22⟩ => (if x2_22 = 0 then (some ((-1 : Int32), I2_22, L2_22)) else (if 0 ≤ i1 ∧ (Int32.toNatClampNeg i1) < 8 then (some ((I2_22 134 (Int32.toNatClampNeg i1)), I2_22, L2_22)) else none))) else none)) else none))) else none)))
    else none
set_option maxRecDepth 100000 in
theorem e_270_0 (n dp : Nat) (e : EN) (I : (Nat → Nat → Int32)) (L : (Nat → Nat → Int64)) (i1 : Int32) : g_270 (n + 1) dp e 0 I L i1 = (stI (u2 I 105 0 (0 : Int32)) (fun I_2 => (if 1 ≤ dp then (g_261 n (dp - 1) e 0 I_2 L 0 0 0 0).bind (fun ⟨x0_6, I0_6, L0_6⟩ => (if x0_6 = 0 then (some ((-1 : Int32), I0_6, L0_6)) else (if 1 ≤ dp then (g_198 n (dp - 1) e 0 I0_6 L0_6).bind (fun ⟨x1_16, I1_16, L1_16⟩ => (if 1 ≤ dp then (g_193 n (dp - 1) e 0 I1_16 L1_16 (Int32.toInt64 i1) (0 : Int64) ((Int32.toInt64 x1_16) - (1 : Int64))).bind (fun ⟨x2_22, I2_22, L2_22⟩ => (if x2_22 = 0 then (some ((-1 : Int32), I2_22, L2_22)) else (if 0 ≤ i1 ∧ (Int32.toNatClampNeg i1) < 8 then (some ((I2_22 134 (Int32.toNatClampNeg i1)), I2_22, L2_22)) else none))) else none)) else none))) else none))) := by rw [g_270.eq_2, if_pos (show (0 : Nat) = 0 from rfl)]
set_option maxHeartbeats 8000000 in
set_option maxRecDepth 100000 in
theorem w_270 (X : GX) {z : Nat} {kd : Nat → Nat × Nat} {Rf : Nat → Nat → Option Nat} (hS : Sh z kd Rf) : ∀ (n dp d : Nat), dp ≤ d → ∀ (I : (Nat → Nat → Int32)) (L : (Nat → Nat → Int64)) (i1 : Int32) (r : Int32) (I1 : (Nat → Nat → Int32)) (L1 : (Nat → Nat → Int64)), (g_270 n dp (z, kd, Rf) 0 I L i1 = some (r, I1, L1) → K X d 270 0 0 (AI (fun x τ => x = r ∧ τ = (z, kd, I1, L1, Rf))) 0 [some (.ref 105), some (.int i1)] [] (z, kd, I, L, Rf) 0 0) := by
  intro n
  induction n with
  | zero => intro dp d hdp I L i1 r I1 L1; exact fun h => by cases h
  | succ n ih =>
    intro dp d hdp I L i1 r I1 L1
    · intro h
      rw [e_270_0] at h
      refine K_of b_270_0 h_270_0 ?_
      refine q_aload rfl ?_
      refine q_iconst (0) (by decide) ?_
      refine q_putI (c0 := 12) (j := 0) rfl rfl (zl hS 105 (by decide)) (sk hS 105 (by decide) rfl) rfl ?_
      obtain ⟨I_2, nI_2, h⟩ := stI_some h
      refine q_nI nI_2 ?_
      refine q_aload rfl ?_
      obtain ⟨d_6, h⟩ := ite_some h
      obtain ⟨⟨x0_6, I0_6, L0_6⟩, e_6, h⟩ := Option.bind_eq_some_iff.mp h
      dsimp only at h
      refine q_fv1I (a_261 X hS (d := d - 1) (by omega) e_6) (by omega) (Nat.le_refl _) (Nat.le_refl _) rfl (Nat.le_of_ble_eq_true rfl) ⟨(zl hS 105 (by decide)), congrArg Prod.fst (sk hS 105 (by decide) rfl), by decide⟩ ?_
      refine q_if_eq (fun c_9 => ?_) (fun c_9 => ?_)
      · rw [if_pos c_9] at h
        refine K_of b_270_37 h_270_37 ?_
        refine q_iconst (-1) (by decide) ?_
        refine q_end ?_
        refine K_of b_270_38 h_270_38 ?_
        cases h
        exact q_iret rfl (Nat.le_refl _) (Nat.le_refl _) ⟨rfl, rfl⟩
      · rw [if_neg c_9] at h
        refine q_iload rfl ?_
        refine q_i2l ?_
        refine q_lconst (0) (by decide) ?_
        refine q_aload rfl ?_
        obtain ⟨d_16, h⟩ := ite_some h
        obtain ⟨⟨x1_16, I1_16, L1_16⟩, e_16, h⟩ := Option.bind_eq_some_iff.mp h
        dsimp only at h
        refine q_fv1I (a_198 X hS (d := d - 1) (by omega) e_16) (by omega) (Nat.le_refl _) (Nat.le_refl _) rfl (Nat.le_of_ble_eq_true rfl) ⟨(zl hS 105 (by decide)), congrArg Prod.fst (sk hS 105 (by decide) rfl), by decide⟩ ?_
        refine q_i2l ?_
        refine q_lconst (1) (by decide) ?_
        refine q_lsub ?_
        obtain ⟨d_22, h⟩ := ite_some h
        obtain ⟨⟨x2_22, I2_22, L2_22⟩, e_22, h⟩ := Option.bind_eq_some_iff.mp h
        dsimp only at h
        refine q_fs3I (a_193 X hS (d := d - 1) (by omega) e_22) (by omega) (Nat.le_refl _) (Nat.le_refl _) rfl (Nat.le_of_ble_eq_true rfl) ?_
        refine q_if_eq (fun c_25 => ?_) (fun c_25 => ?_)
        · rw [if_pos c_25] at h
          refine K_of b_270_37 h_270_37 ?_
          refine q_iconst (-1) (by decide) ?_
          refine q_end ?_
          refine K_of b_270_38 h_270_38 ?_
          cases h
          exact q_iret rfl (Nat.le_refl _) (Nat.le_refl _) ⟨rfl, rfl⟩
        · rw [if_neg c_25] at h
          refine q_aload rfl ?_
          refine q_getRs (c0 := 12) (j := 55) rfl rfl (zl hS 105 (by decide)) (sk hS 105 (by decide) rfl) rfl (by decide) (r_105_55 hS) ?_
          refine q_iload rfl ?_
          obtain ⟨⟨u_33, v_33⟩, h⟩ := ite_some h
          refine q_ialN (Int32.toNatClampNeg i1) (nx u_33) (zl hS 134 (by decide)) (sk hS 134 (by decide) rfl) v_33 (by decide) ?_
          refine q_goto ?_
          refine K_of b_270_38 h_270_38 ?_
          cases h
          exact q_iret rfl (Nat.le_refl _) (Nat.le_refl _) ⟨rfl, rfl⟩
theorem a_270 (X : GX) {z : Nat} {kd : Nat → Nat × Nat} {Rf : Nat → Nat → Option Nat} (hS : Sh z kd Rf) {n dp d : Nat} (hd : dp ≤ d) {I : (Nat → Nat → Int32)} {L : (Nat → Nat → Int64)} {i1 : Int32} {I1 : (Nat → Nat → Int32)} {L1 : (Nat → Nat → Int64)} {r : Int32} (h : g_270 n dp (z, kd, Rf) 0 I L i1 = some (r, I1, L1)) : Ct X d 270 0 0 [.ref 105, .int i1] (z, kd, I, L, Rf) (AI (fun x τ => x = r ∧ τ = (z, kd, I1, L1, Rf))) :=
  Ct_of mu_270 (Nat.le_of_ble_eq_true rfl) ((w_270 X hS n dp d hd I L i1 _ _ _) h)

