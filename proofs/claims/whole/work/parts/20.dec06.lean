/-! 164 CutFloor$Mixer.seek(III)V -/
set_option maxHeartbeats 4000000 in
set_option maxRecDepth 100000 in
def g_164 : Nat → Nat → EN → Nat → (Nat → Nat → Int32) → (Nat → Nat → Int64) → Int32 → Int32 → Int32 → Int32 → Int32 →  Option ((Nat → Nat → Int32) × (Nat → Nat → Int64))
  | 0, _, _, _, _, _, _, _, _, _, _ => none
  | n + 1, dp, e, lab, I, L, i1, i2, i3, i4, i5 =>
    if lab = 0 then (if (I 81 11) = 0 then (if i1 = (I 81 8) then (if i2 = (I 81 9) then (if i3 = (I 81 10) then (some (I, L)) else (g_164 n dp e 1 I L i1 i2 i3 0 0)) else (g_164 n dp e 1 I L i1 i2 i3 0 0)) else (g_164 n dp e 1 I L i1 i2 i3 0 0)) else (g_164 n dp e 1 I L i1 i2 i3 0 0))
    else if lab = 1 then (if (I 81 11) = 0 then (g_164 n dp e 2 I L i1 i2 i3 0 0) else (if 1 ≤ dp then (g_165 n (dp - 1) e 0 I L 0 0).bind (fun ⟨I0_40, L0_40⟩ => (stI (u2 I0_40 81 11 (0 : Int32)) (fun I_45 => (g_164 n dp e 2 I_45 L0_40 i1 i2 i3 0 0)))) else none))
    else if lab = 2 then (stI (u2 I 81 8 i1) (fun I_50 => (stI (u2 I_50 81 9 i2) (fun I_55 => (stI (u2 I_55 81 10 i3) (fun I_60 => (stI (u2 I_60 81 12 (0 : Int32)) (fun I_65 => (stI (u2 I_65 81 13 (1000000000 : Int32)) (fun I_71 => (stI (u2 I_71 81 14 (0 : Int32)) (fun I_76 => (if 0 ≤ (((1 : Int32) <<< ((I_76 81 6) &&& 31)) - (1 : Int32)) ∧ (Int32.toNatClampNeg (((1 : Int32) <<< ((I_76 81 6) &&& 31)) - (1 : Int32))) < 256 then (stI (I_76 83 (Int32.toNatClampNeg (((1 : Int32) <<< ((I_76 81 6) &&& 31)) - (1 : Int32)))) (fun v_92 => (g_164 n dp e 3 I_76 L i1 i2 i3 v_92 (0 : Int32)))) else none)))))))))))))
    else if lab = 3 then (if ((1 : Int32) <<< ((I 81 7) &&& 31)) ≤ i5 then (some (I, L)) else (if 0 ≤ i5 ∧ (Int32.toNatClampNeg i5) < 256 then (if i2 < (I 85 (Int32.toNatClampNeg i5)) then (g_164 n dp e 4 I L i1 i2 i3 i4 i5) else (if 0 ≤ i5 ∧ (Int32.toNatClampNeg i5) < 256 then (if ((I 85 (Int32.toNatClampNeg i5)) + i4) < i1 then (g_164 n dp e 4 I L i1 i2 i3 i4 i5) else (if 1 ≤ dp then (g_167 n (dp - 1) e 0 I L i5 0 0 0 0 0).bind (fun ⟨I0_136, L0_136⟩ => (g_164 n dp e 4 I0_136 L0_136 i1 i2 i3 i4 i5)) else none)) else none)) else none))
    else if lab = 4 then (g_164 n dp e 3 I L i1 i2 i3 i4 (i5 + Int32.ofInt (1)))
    else none
set_option maxRecDepth 100000 in
theorem e_164_0 (n dp : Nat) (e : EN) (I : (Nat → Nat → Int32)) (L : (Nat → Nat → Int64)) (i1 : Int32) (i2 : Int32) (i3 : Int32) (i4 : Int32) (i5 : Int32) : g_164 (n + 1) dp e 0 I L i1 i2 i3 i4 i5 = (if (I 81 11) = 0 then (if i1 = (I 81 8) then (if i2 = (I 81 9) then (if i3 = (I 81 10) then (some (I, L)) else (g_164 n dp e 1 I L i1 i2 i3 0 0)) else (g_164 n dp e 1 I L i1 i2 i3 0 0)) else (g_164 n dp e 1 I L i1 i2 i3 0 0)) else (g_164 n dp e 1 I L i1 i2 i3 0 0)) := by rw [g_164.eq_2, if_pos (show (0 : Nat) = 0 from rfl)]
set_option maxRecDepth 100000 in
theorem e_164_1 (n dp : Nat) (e : EN) (I : (Nat → Nat → Int32)) (L : (Nat → Nat → Int64)) (i1 : Int32) (i2 : Int32) (i3 : Int32) (i4 : Int32) (i5 : Int32) : g_164 (n + 1) dp e 1 I L i1 i2 i3 i4 i5 = (if (I 81 11) = 0 then (g_164 n dp e 2 I L i1 i2 i3 0 0) else (if 1 ≤ dp then (g_165 n (dp - 1) e 0 I L 0 0).bind (fun ⟨I0_40, L0_40⟩ => (stI (u2 I0_40 81 11 (0 : Int32)) (fun I_45 => (g_164 n dp e 2 I_45 L0_40 i1 i2 i3 0 0)))) else none)) := by rw [g_164.eq_2, if_neg (show ¬ ((1 : Nat) = 0) by decide), if_pos (show (1 : Nat) = 1 from rfl)]
set_option maxRecDepth 100000 in
theorem e_164_2 (n dp : Nat) (e : EN) (I : (Nat → Nat → Int32)) (L : (Nat → Nat → Int64)) (i1 : Int32) (i2 : Int32) (i3 : Int32) (i4 : Int32) (i5 : Int32) : g_164 (n + 1) dp e 2 I L i1 i2 i3 i4 i5 = (stI (u2 I 81 8 i1) (fun I_50 => (stI (u2 I_50 81 9 i2) (fun I_55 => (stI (u2 I_55 81 10 i3) (fun I_60 => (stI (u2 I_60 81 12 (0 : Int32)) (fun I_65 => (stI (u2 I_65 81 13 (1000000000 : Int32)) (fun I_71 => (stI (u2 I_71 81 14 (0 : Int32)) (fun I_76 => (if 0 ≤ (((1 : Int32) <<< ((I_76 81 6) &&& 31)) - (1 : Int32)) ∧ (Int32.toNatClampNeg (((1 : Int32) <<< ((I_76 81 6) &&& 31)) - (1 : Int32))) < 256 then (stI (I_76 83 (Int32.toNatClampNeg (((1 : Int32) <<< ((I_76 81 6) &&& 31)) - (1 : Int32)))) (fun v_92 => (g_164 n dp e 3 I_76 L i1 i2 i3 v_92 (0 : Int32)))) else none))))))))))))) := by rw [g_164.eq_2, if_neg (show ¬ ((2 : Nat) = 0) by decide), if_neg (show ¬ ((2 : Nat) = 1) by decide), if_pos (show (2 : Nat) = 2 from rfl)]
set_option maxRecDepth 100000 in
theorem e_164_3 (n dp : Nat) (e : EN) (I : (Nat → Nat → Int32)) (L : (Nat → Nat → Int64)) (i1 : Int32) (i2 : Int32) (i3 : Int32) (i4 : Int32) (i5 : Int32) : g_164 (n + 1) dp e 3 I L i1 i2 i3 i4 i5 = (if ((1 : Int32) <<< ((I 81 7) &&& 31)) ≤ i5 then (some (I, L)) else (if 0 ≤ i5 ∧ (Int32.toNatClampNeg i5) < 256 then (if i2 < (I 85 (Int32.toNatClampNeg i5)) then (g_164 n dp e 4 I L i1 i2 i3 i4 i5) else (if 0 ≤ i5 ∧ (Int32.toNatClampNeg i5) < 256 then (if ((I 85 (Int32.toNatClampNeg i5)) + i4) < i1 then (g_164 n dp e 4 I L i1 i2 i3 i4 i5) else (if 1 ≤ dp then (g_167 n (dp - 1) e 0 I L i5 0 0 0 0 0).bind (fun ⟨I0_136, L0_136⟩ => (g_164 n dp e 4 I0_136 L0_136 i1 i2 i3 i4 i5)) else none)) else none)) else none)) := by rw [g_164.eq_2, if_neg (show ¬ ((3 : Nat) = 0) by decide), if_neg (show ¬ ((3 : Nat) = 1) by decide), if_neg (show ¬ ((3 : Nat) = 2) by decide), if_pos (show (3 : Nat) = 3 from rfl)]
set_option maxRecDepth 100000 in
theorem e_164_4 (n dp : Nat) (e : EN) (I : (Nat → Nat → Int32)) (L : (Nat → Nat → Int64)) (i1 : Int32) (i2 : Int32) (i3 : Int32) (i4 : Int32) (i5 : Int32) : g_164 (n + 1) dp e 4 I L i1 i2 i3 i4 i5 = (g_164 n dp e 3 I L i1 i2 i3 i4 (i5 + Int32.ofInt (1))) := by rw [g_164.eq_2, if_neg (show ¬ ((4 : Nat) = 0) by decide), if_neg (show ¬ ((4 : Nat) = 1) by decide), if_neg (show ¬ ((4 : Nat) = 2) by decide), if_neg (show ¬ ((4 : Nat) = 3) by decide), if_pos (show (4 : Nat) = 4 from rfl)]
set_option maxHeartbeats 8000000 in
set_option maxRecDepth 100000 in
theorem w_164 (X : GX) {z : Nat} {kd : Nat → Nat × Nat} {Rf : Nat → Nat → Option Nat} (hS : Sh z kd Rf) : ∀ (n dp d : Nat), dp ≤ d → ∀ (I : (Nat → Nat → Int32)) (L : (Nat → Nat → Int64)) (i1 : Int32) (i2 : Int32) (i3 : Int32) (i4 : Int32) (i5 : Int32) (I1 : (Nat → Nat → Int32)) (L1 : (Nat → Nat → Int64)), (g_164 n dp (z, kd, Rf) 0 I L i1 i2 i3 i4 i5 = some (I1, L1) → K X d 164 0 0 (AV (fun τ => τ = (z, kd, I1, L1, Rf))) 0 [some (.ref 81), some (.int i1), some (.int i2), some (.int i3), none, none] [] (z, kd, I, L, Rf) 0 0) ∧
    (g_164 n dp (z, kd, Rf) 1 I L i1 i2 i3 i4 i5 = some (I1, L1) → K X d 164 0 0 (AV (fun τ => τ = (z, kd, I1, L1, Rf))) 32 [some (.ref 81), some (.int i1), some (.int i2), some (.int i3), none, none] [] (z, kd, I, L, Rf) 0 0) ∧
    (g_164 n dp (z, kd, Rf) 2 I L i1 i2 i3 i4 i5 = some (I1, L1) → K X d 164 0 0 (AV (fun τ => τ = (z, kd, I1, L1, Rf))) 48 [some (.ref 81), some (.int i1), some (.int i2), some (.int i3), none, none] [] (z, kd, I, L, Rf) 0 0) ∧
    (g_164 n dp (z, kd, Rf) 3 I L i1 i2 i3 i4 i5 = some (I1, L1) → K X d 164 0 0 (AV (fun τ => τ = (z, kd, I1, L1, Rf))) 97 [some (.ref 81), some (.int i1), some (.int i2), some (.int i3), some (.int i4), some (.int i5)] [] (z, kd, I, L, Rf) 0 0) ∧
    (g_164 n dp (z, kd, Rf) 4 I L i1 i2 i3 i4 i5 = some (I1, L1) → K X d 164 0 0 (AV (fun τ => τ = (z, kd, I1, L1, Rf))) 139 [some (.ref 81), some (.int i1), some (.int i2), some (.int i3), some (.int i4), some (.int i5)] [] (z, kd, I, L, Rf) 0 0) := by
  intro n
  induction n with
  | zero => intro dp d hdp I L i1 i2 i3 i4 i5 I1 L1; exact ⟨(fun h => by cases h), (fun h => by cases h), (fun h => by cases h), (fun h => by cases h), (fun h => by cases h)⟩
  | succ n ih =>
    intro dp d hdp I L i1 i2 i3 i4 i5 I1 L1
    refine ⟨?_, ?_, ?_, ?_, ?_⟩
    · intro h
      rw [e_164_0] at h
      refine K_of b_164_0 h_164_0 ?_
      refine q_aload rfl ?_
      refine q_getI (c0 := 5) (j := 11) rfl rfl (zl hS 81 (by decide)) (sk hS 81 (by decide) rfl) (Or.inr rfl) (by decide) ?_
      refine q_if_ne (fun c_4 => ?_) (fun c_4 => ?_)
      · rw [if_neg c_4] at h
        exact (ih dp d hdp _ _ i1 i2 i3 0 0 _ _).2.1 h
      · rw [if_pos c_4] at h
        refine q_iload rfl ?_
        refine q_aload rfl ?_
        refine q_getI (c0 := 5) (j := 8) rfl rfl (zl hS 81 (by decide)) (sk hS 81 (by decide) rfl) (Or.inl rfl) (by decide) ?_
        refine q_icmp_ne (fun c_12 => ?_) (fun c_12 => ?_)
        · rw [if_neg c_12] at h
          exact (ih dp d hdp _ _ i1 i2 i3 0 0 _ _).2.1 h
        · rw [if_pos c_12] at h
          refine q_iload rfl ?_
          refine q_aload rfl ?_
          refine q_getI (c0 := 5) (j := 9) rfl rfl (zl hS 81 (by decide)) (sk hS 81 (by decide) rfl) (Or.inl rfl) (by decide) ?_
          refine q_icmp_ne (fun c_20 => ?_) (fun c_20 => ?_)
          · rw [if_neg c_20] at h
            exact (ih dp d hdp _ _ i1 i2 i3 0 0 _ _).2.1 h
          · rw [if_pos c_20] at h
            refine q_iload rfl ?_
            refine q_aload rfl ?_
            refine q_getI (c0 := 5) (j := 10) rfl rfl (zl hS 81 (by decide)) (sk hS 81 (by decide) rfl) (Or.inl rfl) (by decide) ?_
            refine q_icmp_ne (fun c_28 => ?_) (fun c_28 => ?_)
            · rw [if_neg c_28] at h
              exact (ih dp d hdp _ _ i1 i2 i3 0 0 _ _).2.1 h
            · rw [if_pos c_28] at h
              cases h
              exact q_vret rfl (Nat.le_refl _) (Nat.le_refl _) rfl
    · intro h
      rw [e_164_1] at h
      refine K_of b_164_32 h_164_32 ?_
      refine q_aload rfl ?_
      refine q_getI (c0 := 5) (j := 11) rfl rfl (zl hS 81 (by decide)) (sk hS 81 (by decide) rfl) (Or.inr rfl) (by decide) ?_
      refine q_if_eq (fun c_36 => ?_) (fun c_36 => ?_)
      · rw [if_pos c_36] at h
        exact (ih dp d hdp _ _ i1 i2 i3 0 0 _ _).2.2.1 h
      · rw [if_neg c_36] at h
        refine q_aload rfl ?_
        obtain ⟨d_40, h⟩ := ite_some h
        obtain ⟨⟨I0_40, L0_40⟩, e_40, h⟩ := Option.bind_eq_some_iff.mp h
        dsimp only at h
        refine q_fv1V (a_165 X hS (d := d - 1) (by omega) e_40) (by omega) (Nat.le_refl _) (Nat.le_refl _) rfl (Nat.le_of_ble_eq_true rfl) ⟨(zl hS 81 (by decide)), congrArg Prod.fst (sk hS 81 (by decide) rfl), by decide⟩ ?_
        refine q_aload rfl ?_
        refine q_iconst (0) (by decide) ?_
        refine q_putZ (c0 := 5) (j := 11) rfl rfl (zl hS 81 (by decide)) (sk hS 81 (by decide) rfl) rfl (Or.inl rfl) ?_
        obtain ⟨I_45, nI_45, h⟩ := stI_some h
        refine q_nI nI_45 ?_
        refine q_end ?_
        exact (ih dp d hdp _ _ i1 i2 i3 0 0 _ _).2.2.1 h
    · intro h
      rw [e_164_2] at h
      refine K_of b_164_48 h_164_48 ?_
      refine q_aload rfl ?_
      refine q_iload rfl ?_
      refine q_putI (c0 := 5) (j := 8) rfl rfl (zl hS 81 (by decide)) (sk hS 81 (by decide) rfl) rfl ?_
      obtain ⟨I_50, nI_50, h⟩ := stI_some h
      refine q_nI nI_50 ?_
      refine q_aload rfl ?_
      refine q_iload rfl ?_
      refine q_putI (c0 := 5) (j := 9) rfl rfl (zl hS 81 (by decide)) (sk hS 81 (by decide) rfl) rfl ?_
      obtain ⟨I_55, nI_55, h⟩ := stI_some h
      refine q_nI nI_55 ?_
      refine q_aload rfl ?_
      refine q_iload rfl ?_
      refine q_putI (c0 := 5) (j := 10) rfl rfl (zl hS 81 (by decide)) (sk hS 81 (by decide) rfl) rfl ?_
      obtain ⟨I_60, nI_60, h⟩ := stI_some h
      refine q_nI nI_60 ?_
      refine q_aload rfl ?_
      refine q_iconst (0) (by decide) ?_
      refine q_putI (c0 := 5) (j := 12) rfl rfl (zl hS 81 (by decide)) (sk hS 81 (by decide) rfl) rfl ?_
      obtain ⟨I_65, nI_65, h⟩ := stI_some h
      refine q_nI nI_65 ?_
      refine q_aload rfl ?_
      refine q_iconst (1000000000) (by decide) ?_
      refine q_putI (c0 := 5) (j := 13) rfl rfl (zl hS 81 (by decide)) (sk hS 81 (by decide) rfl) rfl ?_
      obtain ⟨I_71, nI_71, h⟩ := stI_some h
      refine q_nI nI_71 ?_
      refine q_aload rfl ?_
      refine q_iconst (0) (by decide) ?_
      refine q_putI (c0 := 5) (j := 14) rfl rfl (zl hS 81 (by decide)) (sk hS 81 (by decide) rfl) rfl ?_
      obtain ⟨I_76, nI_76, h⟩ := stI_some h
      refine q_nI nI_76 ?_
      refine q_aload rfl ?_
      refine q_getRs (c0 := 5) (j := 2) rfl rfl (zl hS 81 (by decide)) (sk hS 81 (by decide) rfl) rfl (by decide) (r_81_2 hS) ?_
      refine q_iconst (1) (by decide) ?_
      refine q_aload rfl ?_
      refine q_getI (c0 := 5) (j := 6) rfl rfl (zl hS 81 (by decide)) (sk hS 81 (by decide) rfl) (Or.inl rfl) (by decide) ?_
      refine q_ishl ?_
      refine q_iconst (1) (by decide) ?_
      refine q_isub ?_
      obtain ⟨⟨u_91, v_91⟩, h⟩ := ite_some h
      refine q_ialN (Int32.toNatClampNeg (((1 : Int32) <<< ((I_76 81 6) &&& 31)) - (1 : Int32))) (nx u_91) (zl hS 83 (by decide)) (sk hS 83 (by decide) rfl) v_91 (by decide) ?_
      obtain ⟨v_92, nv_92, h⟩ := stI_some h
      refine q_eqi nv_92.symm ?_
      refine q_istore (ls1 := [some (.ref 81), some (.int i1), some (.int i2), some (.int i3), some (.int v_92), none]) (Nat.le_of_ble_eq_true rfl) rfl ?_
      refine q_iconst (0) (by decide) ?_
      refine q_istore (ls1 := [some (.ref 81), some (.int i1), some (.int i2), some (.int i3), some (.int v_92), some (.int (0 : Int32))]) (Nat.le_of_ble_eq_true rfl) rfl ?_
      refine q_end ?_
      exact (ih dp d hdp _ _ i1 i2 i3 v_92 (0 : Int32) _ _).2.2.2.1 h
    · intro h
      rw [e_164_3] at h
      refine K_of b_164_97 h_164_97 ?_
      refine q_iload rfl ?_
      refine q_iconst (1) (by decide) ?_
      refine q_aload rfl ?_
      refine q_getI (c0 := 5) (j := 7) rfl rfl (zl hS 81 (by decide)) (sk hS 81 (by decide) rfl) (Or.inl rfl) (by decide) ?_
      refine q_ishl ?_
      refine q_icmp_ge (fun c_105 => ?_) (fun c_105 => ?_)
      · rw [if_pos c_105] at h
        refine K_of b_164_145 h_164_145 ?_
        cases h
        exact q_vret rfl (Nat.le_refl _) (Nat.le_refl _) rfl
      · rw [if_neg c_105] at h
        refine q_aload rfl ?_
        refine q_getRs (c0 := 5) (j := 4) rfl rfl (zl hS 81 (by decide)) (sk hS 81 (by decide) rfl) rfl (by decide) (r_81_4 hS) ?_
        refine q_iload rfl ?_
        obtain ⟨⟨u_114, v_114⟩, h⟩ := ite_some h
        refine q_ialN (Int32.toNatClampNeg i5) (nx u_114) (zl hS 85 (by decide)) (sk hS 85 (by decide) rfl) v_114 (by decide) ?_
        refine q_iload rfl ?_
        refine q_icmp_gt (fun c_116 => ?_) (fun c_116 => ?_)
        · rw [if_pos c_116] at h
          exact (ih dp d hdp _ _ i1 i2 i3 i4 i5 _ _).2.2.2.2 h
        · rw [if_neg c_116] at h
          refine q_aload rfl ?_
          refine q_getRs (c0 := 5) (j := 4) rfl rfl (zl hS 81 (by decide)) (sk hS 81 (by decide) rfl) rfl (by decide) (r_81_4 hS) ?_
          refine q_iload rfl ?_
          obtain ⟨⟨u_125, v_125⟩, h⟩ := ite_some h
          refine q_ialN (Int32.toNatClampNeg i5) (nx u_125) (zl hS 85 (by decide)) (sk hS 85 (by decide) rfl) v_125 (by decide) ?_
          refine q_iload rfl ?_
          refine q_iadd ?_
          refine q_iload rfl ?_
          refine q_icmp_lt (fun c_130 => ?_) (fun c_130 => ?_)
          · rw [if_pos c_130] at h
            exact (ih dp d hdp _ _ i1 i2 i3 i4 i5 _ _).2.2.2.2 h
          · rw [if_neg c_130] at h
            refine q_aload rfl ?_
            refine q_iload rfl ?_
            obtain ⟨d_136, h⟩ := ite_some h
            obtain ⟨⟨I0_136, L0_136⟩, e_136, h⟩ := Option.bind_eq_some_iff.mp h
            dsimp only at h
            refine q_fv2V (a_167 X hS (d := d - 1) (by omega) e_136) (by omega) (Nat.le_refl _) (Nat.le_refl _) rfl (Nat.le_of_ble_eq_true rfl) ⟨(zl hS 81 (by decide)), congrArg Prod.fst (sk hS 81 (by decide) rfl), by decide⟩ ?_
            refine q_end ?_
            exact (ih dp d hdp _ _ i1 i2 i3 i4 i5 _ _).2.2.2.2 h
    · intro h
      rw [e_164_4] at h
      refine K_of b_164_139 h_164_139 ?_
      refine q_iinc (ls1 := [some (.ref 81), some (.int i1), some (.int i2), some (.int i3), some (.int i4), some (.int (i5 + Int32.ofInt (1)))]) rfl rfl ?_
      refine q_goto ?_
      exact (ih dp d hdp _ _ i1 i2 i3 i4 (i5 + Int32.ofInt (1)) _ _).2.2.2.1 h
theorem a_164 (X : GX) {z : Nat} {kd : Nat → Nat × Nat} {Rf : Nat → Nat → Option Nat} (hS : Sh z kd Rf) {n dp d : Nat} (hd : dp ≤ d) {I : (Nat → Nat → Int32)} {L : (Nat → Nat → Int64)} {i1 : Int32} {i2 : Int32} {i3 : Int32} {I1 : (Nat → Nat → Int32)} {L1 : (Nat → Nat → Int64)} (h : g_164 n dp (z, kd, Rf) 0 I L i1 i2 i3 0 0 = some (I1, L1)) : Ct X d 164 0 0 [.ref 81, .int i1, .int i2, .int i3] (z, kd, I, L, Rf) (AV (fun τ => τ = (z, kd, I1, L1, Rf))) :=
  Ct_of mu_164 (Nat.le_of_ble_eq_true rfl) ((w_164 X hS n dp d hd I L i1 i2 i3 0 0 _ _).1 h)

/-! 163 CutFloor.mix(IIII)I -/
set_option maxHeartbeats 4000000 in
set_option maxRecDepth 100000 in
def g_163 : Nat → Nat → EN → Nat → (Nat → Nat → Int32) → (Nat → Nat → Int64) → Int32 → Int32 → Int32 → Int32 →  Option (Int32 × (Nat → Nat → Int32) × (Nat → Nat → Int64))
  | 0, _, _, _, _, _, _, _, _, _ => none
  | n + 1, dp, e, lab, I, L, i1, i2, i3, i4 =>
    if lab = 0 then (if 1 ≤ dp then (g_14 n (dp - 1) e 0 I L i1 (1 : Int32) (1584 : Int32)).bind (fun ⟨x0_5, I0_5, L0_5⟩ => (if x0_5 = 0 then (some ((-1 : Int32), I0_5, L0_5)) else (if 1 ≤ dp then (g_14 n (dp - 1) e 0 I0_5 L0_5 i2 (1 : Int32) (1584 : Int32)).bind (fun ⟨x1_16, I1_16, L1_16⟩ => (if x1_16 = 0 then (some ((-1 : Int32), I1_16, L1_16)) else (if 1 ≤ dp then (g_14 n (dp - 1) e 0 I1_16 L1_16 i3 (0 : Int32) (100 : Int32)).bind (fun ⟨x2_26, I2_26, L2_26⟩ => (if x2_26 = 0 then (some ((-1 : Int32), I2_26, L2_26)) else (if 1 ≤ dp then (g_14 n (dp - 1) e 0 I2_26 L2_26 i4 (0 : Int32) (2 : Int32)).bind (fun ⟨x3_36, I3_36, L3_36⟩ => (if x3_36 = 0 then (some ((-1 : Int32), I3_36, L3_36)) else (if 1 ≤ dp then (g_164 n (dp - 1) e 0 I3_36 L3_36 i1 i2 i3 0 0).bind (fun ⟨I4_51, L4_51⟩ => (if i4 = (2 : Int32) then (some ((I4_51 81 12), I4_51, L4_51)) else (if (I4_51 81 12) = 0 then (some ((-1 : Int32), I4_51, L4_51)) else (if i4 = 0 then (some ((I4_51 81 13), I4_51, L4_51)) else (some ((I4_51 81 14), I4_51, L4_51)))))) else none))) else none))) else none))) else none))) else none)
    else none
set_option maxRecDepth 100000 in
theorem e_163_0 (n dp : Nat) (e : EN) (I : (Nat → Nat → Int32)) (L : (Nat → Nat → Int64)) (i1 : Int32) (i2 : Int32) (i3 : Int32) (i4 : Int32) : g_163 (n + 1) dp e 0 I L i1 i2 i3 i4 = (if 1 ≤ dp then (g_14 n (dp - 1) e 0 I L i1 (1 : Int32) (1584 : Int32)).bind (fun ⟨x0_5, I0_5, L0_5⟩ => (if x0_5 = 0 then (some ((-1 : Int32), I0_5, L0_5)) else (if 1 ≤ dp then (g_14 n (dp - 1) e 0 I0_5 L0_5 i2 (1 : Int32) (1584 : Int32)).bind (fun ⟨x1_16, I1_16, L1_16⟩ => (if x1_16 = 0 then (some ((-1 : Int32), I1_16, L1_16)) else (if 1 ≤ dp then (g_14 n (dp - 1) e 0 I1_16 L1_16 i3 (0 : Int32) (100 : Int32)).bind (fun ⟨x2_26, I2_26, L2_26⟩ => (if x2_26 = 0 then (some ((-1 : Int32), I2_26, L2_26)) else (if 1 ≤ dp then (g_14 n (dp - 1) e 0 I2_26 L2_26 i4 (0 : Int32) (2 : Int32)).bind (fun ⟨x3_36, I3_36, L3_36⟩ => (if x3_36 = 0 then (some ((-1 : Int32), I3_36, L3_36)) else (if 1 ≤ dp then (g_164 n (dp - 1) e 0 I3_36 L3_36 i1 i2 i3 0 0).bind (fun ⟨I4_51, L4_51⟩ => (if i4 = (2 : Int32) then (some ((I4_51 81 12), I4_51, L4_51)) else (if (I4_51 81 12) = 0 then (some ((-1 : Int32), I4_51, L4_51)) else (if i4 = 0 then (some ((I4_51 81 13), I4_51, L4_51)) else (some ((I4_51 81 14), I4_51, L4_51)))))) else none))) else none))) else none))) else none))) else none) := by rw [g_163.eq_2, if_pos (show (0 : Nat) = 0 from rfl)]
set_option maxHeartbeats 8000000 in
set_option maxRecDepth 100000 in
theorem w_163 (X : GX) {z : Nat} {kd : Nat → Nat × Nat} {Rf : Nat → Nat → Option Nat} (hS : Sh z kd Rf) : ∀ (n dp d : Nat), dp ≤ d → ∀ (I : (Nat → Nat → Int32)) (L : (Nat → Nat → Int64)) (i1 : Int32) (i2 : Int32) (i3 : Int32) (i4 : Int32) (r : Int32) (I1 : (Nat → Nat → Int32)) (L1 : (Nat → Nat → Int64)), (g_163 n dp (z, kd, Rf) 0 I L i1 i2 i3 i4 = some (r, I1, L1) → K X d 163 0 0 (AI (fun x τ => x = r ∧ τ = (z, kd, I1, L1, Rf))) 0 [some (.ref 0), some (.int i1), some (.int i2), some (.int i3), some (.int i4)] [] (z, kd, I, L, Rf) 0 0) := by
  intro n
  induction n with
  | zero => intro dp d hdp I L i1 i2 i3 i4 r I1 L1; exact fun h => by cases h
  | succ n ih =>
    intro dp d hdp I L i1 i2 i3 i4 r I1 L1
    · intro h
      rw [e_163_0] at h
      refine K_of b_163_0 h_163_0 ?_
      refine q_iload rfl ?_
      refine q_iconst (1) (by decide) ?_
      refine q_iconst (1584) (by decide) ?_
      obtain ⟨d_5, h⟩ := ite_some h
      obtain ⟨⟨x0_5, I0_5, L0_5⟩, e_5, h⟩ := Option.bind_eq_some_iff.mp h
      dsimp only at h
      refine q_fs3I (a_14 X hS (d := d - 1) (by omega) e_5) (by omega) (Nat.le_refl _) (Nat.le_refl _) rfl (Nat.le_of_ble_eq_true rfl) ?_
      refine q_if_eq (fun c_8 => ?_) (fun c_8 => ?_)
      · rw [if_pos c_8] at h
        refine K_of b_163_42 h_163_42 ?_
        refine q_iconst (-1) (by decide) ?_
        cases h
        exact q_iret rfl (Nat.le_refl _) (Nat.le_refl _) ⟨rfl, rfl⟩
      · rw [if_neg c_8] at h
        refine q_iload rfl ?_
        refine q_iconst (1) (by decide) ?_
        refine q_iconst (1584) (by decide) ?_
        obtain ⟨d_16, h⟩ := ite_some h
        obtain ⟨⟨x1_16, I1_16, L1_16⟩, e_16, h⟩ := Option.bind_eq_some_iff.mp h
        dsimp only at h
        refine q_fs3I (a_14 X hS (d := d - 1) (by omega) e_16) (by omega) (Nat.le_refl _) (Nat.le_refl _) rfl (Nat.le_of_ble_eq_true rfl) ?_
        refine q_if_eq (fun c_19 => ?_) (fun c_19 => ?_)
        · rw [if_pos c_19] at h
          refine K_of b_163_42 h_163_42 ?_
          refine q_iconst (-1) (by decide) ?_
          cases h
          exact q_iret rfl (Nat.le_refl _) (Nat.le_refl _) ⟨rfl, rfl⟩
        · rw [if_neg c_19] at h
          refine q_iload rfl ?_
          refine q_iconst (0) (by decide) ?_
          refine q_iconst (100) (by decide) ?_
          obtain ⟨d_26, h⟩ := ite_some h
          obtain ⟨⟨x2_26, I2_26, L2_26⟩, e_26, h⟩ := Option.bind_eq_some_iff.mp h
          dsimp only at h
          refine q_fs3I (a_14 X hS (d := d - 1) (by omega) e_26) (by omega) (Nat.le_refl _) (Nat.le_refl _) rfl (Nat.le_of_ble_eq_true rfl) ?_
          refine q_if_eq (fun c_29 => ?_) (fun c_29 => ?_)
          · rw [if_pos c_29] at h
            refine K_of b_163_42 h_163_42 ?_
            refine q_iconst (-1) (by decide) ?_
            cases h
            exact q_iret rfl (Nat.le_refl _) (Nat.le_refl _) ⟨rfl, rfl⟩
          · rw [if_neg c_29] at h
            refine q_iload rfl ?_
            refine q_iconst (0) (by decide) ?_
            refine q_iconst (2) (by decide) ?_
            obtain ⟨d_36, h⟩ := ite_some h
            obtain ⟨⟨x3_36, I3_36, L3_36⟩, e_36, h⟩ := Option.bind_eq_some_iff.mp h
            dsimp only at h
            refine q_fs3I (a_14 X hS (d := d - 1) (by omega) e_36) (by omega) (Nat.le_refl _) (Nat.le_refl _) rfl (Nat.le_of_ble_eq_true rfl) ?_
            refine q_if_ne (fun c_39 => ?_) (fun c_39 => ?_)
            · rw [if_neg c_39] at h
              refine K_of b_163_44 h_163_44 ?_
              refine q_aload rfl ?_
              refine q_getRs (c0 := 11) (j := 5) rfl rfl (zl hS 0 (by decide)) (sk hS 0 (by decide) rfl) rfl (by decide) (r_0_5 hS) ?_
              refine q_iload rfl ?_
              refine q_iload rfl ?_
              refine q_iload rfl ?_
              obtain ⟨d_51, h⟩ := ite_some h
              obtain ⟨⟨I4_51, L4_51⟩, e_51, h⟩ := Option.bind_eq_some_iff.mp h
              dsimp only at h
              refine q_fv4V (a_164 X hS (d := d - 1) (by omega) e_51) (by omega) (Nat.le_refl _) (Nat.le_refl _) rfl (Nat.le_of_ble_eq_true rfl) ⟨(zl hS 81 (by decide)), congrArg Prod.fst (sk hS 81 (by decide) rfl), by decide⟩ ?_
              refine q_iload rfl ?_
              refine q_iconst (2) (by decide) ?_
              refine q_icmp_ne (fun c_57 => ?_) (fun c_57 => ?_)
              · rw [if_neg c_57] at h
                refine K_of b_163_68 h_163_68 ?_
                refine q_aload rfl ?_
                refine q_getRs (c0 := 11) (j := 5) rfl rfl (zl hS 0 (by decide)) (sk hS 0 (by decide) rfl) rfl (by decide) (r_0_5 hS) ?_
                refine q_getI (c0 := 5) (j := 12) rfl rfl (zl hS 81 (by decide)) (sk hS 81 (by decide) rfl) (Or.inl rfl) (by decide) ?_
                refine q_if_ne (fun c_75 => ?_) (fun c_75 => ?_)
                · rw [if_neg c_75] at h
                  refine K_of b_163_80 h_163_80 ?_
                  refine q_iload rfl ?_
                  refine q_if_ne (fun c_82 => ?_) (fun c_82 => ?_)
                  · rw [if_neg c_82] at h
                    refine K_of b_163_95 h_163_95 ?_
                    refine q_aload rfl ?_
                    refine q_getRs (c0 := 11) (j := 5) rfl rfl (zl hS 0 (by decide)) (sk hS 0 (by decide) rfl) rfl (by decide) (r_0_5 hS) ?_
                    refine q_getI (c0 := 5) (j := 14) rfl rfl (zl hS 81 (by decide)) (sk hS 81 (by decide) rfl) (Or.inl rfl) (by decide) ?_
                    refine q_end ?_
                    refine K_of b_163_102 h_163_102 ?_
                    cases h
                    exact q_iret rfl (Nat.le_refl _) (Nat.le_refl _) ⟨rfl, rfl⟩
                  · rw [if_pos c_82] at h
                    refine q_aload rfl ?_
                    refine q_getRs (c0 := 11) (j := 5) rfl rfl (zl hS 0 (by decide)) (sk hS 0 (by decide) rfl) rfl (by decide) (r_0_5 hS) ?_
                    refine q_getI (c0 := 5) (j := 13) rfl rfl (zl hS 81 (by decide)) (sk hS 81 (by decide) rfl) (Or.inl rfl) (by decide) ?_
                    refine q_goto ?_
                    refine K_of b_163_102 h_163_102 ?_
                    cases h
                    exact q_iret rfl (Nat.le_refl _) (Nat.le_refl _) ⟨rfl, rfl⟩
                · rw [if_pos c_75] at h
                  refine q_iconst (-1) (by decide) ?_
                  cases h
                  exact q_iret rfl (Nat.le_refl _) (Nat.le_refl _) ⟨rfl, rfl⟩
              · rw [if_pos c_57] at h
                refine q_aload rfl ?_
                refine q_getRs (c0 := 11) (j := 5) rfl rfl (zl hS 0 (by decide)) (sk hS 0 (by decide) rfl) rfl (by decide) (r_0_5 hS) ?_
                refine q_getI (c0 := 5) (j := 12) rfl rfl (zl hS 81 (by decide)) (sk hS 81 (by decide) rfl) (Or.inl rfl) (by decide) ?_
                cases h
                exact q_iret rfl (Nat.le_refl _) (Nat.le_refl _) ⟨rfl, rfl⟩
            · rw [if_pos c_39] at h
              refine q_end ?_
              refine K_of b_163_42 h_163_42 ?_
              refine q_iconst (-1) (by decide) ?_
              cases h
              exact q_iret rfl (Nat.le_refl _) (Nat.le_refl _) ⟨rfl, rfl⟩
theorem a_163 (X : GX) {z : Nat} {kd : Nat → Nat × Nat} {Rf : Nat → Nat → Option Nat} (hS : Sh z kd Rf) {n dp d : Nat} (hd : dp ≤ d) {I : (Nat → Nat → Int32)} {L : (Nat → Nat → Int64)} {i1 : Int32} {i2 : Int32} {i3 : Int32} {i4 : Int32} {I1 : (Nat → Nat → Int32)} {L1 : (Nat → Nat → Int64)} {r : Int32} (h : g_163 n dp (z, kd, Rf) 0 I L i1 i2 i3 i4 = some (r, I1, L1)) : Ct X d 163 0 0 [.ref 0, .int i1, .int i2, .int i3, .int i4] (z, kd, I, L, Rf) (AI (fun x τ => x = r ∧ τ = (z, kd, I1, L1, Rf))) :=
  Ct_of mu_163 (Nat.le_of_ble_eq_true rfl) ((w_163 X hS n dp d hd I L i1 i2 i3 i4 _ _ _) h)

/-! 171 CutFloor$Stock.oldest(II)I -/
set_option maxHeartbeats 4000000 in
set_option maxRecDepth 100000 in
def g_171 : Nat → Nat → EN → Nat → (Nat → Nat → Int32) → (Nat → Nat → Int64) → Int32 → Int32 → Int32 → Int32 → Int32 → Int32 →  Option (Int32 × (Nat → Nat → Int32) × (Nat → Nat → Int64))
  | 0, _, _, _, _, _, _, _, _, _, _, _ => none
  | n + 1, dp, e, lab, I, L, i1, i2, i3, i4, i5, i6 =>
    if lab = 0 then (g_171 n dp e 1 I L i1 i2 (-1 : Int32) (i2 + (1 : Int32)) (0 : Int32) 0)
    else if lab = 1 then (if (I 1 9) ≤ i5 then (some (i3, I, L)) else (if 0 ≤ ((i5 * (7 : Int32)) + (2 : Int32)) ∧ (Int32.toNatClampNeg ((i5 * (7 : Int32)) + (2 : Int32))) < 112 then (stI (I 7 (Int32.toNatClampNeg ((i5 * (7 : Int32)) + (2 : Int32)))) (fun v_37 => (if 0 ≤ ((i5 * (7 : Int32)) + (6 : Int32)) ∧ (Int32.toNatClampNeg ((i5 * (7 : Int32)) + (6 : Int32))) < 112 then (if (I 7 (Int32.toNatClampNeg ((i5 * (7 : Int32)) + (6 : Int32)))) = (1 : Int32) then (if v_37 < i1 then (g_171 n dp e 2 I L i1 i2 i3 i4 i5 v_37) else (if i4 ≤ v_37 then (g_171 n dp e 2 I L i1 i2 i3 i4 i5 v_37) else (g_171 n dp e 2 I L i1 i2 i5 v_37 i5 v_37))) else (g_171 n dp e 2 I L i1 i2 i3 i4 i5 v_37)) else none))) else none))
    else if lab = 2 then (g_171 n dp e 1 I L i1 i2 i3 i4 (i5 + Int32.ofInt (1)) 0)
    else none
set_option maxRecDepth 100000 in
theorem e_171_0 (n dp : Nat) (e : EN) (I : (Nat → Nat → Int32)) (L : (Nat → Nat → Int64)) (i1 : Int32) (i2 : Int32) (i3 : Int32) (i4 : Int32) (i5 : Int32) (i6 : Int32) : g_171 (n + 1) dp e 0 I L i1 i2 i3 i4 i5 i6 = (g_171 n dp e 1 I L i1 i2 (-1 : Int32) (i2 + (1 : Int32)) (0 : Int32) 0) := by rw [g_171.eq_2, if_pos (show (0 : Nat) = 0 from rfl)]
set_option maxRecDepth 100000 in
theorem e_171_1 (n dp : Nat) (e : EN) (I : (Nat → Nat → Int32)) (L : (Nat → Nat → Int64)) (i1 : Int32) (i2 : Int32) (i3 : Int32) (i4 : Int32) (i5 : Int32) (i6 : Int32) : g_171 (n + 1) dp e 1 I L i1 i2 i3 i4 i5 i6 = (if (I 1 9) ≤ i5 then (some (i3, I, L)) else (if 0 ≤ ((i5 * (7 : Int32)) + (2 : Int32)) ∧ (Int32.toNatClampNeg ((i5 * (7 : Int32)) + (2 : Int32))) < 112 then (stI (I 7 (Int32.toNatClampNeg ((i5 * (7 : Int32)) + (2 : Int32)))) (fun v_37 => (if 0 ≤ ((i5 * (7 : Int32)) + (6 : Int32)) ∧ (Int32.toNatClampNeg ((i5 * (7 : Int32)) + (6 : Int32))) < 112 then (if (I 7 (Int32.toNatClampNeg ((i5 * (7 : Int32)) + (6 : Int32)))) = (1 : Int32) then (if v_37 < i1 then (g_171 n dp e 2 I L i1 i2 i3 i4 i5 v_37) else (if i4 ≤ v_37 then (g_171 n dp e 2 I L i1 i2 i3 i4 i5 v_37) else (g_171 n dp e 2 I L i1 i2 i5 v_37 i5 v_37))) else (g_171 n dp e 2 I L i1 i2 i3 i4 i5 v_37)) else none))) else none)) := by rw [g_171.eq_2, if_neg (show ¬ ((1 : Nat) = 0) by decide), if_pos (show (1 : Nat) = 1 from rfl)]
set_option maxRecDepth 100000 in
theorem e_171_2 (n dp : Nat) (e : EN) (I : (Nat → Nat → Int32)) (L : (Nat → Nat → Int64)) (i1 : Int32) (i2 : Int32) (i3 : Int32) (i4 : Int32) (i5 : Int32) (i6 : Int32) : g_171 (n + 1) dp e 2 I L i1 i2 i3 i4 i5 i6 = (g_171 n dp e 1 I L i1 i2 i3 i4 (i5 + Int32.ofInt (1)) 0) := by rw [g_171.eq_2, if_neg (show ¬ ((2 : Nat) = 0) by decide), if_neg (show ¬ ((2 : Nat) = 1) by decide), if_pos (show (2 : Nat) = 2 from rfl)]
set_option maxHeartbeats 8000000 in
set_option maxRecDepth 100000 in
theorem w_171 (X : GX) {z : Nat} {kd : Nat → Nat × Nat} {Rf : Nat → Nat → Option Nat} (hS : Sh z kd Rf) : ∀ (n dp d : Nat), dp ≤ d → ∀ (I : (Nat → Nat → Int32)) (L : (Nat → Nat → Int64)) (i1 : Int32) (i2 : Int32) (i3 : Int32) (i4 : Int32) (i5 : Int32) (i6 : Int32) (r : Int32) (I1 : (Nat → Nat → Int32)) (L1 : (Nat → Nat → Int64)), (g_171 n dp (z, kd, Rf) 0 I L i1 i2 i3 i4 i5 i6 = some (r, I1, L1) → K X d 171 0 0 (AI (fun x τ => x = r ∧ τ = (z, kd, I1, L1, Rf))) 0 [some (.ref 87), some (.int i1), some (.int i2), none, none, none, none] [] (z, kd, I, L, Rf) 0 0) ∧
    (g_171 n dp (z, kd, Rf) 1 I L i1 i2 i3 i4 i5 i6 = some (r, I1, L1) → K X d 171 0 0 (AI (fun x τ => x = r ∧ τ = (z, kd, I1, L1, Rf))) 10 [some (.ref 87), some (.int i1), some (.int i2), some (.int i3), some (.int i4), some (.int i5), none] [] (z, kd, I, L, Rf) 0 0) ∧
    (g_171 n dp (z, kd, Rf) 2 I L i1 i2 i3 i4 i5 i6 = some (r, I1, L1) → K X d 171 0 0 (AI (fun x τ => x = r ∧ τ = (z, kd, I1, L1, Rf))) 79 [some (.ref 87), some (.int i1), some (.int i2), some (.int i3), some (.int i4), some (.int i5), some (.int i6)] [] (z, kd, I, L, Rf) 0 0) := by
  intro n
  induction n with
  | zero => intro dp d hdp I L i1 i2 i3 i4 i5 i6 r I1 L1; exact ⟨(fun h => by cases h), (fun h => by cases h), (fun h => by cases h)⟩
  | succ n ih =>
    intro dp d hdp I L i1 i2 i3 i4 i5 i6 r I1 L1
    refine ⟨?_, ?_, ?_⟩
    · intro h
      rw [e_171_0] at h
      refine K_of b_171_0 h_171_0 ?_
      refine q_iconst (-1) (by decide) ?_
      refine q_istore (ls1 := [some (.ref 87), some (.int i1), some (.int i2), some (.int (-1 : Int32)), none, none, none]) (Nat.le_of_ble_eq_true rfl) rfl ?_
      refine q_iload rfl ?_
      refine q_iconst (1) (by decide) ?_
      refine q_iadd ?_
      refine q_istore (ls1 := [some (.ref 87), some (.int i1), some (.int i2), some (.int (-1 : Int32)), some (.int (i2 + (1 : Int32))), none, none]) (Nat.le_of_ble_eq_true rfl) rfl ?_
      refine q_iconst (0) (by decide) ?_
      refine q_istore (ls1 := [some (.ref 87), some (.int i1), some (.int i2), some (.int (-1 : Int32)), some (.int (i2 + (1 : Int32))), some (.int (0 : Int32)), none]) (Nat.le_of_ble_eq_true rfl) rfl ?_
      refine q_end ?_
      exact (ih dp d hdp _ _ i1 i2 (-1 : Int32) (i2 + (1 : Int32)) (0 : Int32) 0 _ _ _).2.1 h
    · intro h
      rw [e_171_1] at h
      refine K_of b_171_10 h_171_10 ?_
      refine q_iload rfl ?_
      refine q_aload rfl ?_
      refine q_getRs (c0 := 9) (j := 0) rfl rfl (zl hS 87 (by decide)) (sk hS 87 (by decide) rfl) rfl (by decide) (r_87_0 hS) ?_
      refine q_getI (c0 := 3) (j := 9) rfl rfl (zl hS 1 (by decide)) (sk hS 1 (by decide) rfl) (Or.inl rfl) (by decide) ?_
      refine q_icmp_ge (fun c_19 => ?_) (fun c_19 => ?_)
      · rw [if_pos c_19] at h
        refine K_of b_171_85 h_171_85 ?_
        refine q_iload rfl ?_
        cases h
        exact q_iret rfl (Nat.le_refl _) (Nat.le_refl _) ⟨rfl, rfl⟩
      · rw [if_neg c_19] at h
        refine q_aload rfl ?_
        refine q_getRs (c0 := 9) (j := 0) rfl rfl (zl hS 87 (by decide)) (sk hS 87 (by decide) rfl) rfl (by decide) (r_87_0 hS) ?_
        refine q_getRs (c0 := 3) (j := 5) rfl rfl (zl hS 1 (by decide)) (sk hS 1 (by decide) rfl) rfl (by decide) (r_1_5 hS) ?_
        refine q_iload rfl ?_
        refine q_iconst (7) (by decide) ?_
        refine q_imul ?_
        refine q_iconst (2) (by decide) ?_
        refine q_iadd ?_
        obtain ⟨⟨u_36, v_36⟩, h⟩ := ite_some h
        refine q_ialN (Int32.toNatClampNeg ((i5 * (7 : Int32)) + (2 : Int32))) (nx u_36) (zl hS 7 (by decide)) (sk hS 7 (by decide) rfl) v_36 (by decide) ?_
        obtain ⟨v_37, nv_37, h⟩ := stI_some h
        refine q_eqi nv_37.symm ?_
        refine q_istore (ls1 := [some (.ref 87), some (.int i1), some (.int i2), some (.int i3), some (.int i4), some (.int i5), some (.int v_37)]) (Nat.le_of_ble_eq_true rfl) rfl ?_
        refine q_aload rfl ?_
        refine q_getRs (c0 := 9) (j := 0) rfl rfl (zl hS 87 (by decide)) (sk hS 87 (by decide) rfl) rfl (by decide) (r_87_0 hS) ?_
        refine q_getRs (c0 := 3) (j := 5) rfl rfl (zl hS 1 (by decide)) (sk hS 1 (by decide) rfl) rfl (by decide) (r_1_5 hS) ?_
        refine q_iload rfl ?_
        refine q_iconst (7) (by decide) ?_
        refine q_imul ?_
        refine q_iconst (6) (by decide) ?_
        refine q_iadd ?_
        obtain ⟨⟨u_54, v_54⟩, h⟩ := ite_some h
        refine q_ialN (Int32.toNatClampNeg ((i5 * (7 : Int32)) + (6 : Int32))) (nx u_54) (zl hS 7 (by decide)) (sk hS 7 (by decide) rfl) v_54 (by decide) ?_
        refine q_iconst (1) (by decide) ?_
        refine q_icmp_ne (fun c_56 => ?_) (fun c_56 => ?_)
        · rw [if_neg c_56] at h
          exact (ih dp d hdp _ _ i1 i2 i3 i4 i5 v_37 _ _ _).2.2 h
        · rw [if_pos c_56] at h
          refine q_iload rfl ?_
          refine q_iload rfl ?_
          refine q_icmp_lt (fun c_62 => ?_) (fun c_62 => ?_)
          · rw [if_pos c_62] at h
            exact (ih dp d hdp _ _ i1 i2 i3 i4 i5 v_37 _ _ _).2.2 h
          · rw [if_neg c_62] at h
            refine q_iload rfl ?_
            refine q_iload rfl ?_
            refine q_icmp_ge (fun c_69 => ?_) (fun c_69 => ?_)
            · rw [if_pos c_69] at h
              exact (ih dp d hdp _ _ i1 i2 i3 i4 i5 v_37 _ _ _).2.2 h
            · rw [if_neg c_69] at h
              refine q_iload rfl ?_
              refine q_istore (ls1 := [some (.ref 87), some (.int i1), some (.int i2), some (.int i5), some (.int i4), some (.int i5), some (.int v_37)]) (Nat.le_of_ble_eq_true rfl) rfl ?_
              refine q_iload rfl ?_
              refine q_istore (ls1 := [some (.ref 87), some (.int i1), some (.int i2), some (.int i5), some (.int v_37), some (.int i5), some (.int v_37)]) (Nat.le_of_ble_eq_true rfl) rfl ?_
              refine q_end ?_
              exact (ih dp d hdp _ _ i1 i2 i5 v_37 i5 v_37 _ _ _).2.2 h
    · intro h
      rw [e_171_2] at h
      refine K_of b_171_79 h_171_79 ?_
      refine q_iinc (ls1 := [some (.ref 87), some (.int i1), some (.int i2), some (.int i3), some (.int i4), some (.int (i5 + Int32.ofInt (1))), some (.int i6)]) rfl rfl ?_
      refine q_goto ?_
      refine K_mask [true, true, true, true, true, true, false] (Nat.le_of_ble_eq_true rfl) ?_
      exact (ih dp d hdp _ _ i1 i2 i3 i4 (i5 + Int32.ofInt (1)) 0 _ _ _).2.1 h
theorem a_171 (X : GX) {z : Nat} {kd : Nat → Nat × Nat} {Rf : Nat → Nat → Option Nat} (hS : Sh z kd Rf) {n dp d : Nat} (hd : dp ≤ d) {I : (Nat → Nat → Int32)} {L : (Nat → Nat → Int64)} {i1 : Int32} {i2 : Int32} {I1 : (Nat → Nat → Int32)} {L1 : (Nat → Nat → Int64)} {r : Int32} (h : g_171 n dp (z, kd, Rf) 0 I L i1 i2 0 0 0 0 = some (r, I1, L1)) : Ct X d 171 0 0 [.ref 87, .int i1, .int i2] (z, kd, I, L, Rf) (AI (fun x τ => x = r ∧ τ = (z, kd, I1, L1, Rf))) :=
  Ct_of mu_171 (Nat.le_of_ble_eq_true rfl) ((w_171 X hS n dp d hd I L i1 i2 0 0 0 0 _ _ _).1 h)

/-! 170 CutFloor$Stock.takeOldest(IIII)I -/
set_option maxHeartbeats 4000000 in
set_option maxRecDepth 100000 in
def g_170 : Nat → Nat → EN → Nat → (Nat → Nat → Int32) → (Nat → Nat → Int64) → Int32 → Int32 → Int32 → Int32 → Int32 → Int32 →  Option (Int32 × (Nat → Nat → Int32) × (Nat → Nat → Int64))
  | 0, _, _, _, _, _, _, _, _, _, _, _ => none
  | n + 1, dp, e, lab, I, L, i1, i2, i3, i4, i5, i6 =>
    if lab = 0 then (g_170 n dp e 1 I L i1 i2 i3 i4 (0 : Int32) (0 : Int32))
    else if lab = 1 then (if i1 ≤ i6 then (some (i5, I, L)) else (if 1 ≤ dp then (g_171 n (dp - 1) e 0 I L (i2 - i4) (i2 - i3) 0 0 0 0).bind (fun ⟨x0_20, I0_20, L0_20⟩ => (if x0_20 = (-1 : Int32) then (some (i5, I0_20, L0_20)) else (if 0 ≤ ((x0_20 * (7 : Int32)) + (6 : Int32)) ∧ (Int32.toNatClampNeg ((x0_20 * (7 : Int32)) + (6 : Int32))) < 112 then (stI (u2 I0_20 7 (Int32.toNatClampNeg ((x0_20 * (7 : Int32)) + (6 : Int32))) (0 : Int32)) (fun I_50 => (stI (i5 ||| ((1 : Int32) <<< (x0_20 &&& 31))) (fun v_58 => (g_170 n dp e 1 I_50 L0_20 i1 i2 i3 i4 v_58 (i6 + Int32.ofInt (1))))))) else none))) else none))
    else none
set_option maxRecDepth 100000 in
theorem e_170_0 (n dp : Nat) (e : EN) (I : (Nat → Nat → Int32)) (L : (Nat → Nat → Int64)) (i1 : Int32) (i2 : Int32) (i3 : Int32) (i4 : Int32) (i5 : Int32) (i6 : Int32) : g_170 (n + 1) dp e 0 I L i1 i2 i3 i4 i5 i6 = (g_170 n dp e 1 I L i1 i2 i3 i4 (0 : Int32) (0 : Int32)) := by rw [g_170.eq_2, if_pos (show (0 : Nat) = 0 from rfl)]
set_option maxRecDepth 100000 in
theorem e_170_1 (n dp : Nat) (e : EN) (I : (Nat → Nat → Int32)) (L : (Nat → Nat → Int64)) (i1 : Int32) (i2 : Int32) (i3 : Int32) (i4 : Int32) (i5 : Int32) (i6 : Int32) : g_170 (n + 1) dp e 1 I L i1 i2 i3 i4 i5 i6 = (if i1 ≤ i6 then (some (i5, I, L)) else (if 1 ≤ dp then (g_171 n (dp - 1) e 0 I L (i2 - i4) (i2 - i3) 0 0 0 0).bind (fun ⟨x0_20, I0_20, L0_20⟩ => (if x0_20 = (-1 : Int32) then (some (i5, I0_20, L0_20)) else (if 0 ≤ ((x0_20 * (7 : Int32)) + (6 : Int32)) ∧ (Int32.toNatClampNeg ((x0_20 * (7 : Int32)) + (6 : Int32))) < 112 then (stI (u2 I0_20 7 (Int32.toNatClampNeg ((x0_20 * (7 : Int32)) + (6 : Int32))) (0 : Int32)) (fun I_50 => (stI (i5 ||| ((1 : Int32) <<< (x0_20 &&& 31))) (fun v_58 => (g_170 n dp e 1 I_50 L0_20 i1 i2 i3 i4 v_58 (i6 + Int32.ofInt (1))))))) else none))) else none)) := by rw [g_170.eq_2, if_neg (show ¬ ((1 : Nat) = 0) by decide), if_pos (show (1 : Nat) = 1 from rfl)]
set_option maxHeartbeats 8000000 in
set_option maxRecDepth 100000 in
theorem w_170 (X : GX) {z : Nat} {kd : Nat → Nat × Nat} {Rf : Nat → Nat → Option Nat} (hS : Sh z kd Rf) : ∀ (n dp d : Nat), dp ≤ d → ∀ (I : (Nat → Nat → Int32)) (L : (Nat → Nat → Int64)) (i1 : Int32) (i2 : Int32) (i3 : Int32) (i4 : Int32) (i5 : Int32) (i6 : Int32) (r : Int32) (I1 : (Nat → Nat → Int32)) (L1 : (Nat → Nat → Int64)), (g_170 n dp (z, kd, Rf) 0 I L i1 i2 i3 i4 i5 i6 = some (r, I1, L1) → K X d 170 0 0 (AI (fun x τ => x = r ∧ τ = (z, kd, I1, L1, Rf))) 0 [some (.ref 87), some (.int i1), some (.int i2), some (.int i3), some (.int i4), none, none, none] [] (z, kd, I, L, Rf) 0 0) ∧
    (g_170 n dp (z, kd, Rf) 1 I L i1 i2 i3 i4 i5 i6 = some (r, I1, L1) → K X d 170 0 0 (AI (fun x τ => x = r ∧ τ = (z, kd, I1, L1, Rf))) 6 [some (.ref 87), some (.int i1), some (.int i2), some (.int i3), some (.int i4), some (.int i5), some (.int i6), none] [] (z, kd, I, L, Rf) 0 0) := by
  intro n
  induction n with
  | zero => intro dp d hdp I L i1 i2 i3 i4 i5 i6 r I1 L1; exact ⟨(fun h => by cases h), (fun h => by cases h)⟩
  | succ n ih =>
    intro dp d hdp I L i1 i2 i3 i4 i5 i6 r I1 L1
    refine ⟨?_, ?_⟩
    · intro h
      rw [e_170_0] at h
      refine K_of b_170_0 h_170_0 ?_
      refine q_iconst (0) (by decide) ?_
      refine q_istore (ls1 := [some (.ref 87), some (.int i1), some (.int i2), some (.int i3), some (.int i4), some (.int (0 : Int32)), none, none]) (Nat.le_of_ble_eq_true rfl) rfl ?_
      refine q_iconst (0) (by decide) ?_
      refine q_istore (ls1 := [some (.ref 87), some (.int i1), some (.int i2), some (.int i3), some (.int i4), some (.int (0 : Int32)), some (.int (0 : Int32)), none]) (Nat.le_of_ble_eq_true rfl) rfl ?_
      refine q_end ?_
      exact (ih dp d hdp _ _ i1 i2 i3 i4 (0 : Int32) (0 : Int32) _ _ _).2 h
    · intro h
      rw [e_170_1] at h
      refine K_of b_170_6 h_170_6 ?_
      refine q_iload rfl ?_
      refine q_iload rfl ?_
      refine q_icmp_ge (fun c_9 => ?_) (fun c_9 => ?_)
      · rw [if_pos c_9] at h
        refine K_of b_170_66 h_170_66 ?_
        refine q_iload rfl ?_
        cases h
        exact q_iret rfl (Nat.le_refl _) (Nat.le_refl _) ⟨rfl, rfl⟩
      · rw [if_neg c_9] at h
        refine q_aload rfl ?_
        refine q_iload rfl ?_
        refine q_iload rfl ?_
        refine q_isub ?_
        refine q_iload rfl ?_
        refine q_iload rfl ?_
        refine q_isub ?_
        obtain ⟨d_20, h⟩ := ite_some h
        obtain ⟨⟨x0_20, I0_20, L0_20⟩, e_20, h⟩ := Option.bind_eq_some_iff.mp h
        dsimp only at h
        refine q_fv3I (a_171 X hS (d := d - 1) (by omega) e_20) (by omega) (Nat.le_refl _) (Nat.le_refl _) rfl (Nat.le_of_ble_eq_true rfl) ⟨(zl hS 87 (by decide)), congrArg Prod.fst (sk hS 87 (by decide) rfl), by decide⟩ ?_
        refine q_istore (ls1 := [some (.ref 87), some (.int i1), some (.int i2), some (.int i3), some (.int i4), some (.int i5), some (.int i6), some (.int x0_20)]) (Nat.le_of_ble_eq_true rfl) rfl ?_
        refine q_iload rfl ?_
        refine q_iconst (-1) (by decide) ?_
        refine q_icmp_ne (fun c_28 => ?_) (fun c_28 => ?_)
        · rw [if_neg c_28] at h
          refine K_of b_170_34 h_170_34 ?_
          refine q_aload rfl ?_
          refine q_getRs (c0 := 9) (j := 0) rfl rfl (zl hS 87 (by decide)) (sk hS 87 (by decide) rfl) rfl (by decide) (r_87_0 hS) ?_
          refine q_getRs (c0 := 3) (j := 5) rfl rfl (zl hS 1 (by decide)) (sk hS 1 (by decide) rfl) rfl (by decide) (r_1_5 hS) ?_
          refine q_iload rfl ?_
          refine q_iconst (7) (by decide) ?_
          refine q_imul ?_
          refine q_iconst (6) (by decide) ?_
          refine q_iadd ?_
          refine q_iconst (0) (by decide) ?_
          obtain ⟨⟨u_50, v_50⟩, h⟩ := ite_some h
          refine q_iasN (Int32.toNatClampNeg ((x0_20 * (7 : Int32)) + (6 : Int32))) (nx u_50) (zl hS 7 (by decide)) (sk hS 7 (by decide) rfl) v_50 (by decide) ?_
          obtain ⟨I_50, nI_50, h⟩ := stI_some h
          refine q_nI nI_50 ?_
          refine q_iload rfl ?_
          refine q_iconst (1) (by decide) ?_
          refine q_iload rfl ?_
          refine q_ishl ?_
          refine q_ior ?_
          obtain ⟨v_58, nv_58, h⟩ := stI_some h
          refine q_eqi nv_58.symm ?_
          refine q_istore (ls1 := [some (.ref 87), some (.int i1), some (.int i2), some (.int i3), some (.int i4), some (.int v_58), some (.int i6), some (.int x0_20)]) (Nat.le_of_ble_eq_true rfl) rfl ?_
          refine q_iinc (ls1 := [some (.ref 87), some (.int i1), some (.int i2), some (.int i3), some (.int i4), some (.int v_58), some (.int (i6 + Int32.ofInt (1))), some (.int x0_20)]) rfl rfl ?_
          refine q_goto ?_
          refine K_mask [true, true, true, true, true, true, true, false] (Nat.le_of_ble_eq_true rfl) ?_
          exact (ih dp d hdp _ _ i1 i2 i3 i4 v_58 (i6 + Int32.ofInt (1)) _ _ _).2 h
        · rw [if_pos c_28] at h
          refine q_goto ?_
          refine K_of b_170_66 h_170_66 ?_
          refine q_iload rfl ?_
          cases h
          exact q_iret rfl (Nat.le_refl _) (Nat.le_refl _) ⟨rfl, rfl⟩
theorem a_170 (X : GX) {z : Nat} {kd : Nat → Nat × Nat} {Rf : Nat → Nat → Option Nat} (hS : Sh z kd Rf) {n dp d : Nat} (hd : dp ≤ d) {I : (Nat → Nat → Int32)} {L : (Nat → Nat → Int64)} {i1 : Int32} {i2 : Int32} {i3 : Int32} {i4 : Int32} {I1 : (Nat → Nat → Int32)} {L1 : (Nat → Nat → Int64)} {r : Int32} (h : g_170 n dp (z, kd, Rf) 0 I L i1 i2 i3 i4 0 0 = some (r, I1, L1)) : Ct X d 170 0 0 [.ref 87, .int i1, .int i2, .int i3, .int i4] (z, kd, I, L, Rf) (AI (fun x τ => x = r ∧ τ = (z, kd, I1, L1, Rf))) :=
  Ct_of mu_170 (Nat.le_of_ble_eq_true rfl) ((w_170 X hS n dp d hd I L i1 i2 i3 i4 0 0 _ _ _).1 h)

/-! 169 CutFloor.send(IIII)I -/
set_option maxHeartbeats 4000000 in
set_option maxRecDepth 100000 in
def g_169 : Nat → Nat → EN → Nat → (Nat → Nat → Int32) → (Nat → Nat → Int64) → Int32 → Int32 → Int32 → Int32 →  Option (Int32 × (Nat → Nat → Int32) × (Nat → Nat → Int64))
  | 0, _, _, _, _, _, _, _, _, _ => none
  | n + 1, dp, e, lab, I, L, i1, i2, i3, i4 =>
    if lab = 0 then (if 1 ≤ dp then (g_14 n (dp - 1) e 0 I L i1 (1 : Int32) (16 : Int32)).bind (fun ⟨x0_4, I0_4, L0_4⟩ => (if x0_4 = 0 then (if 1 ≤ dp then (g_15 n (dp - 1) e 0 I0_4 L0_4 (-1 : Int32)).bind (fun ⟨x1_43, I1_43, L1_43⟩ => (some (x1_43, I1_43, L1_43))) else none) else (if 1 ≤ dp then (g_14 n (dp - 1) e 0 I0_4 L0_4 i2 (0 : Int32) (99 : Int32)).bind (fun ⟨x1_14, I1_14, L1_14⟩ => (if x1_14 = 0 then (if 1 ≤ dp then (g_15 n (dp - 1) e 0 I1_14 L1_14 (-1 : Int32)).bind (fun ⟨x2_43, I2_43, L2_43⟩ => (some (x2_43, I2_43, L2_43))) else none) else (if 1 ≤ dp then (g_14 n (dp - 1) e 0 I1_14 L1_14 i3 (0 : Int32) (99 : Int32)).bind (fun ⟨x2_24, I2_24, L2_24⟩ => (if x2_24 = 0 then (if 1 ≤ dp then (g_15 n (dp - 1) e 0 I2_24 L2_24 (-1 : Int32)).bind (fun ⟨x3_43, I3_43, L3_43⟩ => (some (x3_43, I3_43, L3_43))) else none) else (if 1 ≤ dp then (g_14 n (dp - 1) e 0 I2_24 L2_24 i4 (0 : Int32) (99 : Int32)).bind (fun ⟨x3_35, I3_35, L3_35⟩ => (if x3_35 = 0 then (if 1 ≤ dp then (g_15 n (dp - 1) e 0 I3_35 L3_35 (-1 : Int32)).bind (fun ⟨x4_43, I4_43, L4_43⟩ => (some (x4_43, I4_43, L4_43))) else none) else (if 1 ≤ dp then (g_157 n (dp - 1) e 0 I3_35 L3_35).bind (fun ⟨I4_51, L4_51⟩ => (if 1 ≤ dp then (g_170 n (dp - 1) e 0 I4_51 L4_51 i1 i2 i3 i4 0 0).bind (fun ⟨x5_64, I5_64, L5_64⟩ => (if 1 ≤ dp then (g_19 n (dp - 1) e 0 I5_64 L5_64 x5_64).bind (fun ⟨x6_67, I6_67, L6_67⟩ => (some (x6_67, I6_67, L6_67))) else none)) else none)) else none))) else none))) else none))) else none))) else none)
    else none
set_option maxRecDepth 100000 in
theorem e_169_0 (n dp : Nat) (e : EN) (I : (Nat → Nat → Int32)) (L : (Nat → Nat → Int64)) (i1 : Int32) (i2 : Int32) (i3 : Int32) (i4 : Int32) : g_169 (n + 1) dp e 0 I L i1 i2 i3 i4 = (if 1 ≤ dp then (g_14 n (dp - 1) e 0 I L i1 (1 : Int32) (16 : Int32)).bind (fun ⟨x0_4, I0_4, L0_4⟩ => (if x0_4 = 0 then (if 1 ≤ dp then (g_15 n (dp - 1) e 0 I0_4 L0_4 (-1 : Int32)).bind (fun ⟨x1_43, I1_43, L1_43⟩ => (some (x1_43, I1_43, L1_43))) else none) else (if 1 ≤ dp then (g_14 n (dp - 1) e 0 I0_4 L0_4 i2 (0 : Int32) (99 : Int32)).bind (fun ⟨x1_14, I1_14, L1_14⟩ => (if x1_14 = 0 then (if 1 ≤ dp then (g_15 n (dp - 1) e 0 I1_14 L1_14 (-1 : Int32)).bind (fun ⟨x2_43, I2_43, L2_43⟩ => (some (x2_43, I2_43, L2_43))) else none) else (if 1 ≤ dp then (g_14 n (dp - 1) e 0 I1_14 L1_14 i3 (0 : Int32) (99 : Int32)).bind (fun ⟨x2_24, I2_24, L2_24⟩ => (if x2_24 = 0 then (if 1 ≤ dp then (g_15 n (dp - 1) e 0 I2_24 L2_24 (-1 : Int32)).bind (fun ⟨x3_43, I3_43, L3_43⟩ => (some (x3_43, I3_43, L3_43))) else none) else (if 1 ≤ dp then (g_14 n (dp - 1) e 0 I2_24 L2_24 i4 (0 : Int32) (99 : Int32)).bind (fun ⟨x3_35, I3_35, L3_35⟩ => (if x3_35 = 0 then (if 1 ≤ dp then (g_15 n (dp - 1) e 0 I3_35 L3_35 (-1 : Int32)).bind (fun ⟨x4_43, I4_43, L4_43⟩ => (some (x4_43, I4_43, L4_43))) else none) else (if 1 ≤ dp then (g_157 n (dp - 1) e 0 I3_35 L3_35).bind (fun ⟨I4_51, L4_51⟩ => (if 1 ≤ dp then (g_170 n (dp - 1) e 0 I4_51 L4_51 i1 i2 i3 i4 0 0).bind (fun ⟨x5_64, I5_64, L5_64⟩ => (if 1 ≤ dp then (g_19 n (dp - 1) e 0 I5_64 L5_64 x5_64).bind (fun ⟨x6_67, I6_67, L6_67⟩ => (some (x6_67, I6_67, L6_67))) else none)) else none)) else none))) else none))) else none))) else none))) else none) := by rw [g_169.eq_2, if_pos (show (0 : Nat) = 0 from rfl)]
set_option maxHeartbeats 8000000 in
set_option maxRecDepth 100000 in
theorem w_169 (X : GX) {z : Nat} {kd : Nat → Nat × Nat} {Rf : Nat → Nat → Option Nat} (hS : Sh z kd Rf) : ∀ (n dp d : Nat), dp ≤ d → ∀ (I : (Nat → Nat → Int32)) (L : (Nat → Nat → Int64)) (i1 : Int32) (i2 : Int32) (i3 : Int32) (i4 : Int32) (r : Int32) (I1 : (Nat → Nat → Int32)) (L1 : (Nat → Nat → Int64)), (g_169 n dp (z, kd, Rf) 0 I L i1 i2 i3 i4 = some (r, I1, L1) → K X d 169 0 0 (AI (fun x τ => x = r ∧ τ = (z, kd, I1, L1, Rf))) 0 [some (.ref 0), some (.int i1), some (.int i2), some (.int i3), some (.int i4)] [] (z, kd, I, L, Rf) 0 0) := by
  intro n
  induction n with
  | zero => intro dp d hdp I L i1 i2 i3 i4 r I1 L1; exact fun h => by cases h
  | succ n ih =>
    intro dp d hdp I L i1 i2 i3 i4 r I1 L1
    · intro h
      rw [e_169_0] at h
      refine K_of b_169_0 h_169_0 ?_
      refine q_iload rfl ?_
      refine q_iconst (1) (by decide) ?_
      refine q_iconst (16) (by decide) ?_
      obtain ⟨d_4, h⟩ := ite_some h
      obtain ⟨⟨x0_4, I0_4, L0_4⟩, e_4, h⟩ := Option.bind_eq_some_iff.mp h
      dsimp only at h
      refine q_fs3I (a_14 X hS (d := d - 1) (by omega) e_4) (by omega) (Nat.le_refl _) (Nat.le_refl _) rfl (Nat.le_of_ble_eq_true rfl) ?_
      refine q_if_eq (fun c_7 => ?_) (fun c_7 => ?_)
      · rw [if_pos c_7] at h
        refine K_of b_169_41 h_169_41 ?_
        refine q_aload rfl ?_
        refine q_iconst (-1) (by decide) ?_
        obtain ⟨d_43, h⟩ := ite_some h
        obtain ⟨⟨x1_43, I1_43, L1_43⟩, e_43, h⟩ := Option.bind_eq_some_iff.mp h
        dsimp only at h
        refine q_fv2I (a_15 X hS (d := d - 1) (by omega) e_43) (by omega) (Nat.le_refl _) (Nat.le_refl _) rfl (Nat.le_of_ble_eq_true rfl) ⟨(zl hS 0 (by decide)), congrArg Prod.fst (sk hS 0 (by decide) rfl), by decide⟩ ?_
        cases h
        exact q_iret rfl (Nat.le_refl _) (Nat.le_refl _) ⟨rfl, rfl⟩
      · rw [if_neg c_7] at h
        refine q_iload rfl ?_
        refine q_iconst (0) (by decide) ?_
        refine q_iconst (99) (by decide) ?_
        obtain ⟨d_14, h⟩ := ite_some h
        obtain ⟨⟨x1_14, I1_14, L1_14⟩, e_14, h⟩ := Option.bind_eq_some_iff.mp h
        dsimp only at h
        refine q_fs3I (a_14 X hS (d := d - 1) (by omega) e_14) (by omega) (Nat.le_refl _) (Nat.le_refl _) rfl (Nat.le_of_ble_eq_true rfl) ?_
        refine q_if_eq (fun c_17 => ?_) (fun c_17 => ?_)
        · rw [if_pos c_17] at h
          refine K_of b_169_41 h_169_41 ?_
          refine q_aload rfl ?_
          refine q_iconst (-1) (by decide) ?_
          obtain ⟨d_43, h⟩ := ite_some h
          obtain ⟨⟨x2_43, I2_43, L2_43⟩, e_43, h⟩ := Option.bind_eq_some_iff.mp h
          dsimp only at h
          refine q_fv2I (a_15 X hS (d := d - 1) (by omega) e_43) (by omega) (Nat.le_refl _) (Nat.le_refl _) rfl (Nat.le_of_ble_eq_true rfl) ⟨(zl hS 0 (by decide)), congrArg Prod.fst (sk hS 0 (by decide) rfl), by decide⟩ ?_
          cases h
          exact q_iret rfl (Nat.le_refl _) (Nat.le_refl _) ⟨rfl, rfl⟩
        · rw [if_neg c_17] at h
          refine q_iload rfl ?_
          refine q_iconst (0) (by decide) ?_
          refine q_iconst (99) (by decide) ?_
          obtain ⟨d_24, h⟩ := ite_some h
          obtain ⟨⟨x2_24, I2_24, L2_24⟩, e_24, h⟩ := Option.bind_eq_some_iff.mp h
          dsimp only at h
          refine q_fs3I (a_14 X hS (d := d - 1) (by omega) e_24) (by omega) (Nat.le_refl _) (Nat.le_refl _) rfl (Nat.le_of_ble_eq_true rfl) ?_
          refine q_if_eq (fun c_27 => ?_) (fun c_27 => ?_)
          · rw [if_pos c_27] at h
            refine K_of b_169_41 h_169_41 ?_
            refine q_aload rfl ?_
            refine q_iconst (-1) (by decide) ?_
            obtain ⟨d_43, h⟩ := ite_some h
            obtain ⟨⟨x3_43, I3_43, L3_43⟩, e_43, h⟩ := Option.bind_eq_some_iff.mp h
            dsimp only at h
            refine q_fv2I (a_15 X hS (d := d - 1) (by omega) e_43) (by omega) (Nat.le_refl _) (Nat.le_refl _) rfl (Nat.le_of_ble_eq_true rfl) ⟨(zl hS 0 (by decide)), congrArg Prod.fst (sk hS 0 (by decide) rfl), by decide⟩ ?_
            cases h
            exact q_iret rfl (Nat.le_refl _) (Nat.le_refl _) ⟨rfl, rfl⟩
          · rw [if_neg c_27] at h
            refine q_iload rfl ?_
            refine q_iconst (0) (by decide) ?_
            refine q_iconst (99) (by decide) ?_
            obtain ⟨d_35, h⟩ := ite_some h
            obtain ⟨⟨x3_35, I3_35, L3_35⟩, e_35, h⟩ := Option.bind_eq_some_iff.mp h
            dsimp only at h
            refine q_fs3I (a_14 X hS (d := d - 1) (by omega) e_35) (by omega) (Nat.le_refl _) (Nat.le_refl _) rfl (Nat.le_of_ble_eq_true rfl) ?_
            refine q_if_ne (fun c_38 => ?_) (fun c_38 => ?_)
            · rw [if_neg c_38] at h
              refine K_of b_169_47 h_169_47 ?_
              refine q_aload rfl ?_
              refine q_getRs (c0 := 11) (j := 5) rfl rfl (zl hS 0 (by decide)) (sk hS 0 (by decide) rfl) rfl (by decide) (r_0_5 hS) ?_
              obtain ⟨d_51, h⟩ := ite_some h
              obtain ⟨⟨I4_51, L4_51⟩, e_51, h⟩ := Option.bind_eq_some_iff.mp h
              dsimp only at h
              refine q_fv1V (a_157 X hS (d := d - 1) (by omega) e_51) (by omega) (Nat.le_refl _) (Nat.le_refl _) rfl (Nat.le_of_ble_eq_true rfl) ⟨(zl hS 81 (by decide)), congrArg Prod.fst (sk hS 81 (by decide) rfl), by decide⟩ ?_
              refine q_aload rfl ?_
              refine q_aload rfl ?_
              refine q_getRs (c0 := 11) (j := 6) rfl rfl (zl hS 0 (by decide)) (sk hS 0 (by decide) rfl) rfl (by decide) (r_0_6 hS) ?_
              refine q_iload rfl ?_
              refine q_iload rfl ?_
              refine q_iload rfl ?_
              refine q_iload rfl ?_
              obtain ⟨d_64, h⟩ := ite_some h
              obtain ⟨⟨x5_64, I5_64, L5_64⟩, e_64, h⟩ := Option.bind_eq_some_iff.mp h
              dsimp only at h
              refine q_fv5I (a_170 X hS (d := d - 1) (by omega) e_64) (by omega) (Nat.le_refl _) (Nat.le_refl _) rfl (Nat.le_of_ble_eq_true rfl) ⟨(zl hS 87 (by decide)), congrArg Prod.fst (sk hS 87 (by decide) rfl), by decide⟩ ?_
              obtain ⟨d_67, h⟩ := ite_some h
              obtain ⟨⟨x6_67, I6_67, L6_67⟩, e_67, h⟩ := Option.bind_eq_some_iff.mp h
              dsimp only at h
              refine q_fv2I (a_19 X hS (d := d - 1) (by omega) e_67) (by omega) (Nat.le_refl _) (Nat.le_refl _) rfl (Nat.le_of_ble_eq_true rfl) ⟨(zl hS 0 (by decide)), congrArg Prod.fst (sk hS 0 (by decide) rfl), by decide⟩ ?_
              cases h
              exact q_iret rfl (Nat.le_refl _) (Nat.le_refl _) ⟨rfl, rfl⟩
            · rw [if_pos c_38] at h
              refine q_end ?_
              refine K_of b_169_41 h_169_41 ?_
              refine q_aload rfl ?_
              refine q_iconst (-1) (by decide) ?_
              obtain ⟨d_43, h⟩ := ite_some h
              obtain ⟨⟨x4_43, I4_43, L4_43⟩, e_43, h⟩ := Option.bind_eq_some_iff.mp h
              dsimp only at h
              refine q_fv2I (a_15 X hS (d := d - 1) (by omega) e_43) (by omega) (Nat.le_refl _) (Nat.le_refl _) rfl (Nat.le_of_ble_eq_true rfl) ⟨(zl hS 0 (by decide)), congrArg Prod.fst (sk hS 0 (by decide) rfl), by decide⟩ ?_
              cases h
              exact q_iret rfl (Nat.le_refl _) (Nat.le_refl _) ⟨rfl, rfl⟩
theorem a_169 (X : GX) {z : Nat} {kd : Nat → Nat × Nat} {Rf : Nat → Nat → Option Nat} (hS : Sh z kd Rf) {n dp d : Nat} (hd : dp ≤ d) {I : (Nat → Nat → Int32)} {L : (Nat → Nat → Int64)} {i1 : Int32} {i2 : Int32} {i3 : Int32} {i4 : Int32} {I1 : (Nat → Nat → Int32)} {L1 : (Nat → Nat → Int64)} {r : Int32} (h : g_169 n dp (z, kd, Rf) 0 I L i1 i2 i3 i4 = some (r, I1, L1)) : Ct X d 169 0 0 [.ref 0, .int i1, .int i2, .int i3, .int i4] (z, kd, I, L, Rf) (AI (fun x τ => x = r ∧ τ = (z, kd, I1, L1, Rf))) :=
  Ct_of mu_169 (Nat.le_of_ble_eq_true rfl) ((w_169 X hS n dp d hd I L i1 i2 i3 i4 _ _ _) h)

/-! 172 CutFloor.again(I)I -/
set_option maxHeartbeats 4000000 in
set_option maxRecDepth 100000 in
def g_172 : Nat → Nat → EN → Nat → (Nat → Nat → Int32) → (Nat → Nat → Int64) → Int32 →  Option (Int32 × (Nat → Nat → Int32) × (Nat → Nat → Int64))
  | 0, _, _, _, _, _, _ => none
  | n + 1, dp, e, lab, I, L, i1 =>
    if lab = 0 then (if 1 ≤ dp then (g_14 n (dp - 1) e 0 I L i1 (0 : Int32) ((I 1 9) - (1 : Int32))).bind (fun ⟨x0_11, I0_11, L0_11⟩ => (if x0_11 = 0 then (if 1 ≤ dp then (g_15 n (dp - 1) e 0 I0_11 L0_11 (-2 : Int32)).bind (fun ⟨x1_20, I1_20, L1_20⟩ => (some (x1_20, I1_20, L1_20))) else none) else (stI ((i1 * (7 : Int32)) + (6 : Int32)) (fun v_31 => (if 0 ≤ v_31 ∧ (Int32.toNatClampNeg v_31) < 112 then (if (I0_11 7 (Int32.toNatClampNeg v_31)) = (1 : Int32) then (if 1 ≤ dp then (g_15 n (dp - 1) e 0 I0_11 L0_11 (-3 : Int32)).bind (fun ⟨x1_48, I1_48, L1_48⟩ => (some (x1_48, I1_48, L1_48))) else none) else (if 0 ≤ v_31 ∧ (Int32.toNatClampNeg v_31) < 112 then (stI (u2 I0_11 7 (Int32.toNatClampNeg v_31) (1 : Int32)) (fun I_61 => (if 1 ≤ dp then (g_157 n (dp - 1) e 0 I_61 L0_11).bind (fun ⟨I1_66, L1_66⟩ => (if 1 ≤ dp then (g_19 n (dp - 1) e 0 I1_66 L1_66 (0 : Int32)).bind (fun ⟨x2_71, I2_71, L2_71⟩ => (some (x2_71, I2_71, L2_71))) else none)) else none))) else none)) else none))))) else none)
    else none
set_option maxRecDepth 100000 in
theorem e_172_0 (n dp : Nat) (e : EN) (I : (Nat → Nat → Int32)) (L : (Nat → Nat → Int64)) (i1 : Int32) : g_172 (n + 1) dp e 0 I L i1 = (if 1 ≤ dp then (g_14 n (dp - 1) e 0 I L i1 (0 : Int32) ((I 1 9) - (1 : Int32))).bind (fun ⟨x0_11, I0_11, L0_11⟩ => (if x0_11 = 0 then (if 1 ≤ dp then (g_15 n (dp - 1) e 0 I0_11 L0_11 (-2 : Int32)).bind (fun ⟨x1_20, I1_20, L1_20⟩ => (some (x1_20, I1_20, L1_20))) else none) else (stI ((i1 * (7 : Int32)) + (6 : Int32)) (fun v_31 => (if 0 ≤ v_31 ∧ (Int32.toNatClampNeg v_31) < 112 then (if (I0_11 7 (Int32.toNatClampNeg v_31)) = (1 : Int32) then (if 1 ≤ dp then (g_15 n (dp - 1) e 0 I0_11 L0_11 (-3 : Int32)).bind (fun ⟨x1_48, I1_48, L1_48⟩ => (some (x1_48, I1_48, L1_48))) else none) else (if 0 ≤ v_31 ∧ (Int32.toNatClampNeg v_31) < 112 then (stI (u2 I0_11 7 (Int32.toNatClampNeg v_31) (1 : Int32)) (fun I_61 => (if 1 ≤ dp then (g_157 n (dp - 1) e 0 I_61 L0_11).bind (fun ⟨I1_66, L1_66⟩ => (if 1 ≤ dp then (g_19 n (dp - 1) e 0 I1_66 L1_66 (0 : Int32)).bind (fun ⟨x2_71, I2_71, L2_71⟩ => (some (x2_71, I2_71, L2_71))) else none)) else none))) else none)) else none))))) else none) := by rw [g_172.eq_2, if_pos (show (0 : Nat) = 0 from rfl)]
set_option maxHeartbeats 8000000 in
set_option maxRecDepth 100000 in
theorem w_172 (X : GX) {z : Nat} {kd : Nat → Nat × Nat} {Rf : Nat → Nat → Option Nat} (hS : Sh z kd Rf) : ∀ (n dp d : Nat), dp ≤ d → ∀ (I : (Nat → Nat → Int32)) (L : (Nat → Nat → Int64)) (i1 : Int32) (r : Int32) (I1 : (Nat → Nat → Int32)) (L1 : (Nat → Nat → Int64)), (g_172 n dp (z, kd, Rf) 0 I L i1 = some (r, I1, L1) → K X d 172 0 0 (AI (fun x τ => x = r ∧ τ = (z, kd, I1, L1, Rf))) 0 [some (.ref 0), some (.int i1), none] [] (z, kd, I, L, Rf) 0 0) := by
  intro n
  induction n with
  | zero => intro dp d hdp I L i1 r I1 L1; exact fun h => by cases h
  | succ n ih =>
    intro dp d hdp I L i1 r I1 L1
    · intro h
      rw [e_172_0] at h
      refine K_of b_172_0 h_172_0 ?_
      refine q_iload rfl ?_
      refine q_iconst (0) (by decide) ?_
      refine q_aload rfl ?_
      refine q_getRs (c0 := 11) (j := 0) rfl rfl (zl hS 0 (by decide)) (sk hS 0 (by decide) rfl) rfl (by decide) (r_0_0 hS) ?_
      refine q_getI (c0 := 3) (j := 9) rfl rfl (zl hS 1 (by decide)) (sk hS 1 (by decide) rfl) (Or.inl rfl) (by decide) ?_
      refine q_iconst (1) (by decide) ?_
      refine q_isub ?_
      obtain ⟨d_11, h⟩ := ite_some h
      obtain ⟨⟨x0_11, I0_11, L0_11⟩, e_11, h⟩ := Option.bind_eq_some_iff.mp h
      dsimp only at h
      refine q_fs3I (a_14 X hS (d := d - 1) (by omega) e_11) (by omega) (Nat.le_refl _) (Nat.le_refl _) rfl (Nat.le_of_ble_eq_true rfl) ?_
      refine q_if_ne (fun c_14 => ?_) (fun c_14 => ?_)
      · rw [if_neg c_14] at h
        refine K_of b_172_24 h_172_24 ?_
        refine q_iload rfl ?_
        refine q_iconst (7) (by decide) ?_
        refine q_imul ?_
        refine q_iconst (6) (by decide) ?_
        refine q_iadd ?_
        obtain ⟨v_31, nv_31, h⟩ := stI_some h
        refine q_eqi nv_31.symm ?_
        refine q_istore (ls1 := [some (.ref 0), some (.int i1), some (.int v_31)]) (Nat.le_of_ble_eq_true rfl) rfl ?_
        refine q_aload rfl ?_
        refine q_getRs (c0 := 11) (j := 0) rfl rfl (zl hS 0 (by decide)) (sk hS 0 (by decide) rfl) rfl (by decide) (r_0_0 hS) ?_
        refine q_getRs (c0 := 3) (j := 5) rfl rfl (zl hS 1 (by decide)) (sk hS 1 (by decide) rfl) rfl (by decide) (r_1_5 hS) ?_
        refine q_iload rfl ?_
        obtain ⟨⟨u_40, v_40⟩, h⟩ := ite_some h
        refine q_ialN (Int32.toNatClampNeg v_31) (nx u_40) (zl hS 7 (by decide)) (sk hS 7 (by decide) rfl) v_40 (by decide) ?_
        refine q_iconst (1) (by decide) ?_
        refine q_icmp_ne (fun c_42 => ?_) (fun c_42 => ?_)
        · rw [if_neg c_42] at h
          refine K_of b_172_52 h_172_52 ?_
          refine q_aload rfl ?_
          refine q_getRs (c0 := 11) (j := 0) rfl rfl (zl hS 0 (by decide)) (sk hS 0 (by decide) rfl) rfl (by decide) (r_0_0 hS) ?_
          refine q_getRs (c0 := 3) (j := 5) rfl rfl (zl hS 1 (by decide)) (sk hS 1 (by decide) rfl) rfl (by decide) (r_1_5 hS) ?_
          refine q_iload rfl ?_
          refine q_iconst (1) (by decide) ?_
          obtain ⟨⟨u_61, v_61⟩, h⟩ := ite_some h
          refine q_iasN (Int32.toNatClampNeg v_31) (nx u_61) (zl hS 7 (by decide)) (sk hS 7 (by decide) rfl) v_61 (by decide) ?_
          obtain ⟨I_61, nI_61, h⟩ := stI_some h
          refine q_nI nI_61 ?_
          refine q_aload rfl ?_
          refine q_getRs (c0 := 11) (j := 5) rfl rfl (zl hS 0 (by decide)) (sk hS 0 (by decide) rfl) rfl (by decide) (r_0_5 hS) ?_
          obtain ⟨d_66, h⟩ := ite_some h
          obtain ⟨⟨I1_66, L1_66⟩, e_66, h⟩ := Option.bind_eq_some_iff.mp h
          dsimp only at h
          refine q_fv1V (a_157 X hS (d := d - 1) (by omega) e_66) (by omega) (Nat.le_refl _) (Nat.le_refl _) rfl (Nat.le_of_ble_eq_true rfl) ⟨(zl hS 81 (by decide)), congrArg Prod.fst (sk hS 81 (by decide) rfl), by decide⟩ ?_
          refine q_aload rfl ?_
          refine q_iconst (0) (by decide) ?_
          obtain ⟨d_71, h⟩ := ite_some h
          obtain ⟨⟨x2_71, I2_71, L2_71⟩, e_71, h⟩ := Option.bind_eq_some_iff.mp h
          dsimp only at h
          refine q_fv2I (a_19 X hS (d := d - 1) (by omega) e_71) (by omega) (Nat.le_refl _) (Nat.le_refl _) rfl (Nat.le_of_ble_eq_true rfl) ⟨(zl hS 0 (by decide)), congrArg Prod.fst (sk hS 0 (by decide) rfl), by decide⟩ ?_
          cases h
          exact q_iret rfl (Nat.le_refl _) (Nat.le_refl _) ⟨rfl, rfl⟩
        · rw [if_pos c_42] at h
          refine q_aload rfl ?_
          refine q_iconst (-3) (by decide) ?_
          obtain ⟨d_48, h⟩ := ite_some h
          obtain ⟨⟨x1_48, I1_48, L1_48⟩, e_48, h⟩ := Option.bind_eq_some_iff.mp h
          dsimp only at h
          refine q_fv2I (a_15 X hS (d := d - 1) (by omega) e_48) (by omega) (Nat.le_refl _) (Nat.le_refl _) rfl (Nat.le_of_ble_eq_true rfl) ⟨(zl hS 0 (by decide)), congrArg Prod.fst (sk hS 0 (by decide) rfl), by decide⟩ ?_
          cases h
          exact q_iret rfl (Nat.le_refl _) (Nat.le_refl _) ⟨rfl, rfl⟩
      · rw [if_pos c_14] at h
        refine q_aload rfl ?_
        refine q_iconst (-2) (by decide) ?_
        obtain ⟨d_20, h⟩ := ite_some h
        obtain ⟨⟨x1_20, I1_20, L1_20⟩, e_20, h⟩ := Option.bind_eq_some_iff.mp h
        dsimp only at h
        refine q_fv2I (a_15 X hS (d := d - 1) (by omega) e_20) (by omega) (Nat.le_refl _) (Nat.le_refl _) rfl (Nat.le_of_ble_eq_true rfl) ⟨(zl hS 0 (by decide)), congrArg Prod.fst (sk hS 0 (by decide) rfl), by decide⟩ ?_
        cases h
        exact q_iret rfl (Nat.le_refl _) (Nat.le_refl _) ⟨rfl, rfl⟩
theorem a_172 (X : GX) {z : Nat} {kd : Nat → Nat × Nat} {Rf : Nat → Nat → Option Nat} (hS : Sh z kd Rf) {n dp d : Nat} (hd : dp ≤ d) {I : (Nat → Nat → Int32)} {L : (Nat → Nat → Int64)} {i1 : Int32} {I1 : (Nat → Nat → Int32)} {L1 : (Nat → Nat → Int64)} {r : Int32} (h : g_172 n dp (z, kd, Rf) 0 I L i1 = some (r, I1, L1)) : Ct X d 172 0 0 [.ref 0, .int i1] (z, kd, I, L, Rf) (AI (fun x τ => x = r ∧ τ = (z, kd, I1, L1, Rf))) :=
  Ct_of mu_172 (Nat.le_of_ble_eq_true rfl) ((w_172 X hS n dp d hd I L i1 _ _ _) h)

/-! 177 CutFloor$Stock.touch(II)Z -/
set_option maxHeartbeats 4000000 in
set_option maxRecDepth 100000 in
def g_177 : Nat → Nat → EN → Nat → (Nat → Nat → Int32) → (Nat → Nat → Int64) → Int32 → Int32 →  Option (Int32 × (Nat → Nat → Int32) × (Nat → Nat → Int64))
  | 0, _, _, _, _, _, _, _ => none
  | n + 1, dp, e, lab, I, L, i1, i2 =>
    if lab = 0 then (if 0 ≤ (i1 + (5 : Int32)) ∧ (Int32.toNatClampNeg (i1 + (5 : Int32))) < 112 then (if 0 ≤ (i2 + (5 : Int32)) ∧ (Int32.toNatClampNeg (i2 + (5 : Int32))) < 112 then (if ((I 7 (Int32.toNatClampNeg (i1 + (5 : Int32)))) &&& (I 7 (Int32.toNatClampNeg (i2 + (5 : Int32))))) = 0 then (if 0 ≤ (i1 + (2 : Int32)) ∧ (Int32.toNatClampNeg (i1 + (2 : Int32))) < 112 then (if 0 ≤ (i2 + (2 : Int32)) ∧ (Int32.toNatClampNeg (i2 + (2 : Int32))) < 112 then (if (I 7 (Int32.toNatClampNeg (i1 + (2 : Int32)))) = (I 7 (Int32.toNatClampNeg (i2 + (2 : Int32)))) then (if 0 ≤ (i1 + (3 : Int32)) ∧ (Int32.toNatClampNeg (i1 + (3 : Int32))) < 112 then (if 0 ≤ (i2 + (3 : Int32)) ∧ (Int32.toNatClampNeg (i2 + (3 : Int32))) < 112 then (if (I 7 (Int32.toNatClampNeg (i1 + (3 : Int32)))) = (I 7 (Int32.toNatClampNeg (i2 + (3 : Int32)))) then (if 0 ≤ (i1 + (4 : Int32)) ∧ (Int32.toNatClampNeg (i1 + (4 : Int32))) < 112 then (if 0 ≤ (i2 + (4 : Int32)) ∧ (Int32.toNatClampNeg (i2 + (4 : Int32))) < 112 then (if (I 7 (Int32.toNatClampNeg (i1 + (4 : Int32)))) = (I 7 (Int32.toNatClampNeg (i2 + (4 : Int32)))) then (some ((1 : Int32), I, L)) else (some ((0 : Int32), I, L))) else none) else none) else (some ((0 : Int32), I, L))) else none) else none) else (some ((0 : Int32), I, L))) else none) else none) else (some ((1 : Int32), I, L))) else none) else none)
    else none
set_option maxRecDepth 100000 in
theorem e_177_0 (n dp : Nat) (e : EN) (I : (Nat → Nat → Int32)) (L : (Nat → Nat → Int64)) (i1 : Int32) (i2 : Int32) : g_177 (n + 1) dp e 0 I L i1 i2 = (if 0 ≤ (i1 + (5 : Int32)) ∧ (Int32.toNatClampNeg (i1 + (5 : Int32))) < 112 then (if 0 ≤ (i2 + (5 : Int32)) ∧ (Int32.toNatClampNeg (i2 + (5 : Int32))) < 112 then (if ((I 7 (Int32.toNatClampNeg (i1 + (5 : Int32)))) &&& (I 7 (Int32.toNatClampNeg (i2 + (5 : Int32))))) = 0 then (if 0 ≤ (i1 + (2 : Int32)) ∧ (Int32.toNatClampNeg (i1 + (2 : Int32))) < 112 then (if 0 ≤ (i2 + (2 : Int32)) ∧ (Int32.toNatClampNeg (i2 + (2 : Int32))) < 112 then (if (I 7 (Int32.toNatClampNeg (i1 + (2 : Int32)))) = (I 7 (Int32.toNatClampNeg (i2 + (2 : Int32)))) then (if 0 ≤ (i1 + (3 : Int32)) ∧ (Int32.toNatClampNeg (i1 + (3 : Int32))) < 112 then (if 0 ≤ (i2 + (3 : Int32)) ∧ (Int32.toNatClampNeg (i2 + (3 : Int32))) < 112 then (if (I 7 (Int32.toNatClampNeg (i1 + (3 : Int32)))) = (I 7 (Int32.toNatClampNeg (i2 + (3 : Int32)))) then (if 0 ≤ (i1 + (4 : Int32)) ∧ (Int32.toNatClampNeg (i1 + (4 : Int32))) < 112 then (if 0 ≤ (i2 + (4 : Int32)) ∧ (Int32.toNatClampNeg (i2 + (4 : Int32))) < 112 then (if (I 7 (Int32.toNatClampNeg (i1 + (4 : Int32)))) = (I 7 (Int32.toNatClampNeg (i2 + (4 : Int32)))) then (some ((1 : Int32), I, L)) else (some ((0 : Int32), I, L))) else none) else none) else (some ((0 : Int32), I, L))) else none) else none) else (some ((0 : Int32), I, L))) else none) else none) else (some ((1 : Int32), I, L))) else none) else none) := by rw [g_177.eq_2, if_pos (show (0 : Nat) = 0 from rfl)]
set_option maxHeartbeats 8000000 in
set_option maxRecDepth 100000 in
theorem w_177 (X : GX) {z : Nat} {kd : Nat → Nat × Nat} {Rf : Nat → Nat → Option Nat} (hS : Sh z kd Rf) : ∀ (n dp d : Nat), dp ≤ d → ∀ (I : (Nat → Nat → Int32)) (L : (Nat → Nat → Int64)) (i1 : Int32) (i2 : Int32) (r : Int32) (I1 : (Nat → Nat → Int32)) (L1 : (Nat → Nat → Int64)), (g_177 n dp (z, kd, Rf) 0 I L i1 i2 = some (r, I1, L1) → K X d 177 0 0 (AI (fun x τ => x = r ∧ τ = (z, kd, I1, L1, Rf))) 0 [some (.ref 87), some (.int i1), some (.int i2), none] [] (z, kd, I, L, Rf) 0 0) := by
  intro n
  induction n with
  | zero => intro dp d hdp I L i1 i2 r I1 L1; exact fun h => by cases h
  | succ n ih =>
    intro dp d hdp I L i1 i2 r I1 L1
    · intro h
      rw [e_177_0] at h
      refine K_of b_177_0 h_177_0 ?_
      refine q_aload rfl ?_
      refine q_getRs (c0 := 9) (j := 0) rfl rfl (zl hS 87 (by decide)) (sk hS 87 (by decide) rfl) rfl (by decide) (r_87_0 hS) ?_
      refine q_getRs (c0 := 3) (j := 5) rfl rfl (zl hS 1 (by decide)) (sk hS 1 (by decide) rfl) rfl (by decide) (r_1_5 hS) ?_
      refine q_astore (ls1 := [some (.ref 87), some (.int i1), some (.int i2), some (.ref 7)]) rfl (Nat.le_of_ble_eq_true rfl) rfl ?_
      refine q_aload rfl ?_
      refine q_iload rfl ?_
      refine q_iconst (5) (by decide) ?_
      refine q_iadd ?_
      obtain ⟨⟨u_12, v_12⟩, h⟩ := ite_some h
      refine q_ialN (Int32.toNatClampNeg (i1 + (5 : Int32))) (nx u_12) (zl hS 7 (by decide)) (sk hS 7 (by decide) rfl) v_12 (by decide) ?_
      refine q_aload rfl ?_
      refine q_iload rfl ?_
      refine q_iconst (5) (by decide) ?_
      refine q_iadd ?_
      obtain ⟨⟨u_17, v_17⟩, h⟩ := ite_some h
      refine q_ialN (Int32.toNatClampNeg (i2 + (5 : Int32))) (nx u_17) (zl hS 7 (by decide)) (sk hS 7 (by decide) rfl) v_17 (by decide) ?_
      refine q_iand ?_
      refine q_if_eq (fun c_19 => ?_) (fun c_19 => ?_)
      · rw [if_pos c_19] at h
        refine K_of b_177_24 h_177_24 ?_
        refine q_aload rfl ?_
        refine q_iload rfl ?_
        refine q_iconst (2) (by decide) ?_
        refine q_iadd ?_
        obtain ⟨⟨u_28, v_28⟩, h⟩ := ite_some h
        refine q_ialN (Int32.toNatClampNeg (i1 + (2 : Int32))) (nx u_28) (zl hS 7 (by decide)) (sk hS 7 (by decide) rfl) v_28 (by decide) ?_
        refine q_aload rfl ?_
        refine q_iload rfl ?_
        refine q_iconst (2) (by decide) ?_
        refine q_iadd ?_
        obtain ⟨⟨u_33, v_33⟩, h⟩ := ite_some h
        refine q_ialN (Int32.toNatClampNeg (i2 + (2 : Int32))) (nx u_33) (zl hS 7 (by decide)) (sk hS 7 (by decide) rfl) v_33 (by decide) ?_
        refine q_icmp_ne (fun c_34 => ?_) (fun c_34 => ?_)
        · rw [if_neg c_34] at h
          refine K_of b_177_67 h_177_67 ?_
          refine q_iconst (0) (by decide) ?_
          refine q_end ?_
          refine K_of b_177_68 h_177_68 ?_
          cases h
          exact q_iret rfl (Nat.le_refl _) (Nat.le_refl _) ⟨rfl, rfl⟩
        · rw [if_pos c_34] at h
          refine q_aload rfl ?_
          refine q_iload rfl ?_
          refine q_iconst (3) (by decide) ?_
          refine q_iadd ?_
          obtain ⟨⟨u_41, v_41⟩, h⟩ := ite_some h
          refine q_ialN (Int32.toNatClampNeg (i1 + (3 : Int32))) (nx u_41) (zl hS 7 (by decide)) (sk hS 7 (by decide) rfl) v_41 (by decide) ?_
          refine q_aload rfl ?_
          refine q_iload rfl ?_
          refine q_iconst (3) (by decide) ?_
          refine q_iadd ?_
          obtain ⟨⟨u_46, v_46⟩, h⟩ := ite_some h
          refine q_ialN (Int32.toNatClampNeg (i2 + (3 : Int32))) (nx u_46) (zl hS 7 (by decide)) (sk hS 7 (by decide) rfl) v_46 (by decide) ?_
          refine q_icmp_ne (fun c_47 => ?_) (fun c_47 => ?_)
          · rw [if_neg c_47] at h
            refine K_of b_177_67 h_177_67 ?_
            refine q_iconst (0) (by decide) ?_
            refine q_end ?_
            refine K_of b_177_68 h_177_68 ?_
            cases h
            exact q_iret rfl (Nat.le_refl _) (Nat.le_refl _) ⟨rfl, rfl⟩
          · rw [if_pos c_47] at h
            refine q_aload rfl ?_
            refine q_iload rfl ?_
            refine q_iconst (4) (by decide) ?_
            refine q_iadd ?_
            obtain ⟨⟨u_54, v_54⟩, h⟩ := ite_some h
            refine q_ialN (Int32.toNatClampNeg (i1 + (4 : Int32))) (nx u_54) (zl hS 7 (by decide)) (sk hS 7 (by decide) rfl) v_54 (by decide) ?_
            refine q_aload rfl ?_
            refine q_iload rfl ?_
            refine q_iconst (4) (by decide) ?_
            refine q_iadd ?_
            obtain ⟨⟨u_59, v_59⟩, h⟩ := ite_some h
            refine q_ialN (Int32.toNatClampNeg (i2 + (4 : Int32))) (nx u_59) (zl hS 7 (by decide)) (sk hS 7 (by decide) rfl) v_59 (by decide) ?_
            refine q_icmp_ne (fun c_60 => ?_) (fun c_60 => ?_)
            · rw [if_neg c_60] at h
              refine K_of b_177_67 h_177_67 ?_
              refine q_iconst (0) (by decide) ?_
              refine q_end ?_
              refine K_of b_177_68 h_177_68 ?_
              cases h
              exact q_iret rfl (Nat.le_refl _) (Nat.le_refl _) ⟨rfl, rfl⟩
            · rw [if_pos c_60] at h
              refine q_iconst (1) (by decide) ?_
              refine q_goto ?_
              refine K_of b_177_68 h_177_68 ?_
              cases h
              exact q_iret rfl (Nat.le_refl _) (Nat.le_refl _) ⟨rfl, rfl⟩
      · rw [if_neg c_19] at h
        refine q_iconst (1) (by decide) ?_
        cases h
        exact q_iret rfl (Nat.le_refl _) (Nat.le_refl _) ⟨rfl, rfl⟩
theorem a_177 (X : GX) {z : Nat} {kd : Nat → Nat × Nat} {Rf : Nat → Nat → Option Nat} (hS : Sh z kd Rf) {n dp d : Nat} (hd : dp ≤ d) {I : (Nat → Nat → Int32)} {L : (Nat → Nat → Int64)} {i1 : Int32} {i2 : Int32} {I1 : (Nat → Nat → Int32)} {L1 : (Nat → Nat → Int64)} {r : Int32} (h : g_177 n dp (z, kd, Rf) 0 I L i1 i2 = some (r, I1, L1)) : Ct X d 177 0 0 [.ref 87, .int i1, .int i2] (z, kd, I, L, Rf) (AI (fun x τ => x = r ∧ τ = (z, kd, I1, L1, Rf))) :=
  Ct_of mu_177 (Nat.le_of_ble_eq_true rfl) ((w_177 X hS n dp d hd I L i1 i2 _ _ _) h)

/-! 176 CutFloor$Stock.touchesRound(II)Z -/
set_option maxHeartbeats 4000000 in
set_option maxRecDepth 100000 in
def g_176 : Nat → Nat → EN → Nat → (Nat → Nat → Int32) → (Nat → Nat → Int64) → Int32 → Int32 → Int32 →  Option (Int32 × (Nat → Nat → Int32) × (Nat → Nat → Int64))
  | 0, _, _, _, _, _, _, _, _ => none
  | n + 1, dp, e, lab, I, L, i1, i2, i3 =>
    if lab = 0 then (g_176 n dp e 1 I L i1 i2 (0 : Int32))
    else if lab = 1 then (if (I 1 9) ≤ i3 then (some ((0 : Int32), I, L)) else (if 0 ≤ i3 ∧ (Int32.toNatClampNeg i3) < 16 then (if (I 88 (Int32.toNatClampNeg i3)) = i2 then (if 1 ≤ dp then (g_177 n (dp - 1) e 0 I L (i1 * (7 : Int32)) (i3 * (7 : Int32))).bind (fun ⟨x0_32, I0_32, L0_32⟩ => (if x0_32 = 0 then (g_176 n dp e 2 I0_32 L0_32 i1 i2 i3) else (some ((1 : Int32), I0_32, L0_32)))) else none) else (g_176 n dp e 2 I L i1 i2 i3)) else none))
    else if lab = 2 then (g_176 n dp e 1 I L i1 i2 (i3 + Int32.ofInt (1)))
    else none
set_option maxRecDepth 100000 in
theorem e_176_0 (n dp : Nat) (e : EN) (I : (Nat → Nat → Int32)) (L : (Nat → Nat → Int64)) (i1 : Int32) (i2 : Int32) (i3 : Int32) : g_176 (n + 1) dp e 0 I L i1 i2 i3 = (g_176 n dp e 1 I L i1 i2 (0 : Int32)) := by rw [g_176.eq_2, if_pos (show (0 : Nat) = 0 from rfl)]
set_option maxRecDepth 100000 in
theorem e_176_1 (n dp : Nat) (e : EN) (I : (Nat → Nat → Int32)) (L : (Nat → Nat → Int64)) (i1 : Int32) (i2 : Int32) (i3 : Int32) : g_176 (n + 1) dp e 1 I L i1 i2 i3 = (if (I 1 9) ≤ i3 then (some ((0 : Int32), I, L)) else (if 0 ≤ i3 ∧ (Int32.toNatClampNeg i3) < 16 then (if (I 88 (Int32.toNatClampNeg i3)) = i2 then (if 1 ≤ dp then (g_177 n (dp - 1) e 0 I L (i1 * (7 : Int32)) (i3 * (7 : Int32))).bind (fun ⟨x0_32, I0_32, L0_32⟩ => (if x0_32 = 0 then (g_176 n dp e 2 I0_32 L0_32 i1 i2 i3) else (some ((1 : Int32), I0_32, L0_32)))) else none) else (g_176 n dp e 2 I L i1 i2 i3)) else none)) := by rw [g_176.eq_2, if_neg (show ¬ ((1 : Nat) = 0) by decide), if_pos (show (1 : Nat) = 1 from rfl)]
set_option maxRecDepth 100000 in
theorem e_176_2 (n dp : Nat) (e : EN) (I : (Nat → Nat → Int32)) (L : (Nat → Nat → Int64)) (i1 : Int32) (i2 : Int32) (i3 : Int32) : g_176 (n + 1) dp e 2 I L i1 i2 i3 = (g_176 n dp e 1 I L i1 i2 (i3 + Int32.ofInt (1))) := by rw [g_176.eq_2, if_neg (show ¬ ((2 : Nat) = 0) by decide), if_neg (show ¬ ((2 : Nat) = 1) by decide), if_pos (show (2 : Nat) = 2 from rfl)]
set_option maxHeartbeats 8000000 in
set_option maxRecDepth 100000 in
theorem w_176 (X : GX) {z : Nat} {kd : Nat → Nat × Nat} {Rf : Nat → Nat → Option Nat} (hS : Sh z kd Rf) : ∀ (n dp d : Nat), dp ≤ d → ∀ (I : (Nat → Nat → Int32)) (L : (Nat → Nat → Int64)) (i1 : Int32) (i2 : Int32) (i3 : Int32) (r : Int32) (I1 : (Nat → Nat → Int32)) (L1 : (Nat → Nat → Int64)), (g_176 n dp (z, kd, Rf) 0 I L i1 i2 i3 = some (r, I1, L1) → K X d 176 0 0 (AI (fun x τ => x = r ∧ τ = (z, kd, I1, L1, Rf))) 0 [some (.ref 87), some (.int i1), some (.int i2), none] [] (z, kd, I, L, Rf) 0 0) ∧
    (g_176 n dp (z, kd, Rf) 1 I L i1 i2 i3 = some (r, I1, L1) → K X d 176 0 0 (AI (fun x τ => x = r ∧ τ = (z, kd, I1, L1, Rf))) 2 [some (.ref 87), some (.int i1), some (.int i2), some (.int i3)] [] (z, kd, I, L, Rf) 0 0) ∧
    (g_176 n dp (z, kd, Rf) 2 I L i1 i2 i3 = some (r, I1, L1) → K X d 176 0 0 (AI (fun x τ => x = r ∧ τ = (z, kd, I1, L1, Rf))) 40 [some (.ref 87), some (.int i1), some (.int i2), some (.int i3)] [] (z, kd, I, L, Rf) 0 0) := by
  intro n
  induction n with
  | zero => intro dp d hdp I L i1 i2 i3 r I1 L1; exact ⟨(fun h => by cases h), (fun h => by cases h), (fun h => by cases h)⟩
  | succ n ih =>
    intro dp d hdp I L i1 i2 i3 r I1 L1
    refine ⟨?_, ?_, ?_⟩
    · intro h
      rw [e_176_0] at h
      refine K_of b_176_0 h_176_0 ?_
      refine q_iconst (0) (by decide) ?_
      refine q_istore (ls1 := [some (.ref 87), some (.int i1), some (.int i2), some (.int (0 : Int32))]) (Nat.le_of_ble_eq_true rfl) rfl ?_
      refine q_end ?_
      exact (ih dp d hdp _ _ i1 i2 (0 : Int32) _ _ _).2.1 h
    · intro h
      rw [e_176_1] at h
      refine K_of b_176_2 h_176_2 ?_
      refine q_iload rfl ?_
      refine q_aload rfl ?_
      refine q_getRs (c0 := 9) (j := 0) rfl rfl (zl hS 87 (by decide)) (sk hS 87 (by decide) rfl) rfl (by decide) (r_87_0 hS) ?_
      refine q_getI (c0 := 3) (j := 9) rfl rfl (zl hS 1 (by decide)) (sk hS 1 (by decide) rfl) (Or.inl rfl) (by decide) ?_
      refine q_icmp_ge (fun c_10 => ?_) (fun c_10 => ?_)
      · rw [if_pos c_10] at h
        refine K_of b_176_46 h_176_46 ?_
        refine q_iconst (0) (by decide) ?_
        cases h
        exact q_iret rfl (Nat.le_refl _) (Nat.le_refl _) ⟨rfl, rfl⟩
      · rw [if_neg c_10] at h
        refine q_aload rfl ?_
        refine q_getRs (c0 := 9) (j := 1) rfl rfl (zl hS 87 (by decide)) (sk hS 87 (by decide) rfl) rfl (by decide) (r_87_1 hS) ?_
        refine q_iload rfl ?_
        obtain ⟨⟨u_18, v_18⟩, h⟩ := ite_some h
        refine q_ialN (Int32.toNatClampNeg i3) (nx u_18) (zl hS 88 (by decide)) (sk hS 88 (by decide) rfl) v_18 (by decide) ?_
        refine q_iload rfl ?_
        refine q_icmp_ne (fun c_20 => ?_) (fun c_20 => ?_)
        · rw [if_neg c_20] at h
          exact (ih dp d hdp _ _ i1 i2 i3 _ _ _).2.2 h
        · rw [if_pos c_20] at h
          refine q_aload rfl ?_
          refine q_iload rfl ?_
          refine q_iconst (7) (by decide) ?_
          refine q_imul ?_
          refine q_iload rfl ?_
          refine q_iconst (7) (by decide) ?_
          refine q_imul ?_
          obtain ⟨d_32, h⟩ := ite_some h
          obtain ⟨⟨x0_32, I0_32, L0_32⟩, e_32, h⟩ := Option.bind_eq_some_iff.mp h
          dsimp only at h
          refine q_fv3I (a_177 X hS (d := d - 1) (by omega) e_32) (by omega) (Nat.le_refl _) (Nat.le_refl _) rfl (Nat.le_of_ble_eq_true rfl) ⟨(zl hS 87 (by decide)), congrArg Prod.fst (sk hS 87 (by decide) rfl), by decide⟩ ?_
          refine q_if_eq (fun c_35 => ?_) (fun c_35 => ?_)
          · rw [if_pos c_35] at h
            exact (ih dp d hdp _ _ i1 i2 i3 _ _ _).2.2 h
          · rw [if_neg c_35] at h
            refine q_iconst (1) (by decide) ?_
            cases h
            exact q_iret rfl (Nat.le_refl _) (Nat.le_refl _) ⟨rfl, rfl⟩
    · intro h
      rw [e_176_2] at h
      refine K_of b_176_40 h_176_40 ?_
      refine q_iinc (ls1 := [some (.ref 87), some (.int i1), some (.int i2), some (.int (i3 + Int32.ofInt (1)))]) rfl rfl ?_
      refine q_goto ?_
      exact (ih dp d hdp _ _ i1 i2 (i3 + Int32.ofInt (1)) _ _ _).2.1 h
theorem a_176 (X : GX) {z : Nat} {kd : Nat → Nat × Nat} {Rf : Nat → Nat → Option Nat} (hS : Sh z kd Rf) {n dp d : Nat} (hd : dp ≤ d) {I : (Nat → Nat → Int32)} {L : (Nat → Nat → Int64)} {i1 : Int32} {i2 : Int32} {I1 : (Nat → Nat → Int32)} {L1 : (Nat → Nat → Int64)} {r : Int32} (h : g_176 n dp (z, kd, Rf) 0 I L i1 i2 0 = some (r, I1, L1)) : Ct X d 176 0 0 [.ref 87, .int i1, .int i2] (z, kd, I, L, Rf) (AI (fun x τ => x = r ∧ τ = (z, kd, I1, L1, Rf))) :=
  Ct_of mu_176 (Nat.le_of_ble_eq_true rfl) ((w_176 X hS n dp d hd I L i1 i2 0 _ _ _).1 h)

/-! 175 CutFloor$Stock.findRounds(I)V -/
set_option maxHeartbeats 4000000 in
set_option maxRecDepth 100000 in
def g_175 : Nat → Nat → EN → Nat → (Nat → Nat → Int32) → (Nat → Nat → Int64) → Int32 → Int32 → Int32 → Int32 →  Option ((Nat → Nat → Int32) × (Nat → Nat → Int64))
  | 0, _, _, _, _, _, _, _, _, _ => none
  | n + 1, dp, e, lab, I, L, i1, i2, i3, i4 =>
    if lab = 0 then (g_175 n dp e 1 I L i1 (0 : Int32) 0 0)
    else if lab = 1 then (if (I 1 9) ≤ i2 then (g_175 n dp e 2 I L i1 (1 : Int32) (1 : Int32) 0) else (if 0 ≤ ((i2 * (7 : Int32)) + (5 : Int32)) ∧ (Int32.toNatClampNeg ((i2 * (7 : Int32)) + (5 : Int32))) < 112 then (if ((I 7 (Int32.toNatClampNeg ((i2 * (7 : Int32)) + (5 : Int32)))) &&& i1) = 0 then (if 0 ≤ i2 ∧ (Int32.toNatClampNeg i2) < 16 then (stI (u2 I 88 (Int32.toNatClampNeg i2) (-1 : Int32)) (fun I_42 => (g_175 n dp e 1 I_42 L i1 (i2 + Int32.ofInt (1)) 0 0))) else none) else (if 0 ≤ i2 ∧ (Int32.toNatClampNeg i2) < 16 then (stI (u2 I 88 (Int32.toNatClampNeg i2) (0 : Int32)) (fun I_42 => (g_175 n dp e 1 I_42 L i1 (i2 + Int32.ofInt (1)) 0 0))) else none)) else none))
    else if lab = 2 then (if (16 : Int32) ≤ i3 then (some (I, L)) else (if i2 = 0 then (some (I, L)) else (g_175 n dp e 3 I L i1 (0 : Int32) i3 (0 : Int32))))
    else if lab = 3 then (if (I 1 9) ≤ i4 then (g_175 n dp e 2 I L i1 i2 (i3 + Int32.ofInt (1)) 0) else (if 0 ≤ i4 ∧ (Int32.toNatClampNeg i4) < 16 then (if (I 88 (Int32.toNatClampNeg i4)) = (-1 : Int32) then (if 1 ≤ dp then (g_176 n (dp - 1) e 0 I L i4 (i3 - (1 : Int32)) 0).bind (fun ⟨x0_97, I0_97, L0_97⟩ => (if x0_97 = 0 then (g_175 n dp e 4 I0_97 L0_97 i1 i2 i3 i4) else (if 0 ≤ i4 ∧ (Int32.toNatClampNeg i4) < 16 then (stI (u2 I0_97 88 (Int32.toNatClampNeg i4) i3) (fun I_110 => (g_175 n dp e 4 I_110 L0_97 i1 (1 : Int32) i3 i4))) else none))) else none) else (g_175 n dp e 4 I L i1 i2 i3 i4)) else none))
    else if lab = 4 then (g_175 n dp e 3 I L i1 i2 i3 (i4 + Int32.ofInt (1)))
    else none
set_option maxRecDepth 100000 in
theorem e_175_0 (n dp : Nat) (e : EN) (I : (Nat → Nat → Int32)) (L : (Nat → Nat → Int64)) (i1 : Int32) (i2 : Int32) (i3 : Int32) (i4 : Int32) : g_175 (n + 1) dp e 0 I L i1 i2 i3 i4 = (g_175 n dp e 1 I L i1 (0 : Int32) 0 0) := by rw [g_175.eq_2, if_pos (show (0 : Nat) = 0 from rfl)]
set_option maxRecDepth 100000 in
theorem e_175_1 (n dp : Nat) (e : EN) (I : (Nat → Nat → Int32)) (L : (Nat → Nat → Int64)) (i1 : Int32) (i2 : Int32) (i3 : Int32) (i4 : Int32) : g_175 (n + 1) dp e 1 I L i1 i2 i3 i4 = (if (I 1 9) ≤ i2 then (g_175 n dp e 2 I L i1 (1 : Int32) (1 : Int32) 0) else (if 0 ≤ ((i2 * (7 : Int32)) + (5 : Int32)) ∧ (Int32.toNatClampNeg ((i2 * (7 : Int32)) + (5 : Int32))) < 112 then (if ((I 7 (Int32.toNatClampNeg ((i2 * (7 : Int32)) + (5 : Int32)))) &&& i1) = 0 then (if 0 ≤ i2 ∧ (Int32.toNatClampNeg i2) < 16 then (stI (u2 I 88 (Int32.toNatClampNeg i2) (-1 : Int32)) (fun I_42 => (g_175 n dp e 1 I_42 L i1 (i2 + Int32.ofInt (1)) 0 0))) else none) else (if 0 ≤ i2 ∧ (Int32.toNatClampNeg i2) < 16 then (stI (u2 I 88 (Int32.toNatClampNeg i2) (0 : Int32)) (fun I_42 => (g_175 n dp e 1 I_42 L i1 (i2 + Int32.ofInt (1)) 0 0))) else none)) else none)) := by rw [g_175.eq_2, if_neg (show ¬ ((1 : Nat) = 0) by decide), if_pos (show (1 : Nat) = 1 from rfl)]
set_option maxRecDepth 100000 in
theorem e_175_2 (n dp : Nat) (e : EN) (I : (Nat → Nat → Int32)) (L : (Nat → Nat → Int64)) (i1 : Int32) (i2 : Int32) (i3 : Int32) (i4 : Int32) : g_175 (n + 1) dp e 2 I L i1 i2 i3 i4 = (if (16 : Int32) ≤ i3 then (some (I, L)) else (if i2 = 0 then (some (I, L)) else (g_175 n dp e 3 I L i1 (0 : Int32) i3 (0 : Int32)))) := by rw [g_175.eq_2, if_neg (show ¬ ((2 : Nat) = 0) by decide), if_neg (show ¬ ((2 : Nat) = 1) by decide), if_pos (show (2 : Nat) = 2 from rfl)]
set_option maxRecDepth 100000 in
theorem e_175_3 (n dp : Nat) (e : EN) (I : (Nat → Nat → Int32)) (L : (Nat → Nat → Int64)) (i1 : Int32) (i2 : Int32) (i3 : Int32) (i4 : Int32) : g_175 (n + 1) dp e 3 I L i1 i2 i3 i4 = (if (I 1 9) ≤ i4 then (g_175 n dp e 2 I L i1 i2 (i3 + Int32.ofInt (1)) 0) else (if 0 ≤ i4 ∧ (Int32.toNatClampNeg i4) < 16 then (if (I 88 (Int32.toNatClampNeg i4)) = (-1 : Int32) then (if 1 ≤ dp then (g_176 n (dp - 1) e 0 I L i4 (i3 - (1 : Int32)) 0).bind (fun ⟨x0_97, I0_97, L0_97⟩ => (if x0_97 = 0 then (g_175 n dp e 4 I0_97 L0_97 i1 i2 i3 i4) else (if 0 ≤ i4 ∧ (Int32.toNatClampNeg i4) < 16 then (stI (u2 I0_97 88 (Int32.toNatClampNeg i4) i3) (fun I_110 => (g_175 n dp e 4 I_110 L0_97 i1 (1 : Int32) i3 i4))) else none))) else none) else (g_175 n dp e 4 I L i1 i2 i3 i4)) else none)) := by rw [g_175.eq_2, if_neg (show ¬ ((3 : Nat) = 0) by decide), if_neg (show ¬ ((3 : Nat) = 1) by decide), if_neg (show ¬ ((3 : Nat) = 2) by decide), if_pos (show (3 : Nat) = 3 from rfl)]
set_option maxRecDepth 100000 in
theorem e_175_4 (n dp : Nat) (e : EN) (I : (Nat → Nat → Int32)) (L : (Nat → Nat → Int64)) (i1 : Int32) (i2 : Int32) (i3 : Int32) (i4 : Int32) : g_175 (n + 1) dp e 4 I L i1 i2 i3 i4 = (g_175 n dp e 3 I L i1 i2 i3 (i4 + Int32.ofInt (1))) := by rw [g_175.eq_2, if_neg (show ¬ ((4 : Nat) = 0) by decide), if_neg (show ¬ ((4 : Nat) = 1) by decide), if_neg (show ¬ ((4 : Nat) = 2) by decide), if_neg (show ¬ ((4 : Nat) = 3) by decide), if_pos (show (4 : Nat) = 4 from rfl)]
set_option maxHeartbeats 8000000 in
set_option maxRecDepth 100000 in
theorem w_175 (X : GX) {z : Nat} {kd : Nat → Nat × Nat} {Rf : Nat → Nat → Option Nat} (hS : Sh z kd Rf) : ∀ (n dp d : Nat), dp ≤ d → ∀ (I : (Nat → Nat → Int32)) (L : (Nat → Nat → Int64)) (i1 : Int32) (i2 : Int32) (i3 : Int32) (i4 : Int32) (I1 : (Nat → Nat → Int32)) (L1 : (Nat → Nat → Int64)), (g_175 n dp (z, kd, Rf) 0 I L i1 i2 i3 i4 = some (I1, L1) → K X d 175 0 0 (AV (fun τ => τ = (z, kd, I1, L1, Rf))) 0 [some (.ref 87), some (.int i1), none, none, none] [] (z, kd, I, L, Rf) 0 0) ∧
    (g_175 n dp (z, kd, Rf) 1 I L i1 i2 i3 i4 = some (I1, L1) → K X d 175 0 0 (AV (fun τ => τ = (z, kd, I1, L1, Rf))) 2 [some (.ref 87), some (.int i1), some (.int i2), none, none] [] (z, kd, I, L, Rf) 0 0) ∧
    (g_175 n dp (z, kd, Rf) 2 I L i1 i2 i3 i4 = some (I1, L1) → K X d 175 0 0 (AV (fun τ => τ = (z, kd, I1, L1, Rf))) 53 [some (.ref 87), some (.int i1), some (.int i2), some (.int i3), none] [] (z, kd, I, L, Rf) 0 0) ∧
    (g_175 n dp (z, kd, Rf) 3 I L i1 i2 i3 i4 = some (I1, L1) → K X d 175 0 0 (AV (fun τ => τ = (z, kd, I1, L1, Rf))) 68 [some (.ref 87), some (.int i1), some (.int i2), some (.int i3), some (.int i4)] [] (z, kd, I, L, Rf) 0 0) ∧
    (g_175 n dp (z, kd, Rf) 4 I L i1 i2 i3 i4 = some (I1, L1) → K X d 175 0 0 (AV (fun τ => τ = (z, kd, I1, L1, Rf))) 113 [some (.ref 87), some (.int i1), some (.int i2), some (.int i3), some (.int i4)] [] (z, kd, I, L, Rf) 0 0) := by
  intro n
  induction n with
  | zero => intro dp d hdp I L i1 i2 i3 i4 I1 L1; exact ⟨(fun h => by cases h), (fun h => by cases h), (fun h => by cases h), (fun h => by cases h), (fun h => by cases h)⟩
  | succ n ih =>
    intro dp d hdp I L i1 i2 i3 i4 I1 L1
    refine ⟨?_, ?_, ?_, ?_, ?_⟩
    · intro h
      rw [e_175_0] at h
      refine K_of b_175_0 h_175_0 ?_
      refine q_iconst (0) (by decide) ?_
      refine q_istore (ls1 := [some (.ref 87), some (.int i1), some (.int (0 : Int32)), none, none]) (Nat.le_of_ble_eq_true rfl) rfl ?_
      refine q_end ?_
      exact (ih dp d hdp _ _ i1 (0 : Int32) 0 0 _ _).2.1 h
    · intro h
      rw [e_175_1] at h
      refine K_of b_175_2 h_175_2 ?_
      refine q_iload rfl ?_
      refine q_aload rfl ?_
      refine q_getRs (c0 := 9) (j := 0) rfl rfl (zl hS 87 (by decide)) (sk hS 87 (by decide) rfl) rfl (by decide) (r_87_0 hS) ?_
      refine q_getI (c0 := 3) (j := 9) rfl rfl (zl hS 1 (by decide)) (sk hS 1 (by decide) rfl) (Or.inl rfl) (by decide) ?_
      refine q_icmp_ge (fun c_10 => ?_) (fun c_10 => ?_)
      · rw [if_pos c_10] at h
        refine K_of b_175_49 h_175_49 ?_
        refine q_iconst (1) (by decide) ?_
        refine q_istore (ls1 := [some (.ref 87), some (.int i1), some (.int (1 : Int32)), none, none]) (Nat.le_of_ble_eq_true rfl) rfl ?_
        refine q_iconst (1) (by decide) ?_
        refine q_istore (ls1 := [some (.ref 87), some (.int i1), some (.int (1 : Int32)), some (.int (1 : Int32)), none]) (Nat.le_of_ble_eq_true rfl) rfl ?_
        refine q_end ?_
        exact (ih dp d hdp _ _ i1 (1 : Int32) (1 : Int32) 0 _ _).2.2.1 h
      · rw [if_neg c_10] at h
        refine q_aload rfl ?_
        refine q_getRs (c0 := 9) (j := 1) rfl rfl (zl hS 87 (by decide)) (sk hS 87 (by decide) rfl) rfl (by decide) (r_87_1 hS) ?_
        refine q_iload rfl ?_
        refine q_aload rfl ?_
        refine q_getRs (c0 := 9) (j := 0) rfl rfl (zl hS 87 (by decide)) (sk hS 87 (by decide) rfl) rfl (by decide) (r_87_0 hS) ?_
        refine q_getRs (c0 := 3) (j := 5) rfl rfl (zl hS 1 (by decide)) (sk hS 1 (by decide) rfl) rfl (by decide) (r_1_5 hS) ?_
        refine q_iload rfl ?_
        refine q_iconst (7) (by decide) ?_
        refine q_imul ?_
        refine q_iconst (5) (by decide) ?_
        refine q_iadd ?_
        obtain ⟨⟨u_31, v_31⟩, h⟩ := ite_some h
        refine q_ialN (Int32.toNatClampNeg ((i2 * (7 : Int32)) + (5 : Int32))) (nx u_31) (zl hS 7 (by decide)) (sk hS 7 (by decide) rfl) v_31 (by decide) ?_
        refine q_iload rfl ?_
        refine q_iand ?_
        refine q_if_eq (fun c_34 => ?_) (fun c_34 => ?_)
        · rw [if_pos c_34] at h
          refine K_of b_175_41 h_175_41 ?_
          refine q_iconst (-1) (by decide) ?_
          refine q_end ?_
          refine K_of b_175_42 h_175_42 ?_
          obtain ⟨⟨u_42, v_42⟩, h⟩ := ite_some h
          refine q_iasN (Int32.toNatClampNeg i2) (nx u_42) (zl hS 88 (by decide)) (sk hS 88 (by decide) rfl) v_42 (by decide) ?_
          obtain ⟨I_42, nI_42, h⟩ := stI_some h
          refine q_nI nI_42 ?_
          refine q_iinc (ls1 := [some (.ref 87), some (.int i1), some (.int (i2 + Int32.ofInt (1))), none, none]) rfl rfl ?_
          refine q_goto ?_
          exact (ih dp d hdp _ _ i1 (i2 + Int32.ofInt (1)) 0 0 _ _).2.1 h
        · rw [if_neg c_34] at h
          refine q_iconst (0) (by decide) ?_
          refine q_goto ?_
          refine K_of b_175_42 h_175_42 ?_
          obtain ⟨⟨u_42, v_42⟩, h⟩ := ite_some h
          refine q_iasN (Int32.toNatClampNeg i2) (nx u_42) (zl hS 88 (by decide)) (sk hS 88 (by decide) rfl) v_42 (by decide) ?_
          obtain ⟨I_42, nI_42, h⟩ := stI_some h
          refine q_nI nI_42 ?_
          refine q_iinc (ls1 := [some (.ref 87), some (.int i1), some (.int (i2 + Int32.ofInt (1))), none, none]) rfl rfl ?_
          refine q_goto ?_
          exact (ih dp d hdp _ _ i1 (i2 + Int32.ofInt (1)) 0 0 _ _).2.1 h
    · intro h
      rw [e_175_2] at h
      refine K_of b_175_53 h_175_53 ?_
      refine q_iload rfl ?_
      refine q_iconst (16) (by decide) ?_
      refine q_icmp_ge (fun c_56 => ?_) (fun c_56 => ?_)
      · rw [if_pos c_56] at h
        refine K_of b_175_125 h_175_125 ?_
        cases h
        exact q_vret rfl (Nat.le_refl _) (Nat.le_refl _) rfl
      · rw [if_neg c_56] at h
        refine q_iload rfl ?_
        refine q_if_eq (fun c_60 => ?_) (fun c_60 => ?_)
        · rw [if_pos c_60] at h
          refine K_of b_175_125 h_175_125 ?_
          cases h
          exact q_vret rfl (Nat.le_refl _) (Nat.le_refl _) rfl
        · rw [if_neg c_60] at h
          refine q_iconst (0) (by decide) ?_
          refine q_istore (ls1 := [some (.ref 87), some (.int i1), some (.int (0 : Int32)), some (.int i3), none]) (Nat.le_of_ble_eq_true rfl) rfl ?_
          refine q_iconst (0) (by decide) ?_
          refine q_istore (ls1 := [some (.ref 87), some (.int i1), some (.int (0 : Int32)), some (.int i3), some (.int (0 : Int32))]) (Nat.le_of_ble_eq_true rfl) rfl ?_
          refine q_end ?_
          exact (ih dp d hdp _ _ i1 (0 : Int32) i3 (0 : Int32) _ _).2.2.2.1 h
    · intro h
      rw [e_175_3] at h
      refine K_of b_175_68 h_175_68 ?_
      refine q_iload rfl ?_
      refine q_aload rfl ?_
      refine q_getRs (c0 := 9) (j := 0) rfl rfl (zl hS 87 (by decide)) (sk hS 87 (by decide) rfl) rfl (by decide) (r_87_0 hS) ?_
      refine q_getI (c0 := 3) (j := 9) rfl rfl (zl hS 1 (by decide)) (sk hS 1 (by decide) rfl) (Or.inl rfl) (by decide) ?_
      refine q_icmp_ge (fun c_77 => ?_) (fun c_77 => ?_)
      · rw [if_pos c_77] at h
        refine K_of b_175_119 h_175_119 ?_
        refine q_iinc (ls1 := [some (.ref 87), some (.int i1), some (.int i2), some (.int (i3 + Int32.ofInt (1))), some (.int i4)]) rfl rfl ?_
        refine q_goto ?_
        refine K_mask [true, true, true, true, false] (Nat.le_of_ble_eq_true rfl) ?_
        exact (ih dp d hdp _ _ i1 i2 (i3 + Int32.ofInt (1)) 0 _ _).2.2.1 h
      · rw [if_neg c_77] at h
        refine q_aload rfl ?_
        refine q_getRs (c0 := 9) (j := 1) rfl rfl (zl hS 87 (by decide)) (sk hS 87 (by decide) rfl) rfl (by decide) (r_87_1 hS) ?_
        refine q_iload rfl ?_
        obtain ⟨⟨u_86, v_86⟩, h⟩ := ite_some h
        refine q_ialN (Int32.toNatClampNeg i4) (nx u_86) (zl hS 88 (by decide)) (sk hS 88 (by decide) rfl) v_86 (by decide) ?_
        refine q_iconst (-1) (by decide) ?_
        refine q_icmp_ne (fun c_88 => ?_) (fun c_88 => ?_)
        · rw [if_neg c_88] at h
          exact (ih dp d hdp _ _ i1 i2 i3 i4 _ _).2.2.2.2 h
        · rw [if_pos c_88] at h
          refine q_aload rfl ?_
          refine q_iload rfl ?_
          refine q_iload rfl ?_
          refine q_iconst (1) (by decide) ?_
          refine q_isub ?_
          obtain ⟨d_97, h⟩ := ite_some h
          obtain ⟨⟨x0_97, I0_97, L0_97⟩, e_97, h⟩ := Option.bind_eq_some_iff.mp h
          dsimp only at h
          refine q_fv3I (a_176 X hS (d := d - 1) (by omega) e_97) (by omega) (Nat.le_refl _) (Nat.le_refl _) rfl (Nat.le_of_ble_eq_true rfl) ⟨(zl hS 87 (by decide)), congrArg Prod.fst (sk hS 87 (by decide) rfl), by decide⟩ ?_
          refine q_if_eq (fun c_100 => ?_) (fun c_100 => ?_)
          · rw [if_pos c_100] at h
            exact (ih dp d hdp _ _ i1 i2 i3 i4 _ _).2.2.2.2 h
          · rw [if_neg c_100] at h
            refine q_aload rfl ?_
            refine q_getRs (c0 := 9) (j := 1) rfl rfl (zl hS 87 (by decide)) (sk hS 87 (by decide) rfl) rfl (by decide) (r_87_1 hS) ?_
            refine q_iload rfl ?_
            refine q_iload rfl ?_
            obtain ⟨⟨u_110, v_110⟩, h⟩ := ite_some h
            refine q_iasN (Int32.toNatClampNeg i4) (nx u_110) (zl hS 88 (by decide)) (sk hS 88 (by decide) rfl) v_110 (by decide) ?_
            obtain ⟨I_110, nI_110, h⟩ := stI_some h
            refine q_nI nI_110 ?_
            refine q_iconst (1) (by decide) ?_
            refine q_istore (ls1 := [some (.ref 87), some (.int i1), some (.int (1 : Int32)), some (.int i3), some (.int i4)]) (Nat.le_of_ble_eq_true rfl) rfl ?_
            refine q_end ?_
            exact (ih dp d hdp _ _ i1 (1 : Int32) i3 i4 _ _).2.2.2.2 h
    · intro h
      rw [e_175_4] at h
      refine K_of b_175_113 h_175_113 ?_
      refine q_iinc (ls1 := [some (.ref 87), some (.int i1), some (.int i2), some (.int i3), some (.int (i4 + Int32.ofInt (1)))]) rfl rfl ?_
      refine q_goto ?_
      exact (ih dp d hdp _ _ i1 i2 i3 (i4 + Int32.ofInt (1)) _ _).2.2.2.1 h
theorem a_175 (X : GX) {z : Nat} {kd : Nat → Nat × Nat} {Rf : Nat → Nat → Option Nat} (hS : Sh z kd Rf) {n dp d : Nat} (hd : dp ≤ d) {I : (Nat → Nat → Int32)} {L : (Nat → Nat → Int64)} {i1 : Int32} {I1 : (Nat → Nat → Int32)} {L1 : (Nat → Nat → Int64)} (h : g_175 n dp (z, kd, Rf) 0 I L i1 0 0 0 = some (I1, L1)) : Ct X d 175 0 0 [.ref 87, .int i1] (z, kd, I, L, Rf) (AV (fun τ => τ = (z, kd, I1, L1, Rf))) :=
  Ct_of mu_175 (Nat.le_of_ble_eq_true rfl) ((w_175 X hS n dp d hd I L i1 0 0 0 _ _).1 h)

/-! 174 CutFloor$Stock.recalledBits(I)I -/
set_option maxHeartbeats 4000000 in
set_option maxRecDepth 100000 in
def g_174 : Nat → Nat → EN → Nat → (Nat → Nat → Int32) → (Nat → Nat → Int64) → Int32 → Int32 → Int32 →  Option (Int32 × (Nat → Nat → Int32) × (Nat → Nat → Int64))
  | 0, _, _, _, _, _, _, _, _ => none
  | n + 1, dp, e, lab, I, L, i1, i2, i3 =>
    if lab = 0 then (if 1 ≤ dp then (g_175 n (dp - 1) e 0 I L i1 0 0 0).bind (fun ⟨I0_2, L0_2⟩ => (g_174 n dp e 1 I0_2 L0_2 i1 (0 : Int32) (0 : Int32))) else none)
    else if lab = 1 then (if (I 1 9) ≤ i3 then (some (i2, I, L)) else (if 0 ≤ i3 ∧ (Int32.toNatClampNeg i3) < 16 then (if (I 88 (Int32.toNatClampNeg i3)) = (-1 : Int32) then (g_174 n dp e 2 I L i1 i2 i3) else (stI (i2 ||| ((1 : Int32) <<< (i3 &&& 31))) (fun v_35 => (g_174 n dp e 2 I L i1 v_35 i3)))) else none))
    else if lab = 2 then (g_174 n dp e 1 I L i1 i2 (i3 + Int32.ofInt (1)))
    else none
set_option maxRecDepth 100000 in
theorem e_174_0 (n dp : Nat) (e : EN) (I : (Nat → Nat → Int32)) (L : (Nat → Nat → Int64)) (i1 : Int32) (i2 : Int32) (i3 : Int32) : g_174 (n + 1) dp e 0 I L i1 i2 i3 = (if 1 ≤ dp then (g_175 n (dp - 1) e 0 I L i1 0 0 0).bind (fun ⟨I0_2, L0_2⟩ => (g_174 n dp e 1 I0_2 L0_2 i1 (0 : Int32) (0 : Int32))) else none) := by rw [g_174.eq_2, if_pos (show (0 : Nat) = 0 from rfl)]
set_option maxRecDepth 100000 in
theorem e_174_1 (n dp : Nat) (e : EN) (I : (Nat → Nat → Int32)) (L : (Nat → Nat → Int64)) (i1 : Int32) (i2 : Int32) (i3 : Int32) : g_174 (n + 1) dp e 1 I L i1 i2 i3 = (if (I 1 9) ≤ i3 then (some (i2, I, L)) else (if 0 ≤ i3 ∧ (Int32.toNatClampNeg i3) < 16 then (if (I 88 (Int32.toNatClampNeg i3)) = (-1 : Int32) then (g_174 n dp e 2 I L i1 i2 i3) else (stI (i2 ||| ((1 : Int32) <<< (i3 &&& 31))) (fun v_35 => (g_174 n dp e 2 I L i1 v_35 i3)))) else none)) := by rw [g_174.eq_2, if_neg (show ¬ ((1 : Nat) = 0) by decide), if_pos (show (1 : Nat) = 1 from rfl)]
set_option maxRecDepth 100000 in
theorem e_174_2 (n dp : Nat) (e : EN) (I : (Nat → Nat → Int32)) (L : (Nat → Nat → Int64)) (i1 : Int32) (i2 : Int32) (i3 : Int32) : g_174 (n + 1) dp e 2 I L i1 i2 i3 = (g_174 n dp e 1 I L i1 i2 (i3 + Int32.ofInt (1))) := by rw [g_174.eq_2, if_neg (show ¬ ((2 : Nat) = 0) by decide), if_neg (show ¬ ((2 : Nat) = 1) by decide), if_pos (show (2 : Nat) = 2 from rfl)]
set_option maxHeartbeats 8000000 in
set_option maxRecDepth 100000 in
theorem w_174 (X : GX) {z : Nat} {kd : Nat → Nat × Nat} {Rf : Nat → Nat → Option Nat} (hS : Sh z kd Rf) : ∀ (n dp d : Nat), dp ≤ d → ∀ (I : (Nat → Nat → Int32)) (L : (Nat → Nat → Int64)) (i1 : Int32) (i2 : Int32) (i3 : Int32) (r : Int32) (I1 : (Nat → Nat → Int32)) (L1 : (Nat → Nat → Int64)), (g_174 n dp (z, kd, Rf) 0 I L i1 i2 i3 = some (r, I1, L1) → K X d 174 0 0 (AI (fun x τ => x = r ∧ τ = (z, kd, I1, L1, Rf))) 0 [some (.ref 87), some (.int i1), none, none] [] (z, kd, I, L, Rf) 0 0) ∧
    (g_174 n dp (z, kd, Rf) 1 I L i1 i2 i3 = some (r, I1, L1) → K X d 174 0 0 (AI (fun x τ => x = r ∧ τ = (z, kd, I1, L1, Rf))) 9 [some (.ref 87), some (.int i1), some (.int i2), some (.int i3)] [] (z, kd, I, L, Rf) 0 0) ∧
    (g_174 n dp (z, kd, Rf) 2 I L i1 i2 i3 = some (r, I1, L1) → K X d 174 0 0 (AI (fun x τ => x = r ∧ τ = (z, kd, I1, L1, Rf))) 36 [some (.ref 87), some (.int i1), some (.int i2), some (.int i3)] [] (z, kd, I, L, Rf) 0 0) := by
  intro n
  induction n with
  | zero => intro dp d hdp I L i1 i2 i3 r I1 L1; exact ⟨(fun h => by cases h), (fun h => by cases h), (fun h => by cases h)⟩
  | succ n ih =>
    intro dp d hdp I L i1 i2 i3 r I1 L1
    refine ⟨?_, ?_, ?_⟩
    · intro h
      rw [e_174_0] at h
      refine K_of b_174_0 h_174_0 ?_
      refine q_aload rfl ?_
      refine q_iload rfl ?_
      obtain ⟨d_2, h⟩ := ite_some h
      obtain ⟨⟨I0_2, L0_2⟩, e_2, h⟩ := Option.bind_eq_some_iff.mp h
      dsimp only at h
      refine q_fv2V (a_175 X hS (d := d - 1) (by omega) e_2) (by omega) (Nat.le_refl _) (Nat.le_refl _) rfl (Nat.le_of_ble_eq_true rfl) ⟨(zl hS 87 (by decide)), congrArg Prod.fst (sk hS 87 (by decide) rfl), by decide⟩ ?_
      refine q_iconst (0) (by decide) ?_
      refine q_istore (ls1 := [some (.ref 87), some (.int i1), some (.int (0 : Int32)), none]) (Nat.le_of_ble_eq_true rfl) rfl ?_
      refine q_iconst (0) (by decide) ?_
      refine q_istore (ls1 := [some (.ref 87), some (.int i1), some (.int (0 : Int32)), some (.int (0 : Int32))]) (Nat.le_of_ble_eq_true rfl) rfl ?_
      refine q_end ?_
      exact (ih dp d hdp _ _ i1 (0 : Int32) (0 : Int32) _ _ _).2.1 h
    · intro h
      rw [e_174_1] at h
      refine K_of b_174_9 h_174_9 ?_
      refine q_iload rfl ?_
      refine q_aload rfl ?_
      refine q_getRs (c0 := 9) (j := 0) rfl rfl (zl hS 87 (by decide)) (sk hS 87 (by decide) rfl) rfl (by decide) (r_87_0 hS) ?_
      refine q_getI (c0 := 3) (j := 9) rfl rfl (zl hS 1 (by decide)) (sk hS 1 (by decide) rfl) (Or.inl rfl) (by decide) ?_
      refine q_icmp_ge (fun c_17 => ?_) (fun c_17 => ?_)
      · rw [if_pos c_17] at h
        refine K_of b_174_42 h_174_42 ?_
        refine q_iload rfl ?_
        cases h
        exact q_iret rfl (Nat.le_refl _) (Nat.le_refl _) ⟨rfl, rfl⟩
      · rw [if_neg c_17] at h
        refine q_aload rfl ?_
        refine q_getRs (c0 := 9) (j := 1) rfl rfl (zl hS 87 (by decide)) (sk hS 87 (by decide) rfl) rfl (by decide) (r_87_1 hS) ?_
        refine q_iload rfl ?_
        obtain ⟨⟨u_25, v_25⟩, h⟩ := ite_some h
        refine q_ialN (Int32.toNatClampNeg i3) (nx u_25) (zl hS 88 (by decide)) (sk hS 88 (by decide) rfl) v_25 (by decide) ?_
        refine q_iconst (-1) (by decide) ?_
        refine q_icmp_eq (fun c_27 => ?_) (fun c_27 => ?_)
        · rw [if_pos c_27] at h
          exact (ih dp d hdp _ _ i1 i2 i3 _ _ _).2.2 h
        · rw [if_neg c_27] at h
          refine q_iload rfl ?_
          refine q_iconst (1) (by decide) ?_
          refine q_iload rfl ?_
          refine q_ishl ?_
          refine q_ior ?_
          obtain ⟨v_35, nv_35, h⟩ := stI_some h
          refine q_eqi nv_35.symm ?_
          refine q_istore (ls1 := [some (.ref 87), some (.int i1), some (.int v_35), some (.int i3)]) (Nat.le_of_ble_eq_true rfl) rfl ?_
          refine q_end ?_
          exact (ih dp d hdp _ _ i1 v_35 i3 _ _ _).2.2 h
    · intro h
      rw [e_174_2] at h
      refine K_of b_174_36 h_174_36 ?_
      refine q_iinc (ls1 := [some (.ref 87), some (.int i1), some (.int i2), some (.int (i3 + Int32.ofInt (1)))]) rfl rfl ?_
      refine q_goto ?_
      exact (ih dp d hdp _ _ i1 i2 (i3 + Int32.ofInt (1)) _ _ _).2.1 h
theorem a_174 (X : GX) {z : Nat} {kd : Nat → Nat × Nat} {Rf : Nat → Nat → Option Nat} (hS : Sh z kd Rf) {n dp d : Nat} (hd : dp ≤ d) {I : (Nat → Nat → Int32)} {L : (Nat → Nat → Int64)} {i1 : Int32} {I1 : (Nat → Nat → Int32)} {L1 : (Nat → Nat → Int64)} {r : Int32} (h : g_174 n dp (z, kd, Rf) 0 I L i1 0 0 = some (r, I1, L1)) : Ct X d 174 0 0 [.ref 87, .int i1] (z, kd, I, L, Rf) (AI (fun x τ => x = r ∧ τ = (z, kd, I1, L1, Rf))) :=
  Ct_of mu_174 (Nat.le_of_ble_eq_true rfl) ((w_174 X hS n dp d hd I L i1 0 0 _ _ _).1 h)

/-! 178 CutFloor$Stock.recallRound(II)I -/
set_option maxHeartbeats 4000000 in
set_option maxRecDepth 100000 in
def g_178 : Nat → Nat → EN → Nat → (Nat → Nat → Int32) → (Nat → Nat → Int64) → Int32 → Int32 →  Option (Int32 × (Nat → Nat → Int32) × (Nat → Nat → Int64))
  | 0, _, _, _, _, _, _, _ => none
  | n + 1, dp, e, lab, I, L, i1, i2 =>
    if lab = 0 then (if 1 ≤ dp then (g_175 n (dp - 1) e 0 I L i1 0 0 0).bind (fun ⟨I0_2, L0_2⟩ => (if 0 ≤ i2 ∧ (Int32.toNatClampNeg i2) < 16 then (some ((I0_2 88 (Int32.toNatClampNeg i2)), I0_2, L0_2)) else none)) else none)
    else none
set_option maxRecDepth 100000 in
theorem e_178_0 (n dp : Nat) (e : EN) (I : (Nat → Nat → Int32)) (L : (Nat → Nat → Int64)) (i1 : Int32) (i2 : Int32) : g_178 (n + 1) dp e 0 I L i1 i2 = (if 1 ≤ dp then (g_175 n (dp - 1) e 0 I L i1 0 0 0).bind (fun ⟨I0_2, L0_2⟩ => (if 0 ≤ i2 ∧ (Int32.toNatClampNeg i2) < 16 then (some ((I0_2 88 (Int32.toNatClampNeg i2)), I0_2, L0_2)) else none)) else none) := by rw [g_178.eq_2, if_pos (show (0 : Nat) = 0 from rfl)]
set_option maxHeartbeats 8000000 in
set_option maxRecDepth 100000 in
theorem w_178 (X : GX) {z : Nat} {kd : Nat → Nat × Nat} {Rf : Nat → Nat → Option Nat} (hS : Sh z kd Rf) : ∀ (n dp d : Nat), dp ≤ d → ∀ (I : (Nat → Nat → Int32)) (L : (Nat → Nat → Int64)) (i1 : Int32) (i2 : Int32) (r : Int32) (I1 : (Nat → Nat → Int32)) (L1 : (Nat → Nat → Int64)), (g_178 n dp (z, kd, Rf) 0 I L i1 i2 = some (r, I1, L1) → K X d 178 0 0 (AI (fun x τ => x = r ∧ τ = (z, kd, I1, L1, Rf))) 0 [some (.ref 87), some (.int i1), some (.int i2)] [] (z, kd, I, L, Rf) 0 0) := by
  intro n
  induction n with
  | zero => intro dp d hdp I L i1 i2 r I1 L1; exact fun h => by cases h
  | succ n ih =>
    intro dp d hdp I L i1 i2 r I1 L1
    · intro h
      rw [e_178_0] at h
      refine K_of b_178_0 h_178_0 ?_
      refine q_aload rfl ?_
      refine q_iload rfl ?_
      obtain ⟨d_2, h⟩ := ite_some h
      obtain ⟨⟨I0_2, L0_2⟩, e_2, h⟩ := Option.bind_eq_some_iff.mp h
      dsimp only at h
      refine q_fv2V (a_175 X hS (d := d - 1) (by omega) e_2) (by omega) (Nat.le_refl _) (Nat.le_refl _) rfl (Nat.le_of_ble_eq_true rfl) ⟨(zl hS 87 (by decide)), congrArg Prod.fst (sk hS 87 (by decide) rfl), by decide⟩ ?_
      refine q_aload rfl ?_
      refine q_getRs (c0 := 9) (j := 1) rfl rfl (zl hS 87 (by decide)) (sk hS 87 (by decide) rfl) rfl (by decide) (r_87_1 hS) ?_
      refine q_iload rfl ?_
      obtain ⟨⟨u_10, v_10⟩, h⟩ := ite_some h
      refine q_ialN (Int32.toNatClampNeg i2) (nx u_10) (zl hS 88 (by decide)) (sk hS 88 (by decide) rfl) v_10 (by decide) ?_
      cases h
      exact q_iret rfl (Nat.le_refl _) (Nat.le_refl _) ⟨rfl, rfl⟩
theorem a_178 (X : GX) {z : Nat} {kd : Nat → Nat × Nat} {Rf : Nat → Nat → Option Nat} (hS : Sh z kd Rf) {n dp d : Nat} (hd : dp ≤ d) {I : (Nat → Nat → Int32)} {L : (Nat → Nat → Int64)} {i1 : Int32} {i2 : Int32} {I1 : (Nat → Nat → Int32)} {L1 : (Nat → Nat → Int64)} {r : Int32} (h : g_178 n dp (z, kd, Rf) 0 I L i1 i2 = some (r, I1, L1)) : Ct X d 178 0 0 [.ref 87, .int i1, .int i2] (z, kd, I, L, Rf) (AI (fun x τ => x = r ∧ τ = (z, kd, I1, L1, Rf))) :=
  Ct_of mu_178 (Nat.le_of_ble_eq_true rfl) ((w_178 X hS n dp d hd I L i1 i2 _ _ _) h)

/-! 173 CutFloor.recall(II)I -/
set_option maxHeartbeats 4000000 in
set_option maxRecDepth 100000 in
def g_173 : Nat → Nat → EN → Nat → (Nat → Nat → Int32) → (Nat → Nat → Int64) → Int32 → Int32 →  Option (Int32 × (Nat → Nat → Int32) × (Nat → Nat → Int64))
  | 0, _, _, _, _, _, _, _ => none
  | n + 1, dp, e, lab, I, L, i1, i2 =>
    if lab = 0 then (if 1 ≤ dp then (g_14 n (dp - 1) e 0 I L i1 (0 : Int32) (255 : Int32)).bind (fun ⟨x0_5, I0_5, L0_5⟩ => (if x0_5 = 0 then (some ((-1 : Int32), I0_5, L0_5)) else (if 1 ≤ dp then (g_14 n (dp - 1) e 0 I0_5 L0_5 i2 (-1 : Int32) ((I0_5 1 9) - (1 : Int32))).bind (fun ⟨x1_22, I1_22, L1_22⟩ => (if x1_22 = 0 then (some ((-1 : Int32), I1_22, L1_22)) else (if i2 = (-1 : Int32) then (if 1 ≤ dp then (g_174 n (dp - 1) e 0 I1_22 L1_22 i1 0 0).bind (fun ⟨x2_40, I2_40, L2_40⟩ => (some (x2_40, I2_40, L2_40))) else none) else (if 1 ≤ dp then (g_178 n (dp - 1) e 0 I1_22 L1_22 i1 i2).bind (fun ⟨x2_52, I2_52, L2_52⟩ => (some (x2_52, I2_52, L2_52))) else none)))) else none))) else none)
    else none
set_option maxRecDepth 100000 in
theorem e_173_0 (n dp : Nat) (e : EN) (I : (Nat → Nat → Int32)) (L : (Nat → Nat → Int64)) (i1 : Int32) (i2 : Int32) : g_173 (n + 1) dp e 0 I L i1 i2 = (if 1 ≤ dp then (g_14 n (dp - 1) e 0 I L i1 (0 : Int32) (255 : Int32)).bind (fun ⟨x0_5, I0_5, L0_5⟩ => (if x0_5 = 0 then (some ((-1 : Int32), I0_5, L0_5)) else (if 1 ≤ dp then (g_14 n (dp - 1) e 0 I0_5 L0_5 i2 (-1 : Int32) ((I0_5 1 9) - (1 : Int32))).bind (fun ⟨x1_22, I1_22, L1_22⟩ => (if x1_22 = 0 then (some ((-1 : Int32), I1_22, L1_22)) else (if i2 = (-1 : Int32) then (if 1 ≤ dp then (g_174 n (dp - 1) e 0 I1_22 L1_22 i1 0 0).bind (fun ⟨x2_40, I2_40, L2_40⟩ => (some (x2_40, I2_40, L2_40))) else none) else (if 1 ≤ dp then (g_178 n (dp - 1) e 0 I1_22 L1_22 i1 i2).bind (fun ⟨x2_52, I2_52, L2_52⟩ => (some (x2_52, I2_52, L2_52))) else none)))) else none))) else none) := by rw [g_173.eq_2, if_pos (show (0 : Nat) = 0 from rfl)]
set_option maxHeartbeats 8000000 in
set_option maxRecDepth 100000 in
theorem w_173 (X : GX) {z : Nat} {kd : Nat → Nat × Nat} {Rf : Nat → Nat → Option Nat} (hS : Sh z kd Rf) : ∀ (n dp d : Nat), dp ≤ d → ∀ (I : (Nat → Nat → Int32)) (L : (Nat → Nat → Int64)) (i1 : Int32) (i2 : Int32) (r : Int32) (I1 : (Nat → Nat → Int32)) (L1 : (Nat → Nat → Int64)), (g_173 n dp (z, kd, Rf) 0 I L i1 i2 = some (r, I1, L1) → K X d 173 0 0 (AI (fun x τ => x = r ∧ τ = (z, kd, I1, L1, Rf))) 0 [some (.ref 0), some (.int i1), some (.int i2)] [] (z, kd, I, L, Rf) 0 0) := by
  intro n
  induction n with
  | zero => intro dp d hdp I L i1 i2 r I1 L1; exact fun h => by cases h
  | succ n ih =>
    intro dp d hdp I L i1 i2 r I1 L1
    · intro h
      rw [e_173_0] at h
      refine K_of b_173_0 h_173_0 ?_
      refine q_iload rfl ?_
      refine q_iconst (0) (by decide) ?_
      refine q_iconst (255) (by decide) ?_
      obtain ⟨d_5, h⟩ := ite_some h
      obtain ⟨⟨x0_5, I0_5, L0_5⟩, e_5, h⟩ := Option.bind_eq_some_iff.mp h
      dsimp only at h
      refine q_fs3I (a_14 X hS (d := d - 1) (by omega) e_5) (by omega) (Nat.le_refl _) (Nat.le_refl _) rfl (Nat.le_of_ble_eq_true rfl) ?_
      refine q_if_eq (fun c_8 => ?_) (fun c_8 => ?_)
      · rw [if_pos c_8] at h
        refine K_of b_173_28 h_173_28 ?_
        refine q_iconst (-1) (by decide) ?_
        cases h
        exact q_iret rfl (Nat.le_refl _) (Nat.le_refl _) ⟨rfl, rfl⟩
      · rw [if_neg c_8] at h
        refine q_iload rfl ?_
        refine q_iconst (-1) (by decide) ?_
        refine q_aload rfl ?_
        refine q_getRs (c0 := 11) (j := 0) rfl rfl (zl hS 0 (by decide)) (sk hS 0 (by decide) rfl) rfl (by decide) (r_0_0 hS) ?_
        refine q_getI (c0 := 3) (j := 9) rfl rfl (zl hS 1 (by decide)) (sk hS 1 (by decide) rfl) (Or.inl rfl) (by decide) ?_
        refine q_iconst (1) (by decide) ?_
        refine q_isub ?_
        obtain ⟨d_22, h⟩ := ite_some h
        obtain ⟨⟨x1_22, I1_22, L1_22⟩, e_22, h⟩ := Option.bind_eq_some_iff.mp h
        dsimp only at h
        refine q_fs3I (a_14 X hS (d := d - 1) (by omega) e_22) (by omega) (Nat.le_refl _) (Nat.le_refl _) rfl (Nat.le_of_ble_eq_true rfl) ?_
        refine q_if_ne (fun c_25 => ?_) (fun c_25 => ?_)
        · rw [if_neg c_25] at h
          refine K_of b_173_30 h_173_30 ?_
          refine q_iload rfl ?_
          refine q_iconst (-1) (by decide) ?_
          refine q_icmp_ne (fun c_32 => ?_) (fun c_32 => ?_)
          · rw [if_neg c_32] at h
            refine K_of b_173_46 h_173_46 ?_
            refine q_aload rfl ?_
            refine q_getRs (c0 := 11) (j := 6) rfl rfl (zl hS 0 (by decide)) (sk hS 0 (by decide) rfl) rfl (by decide) (r_0_6 hS) ?_
            refine q_iload rfl ?_
            refine q_iload rfl ?_
            obtain ⟨d_52, h⟩ := ite_some h
            obtain ⟨⟨x2_52, I2_52, L2_52⟩, e_52, h⟩ := Option.bind_eq_some_iff.mp h
            dsimp only at h
            refine q_fv3I (a_178 X hS (d := d - 1) (by omega) e_52) (by omega) (Nat.le_refl _) (Nat.le_refl _) rfl (Nat.le_of_ble_eq_true rfl) ⟨(zl hS 87 (by decide)), congrArg Prod.fst (sk hS 87 (by decide) rfl), by decide⟩ ?_
            refine q_end ?_
            refine K_of b_173_55 h_173_55 ?_
            cases h
            exact q_iret rfl (Nat.le_refl _) (Nat.le_refl _) ⟨rfl, rfl⟩
          · rw [if_pos c_32] at h
            refine q_aload rfl ?_
            refine q_getRs (c0 := 11) (j := 6) rfl rfl (zl hS 0 (by decide)) (sk hS 0 (by decide) rfl) rfl (by decide) (r_0_6 hS) ?_
            refine q_iload rfl ?_
            obtain ⟨d_40, h⟩ := ite_some h
            obtain ⟨⟨x2_40, I2_40, L2_40⟩, e_40, h⟩ := Option.bind_eq_some_iff.mp h
            dsimp only at h
            refine q_fv2I (a_174 X hS (d := d - 1) (by omega) e_40) (by omega) (Nat.le_refl _) (Nat.le_refl _) rfl (Nat.le_of_ble_eq_true rfl) ⟨(zl hS 87 (by decide)), congrArg Prod.fst (sk hS 87 (by decide) rfl), by decide⟩ ?_
            refine q_goto ?_
            refine K_of b_173_55 h_173_55 ?_
            cases h
            exact q_iret rfl (Nat.le_refl _) (Nat.le_refl _) ⟨rfl, rfl⟩
        · rw [if_pos c_25] at h
          refine q_end ?_
          refine K_of b_173_28 h_173_28 ?_
          refine q_iconst (-1) (by decide) ?_
          cases h
          exact q_iret rfl (Nat.le_refl _) (Nat.le_refl _) ⟨rfl, rfl⟩
theorem a_173 (X : GX) {z : Nat} {kd : Nat → Nat × Nat} {Rf : Nat → Nat → Option Nat} (hS : Sh z kd Rf) {n dp d : Nat} (hd : dp ≤ d) {I : (Nat → Nat → Int32)} {L : (Nat → Nat → Int64)} {i1 : Int32} {i2 : Int32} {I1 : (Nat → Nat → Int32)} {L1 : (Nat → Nat → Int64)} {r : Int32} (h : g_173 n dp (z, kd, Rf) 0 I L i1 i2 = some (r, I1, L1)) : Ct X d 173 0 0 [.ref 0, .int i1, .int i2] (z, kd, I, L, Rf) (AI (fun x τ => x = r ∧ τ = (z, kd, I1, L1, Rf))) :=
  Ct_of mu_173 (Nat.le_of_ble_eq_true rfl) ((w_173 X hS n dp d hd I L i1 i2 _ _ _) h)

/-! 179 CutFloor.yields(II)I -/
set_option maxHeartbeats 4000000 in
set_option maxRecDepth 100000 in
def g_179 : Nat → Nat → EN → Nat → (Nat → Nat → Int32) → (Nat → Nat → Int64) → Int32 → Int32 →  Option (Int32 × (Nat → Nat → Int32) × (Nat → Nat → Int64))
  | 0, _, _, _, _, _, _, _ => none
  | n + 1, dp, e, lab, I, L, i1, i2 =>
    if lab = 0 then (if 1 ≤ dp then (g_14 n (dp - 1) e 0 I L i1 (0 : Int32) (999 : Int32)).bind (fun ⟨x0_5, I0_5, L0_5⟩ => (if x0_5 = 0 then (if 1 ≤ dp then (g_15 n (dp - 1) e 0 I0_5 L0_5 (-1 : Int32)).bind (fun ⟨x1_24, I1_24, L1_24⟩ => (some (x1_24, I1_24, L1_24))) else none) else (if 1 ≤ dp then (g_14 n (dp - 1) e 0 I0_5 L0_5 i2 (0 : Int32) (999 : Int32)).bind (fun ⟨x1_16, I1_16, L1_16⟩ => (if x1_16 = 0 then (if 1 ≤ dp then (g_15 n (dp - 1) e 0 I1_16 L1_16 (-1 : Int32)).bind (fun ⟨x2_24, I2_24, L2_24⟩ => (some (x2_24, I2_24, L2_24))) else none) else (if (I1_16 1 10) < (40 : Int32) then (if 0 ≤ (I1_16 1 10) ∧ (Int32.toNatClampNeg (I1_16 1 10)) < 40 then (stI (u2 I1_16 8 (Int32.toNatClampNeg (I1_16 1 10)) (i1 - i2)) (fun I_60 => (stI (u2 I_60 1 10 ((I1_16 1 10) + (1 : Int32))) (fun I_68 => (if 1 ≤ dp then (g_19 n (dp - 1) e 0 I_68 L1_16 ((I1_16 1 10) + (1 : Int32))).bind (fun ⟨x2_75, I2_75, L2_75⟩ => (some (x2_75, I2_75, L2_75))) else none))))) else none) else (if 1 ≤ dp then (g_15 n (dp - 1) e 0 I1_16 L1_16 (-5 : Int32)).bind (fun ⟨x2_45, I2_45, L2_45⟩ => (some (x2_45, I2_45, L2_45))) else none)))) else none))) else none)
    else none
set_option maxRecDepth 100000 in
theorem e_179_0 (n dp : Nat) (e : EN) (I : (Nat → Nat → Int32)) (L : (Nat → Nat → Int64)) (i1 : Int32) (i2 : Int32) : g_179 (n + 1) dp e 0 I L i1 i2 = (if 1 ≤ dp then (g_14 n (dp - 1) e 0 I L i1 (0 : Int32) (999 : Int32)).bind (fun ⟨x0_5, I0_5, L0_5⟩ => (if x0_5 = 0 then (if 1 ≤ dp then (g_15 n (dp - 1) e 0 I0_5 L0_5 (-1 : Int32)).bind (fun ⟨x1_24, I1_24, L1_24⟩ => (some (x1_24, I1_24, L1_24))) else none) else (if 1 ≤ dp then (g_14 n (dp - 1) e 0 I0_5 L0_5 i2 (0 : Int32) (999 : Int32)).bind (fun ⟨x1_16, I1_16, L1_16⟩ => (if x1_16 = 0 then (if 1 ≤ dp then (g_15 n (dp - 1) e 0 I1_16 L1_16 (-1 : Int32)).bind (fun ⟨x2_24, I2_24, L2_24⟩ => (some (x2_24, I2_24, L2_24))) else none) else (if (I1_16 1 10) < (40 : Int32) then (if 0 ≤ (I1_16 1 10) ∧ (Int32.toNatClampNeg (I1_16 1 10)) < 40 then (stI (u2 I1_16 8 (Int32.toNatClampNeg (I1_16 1 10)) (i1 - i2)) (fun I_60 => (stI (u2 I_60 1 10 ((I1_16 1 10) + (1 : Int32))) (fun I_68 => (if 1 ≤ dp then (g_19 n (dp - 1) e 0 I_68 L1_16 ((I1_16 1 10) + (1 : Int32))).bind (fun ⟨x2_75, I2_75, L2_75⟩ => (some (x2_75, I2_75, L2_75))) else none))))) else none) else (if 1 ≤ dp then (g_15 n (dp - 1) e 0 I1_16 L1_16 (-5 : Int32)).bind (fun ⟨x2_45, I2_45, L2_45⟩ => (some (x2_45, I2_45, L2_45))) else none)))) else none))) else none) := by rw [g_179.eq_2, if_pos (show (0 : Nat) = 0 from rfl)]
set_option maxHeartbeats 8000000 in
set_option maxRecDepth 100000 in
theorem w_179 (X : GX) {z : Nat} {kd : Nat → Nat × Nat} {Rf : Nat → Nat → Option Nat} (hS : Sh z kd Rf) : ∀ (n dp d : Nat), dp ≤ d → ∀ (I : (Nat → Nat → Int32)) (L : (Nat → Nat → Int64)) (i1 : Int32) (i2 : Int32) (r : Int32) (I1 : (Nat → Nat → Int32)) (L1 : (Nat → Nat → Int64)), (g_179 n dp (z, kd, Rf) 0 I L i1 i2 = some (r, I1, L1) → K X d 179 0 0 (AI (fun x τ => x = r ∧ τ = (z, kd, I1, L1, Rf))) 0 [some (.ref 0), some (.int i1), some (.int i2), none] [] (z, kd, I, L, Rf) 0 0) := by
  intro n
  induction n with
  | zero => intro dp d hdp I L i1 i2 r I1 L1; exact fun h => by cases h
  | succ n ih =>
    intro dp d hdp I L i1 i2 r I1 L1
    · intro h
      rw [e_179_0] at h
      refine K_of b_179_0 h_179_0 ?_
      refine q_iload rfl ?_
      refine q_iconst (0) (by decide) ?_
      refine q_iconst (999) (by decide) ?_
      obtain ⟨d_5, h⟩ := ite_some h
      obtain ⟨⟨x0_5, I0_5, L0_5⟩, e_5, h⟩ := Option.bind_eq_some_iff.mp h
      dsimp only at h
      refine q_fs3I (a_14 X hS (d := d - 1) (by omega) e_5) (by omega) (Nat.le_refl _) (Nat.le_refl _) rfl (Nat.le_of_ble_eq_true rfl) ?_
      refine q_if_eq (fun c_8 => ?_) (fun c_8 => ?_)
      · rw [if_pos c_8] at h
        refine K_of b_179_22 h_179_22 ?_
        refine q_aload rfl ?_
        refine q_iconst (-1) (by decide) ?_
        obtain ⟨d_24, h⟩ := ite_some h
        obtain ⟨⟨x1_24, I1_24, L1_24⟩, e_24, h⟩ := Option.bind_eq_some_iff.mp h
        dsimp only at h
        refine q_fv2I (a_15 X hS (d := d - 1) (by omega) e_24) (by omega) (Nat.le_refl _) (Nat.le_refl _) rfl (Nat.le_of_ble_eq_true rfl) ⟨(zl hS 0 (by decide)), congrArg Prod.fst (sk hS 0 (by decide) rfl), by decide⟩ ?_
        cases h
        exact q_iret rfl (Nat.le_refl _) (Nat.le_refl _) ⟨rfl, rfl⟩
      · rw [if_neg c_8] at h
        refine q_iload rfl ?_
        refine q_iconst (0) (by decide) ?_
        refine q_iconst (999) (by decide) ?_
        obtain ⟨d_16, h⟩ := ite_some h
        obtain ⟨⟨x1_16, I1_16, L1_16⟩, e_16, h⟩ := Option.bind_eq_some_iff.mp h
        dsimp only at h
        refine q_fs3I (a_14 X hS (d := d - 1) (by omega) e_16) (by omega) (Nat.le_refl _) (Nat.le_refl _) rfl (Nat.le_of_ble_eq_true rfl) ?_
        refine q_if_ne (fun c_19 => ?_) (fun c_19 => ?_)
        · rw [if_neg c_19] at h
          refine K_of b_179_28 h_179_28 ?_
          refine q_aload rfl ?_
          refine q_getRs (c0 := 11) (j := 0) rfl rfl (zl hS 0 (by decide)) (sk hS 0 (by decide) rfl) rfl (by decide) (r_0_0 hS) ?_
          refine q_getI (c0 := 3) (j := 10) rfl rfl (zl hS 1 (by decide)) (sk hS 1 (by decide) rfl) (Or.inl rfl) (by decide) ?_
          refine q_istore (ls1 := [some (.ref 0), some (.int i1), some (.int i2), some (.int (I1_16 1 10))]) (Nat.le_of_ble_eq_true rfl) rfl ?_
          refine q_iload rfl ?_
          refine q_iconst (40) (by decide) ?_
          refine q_icmp_lt (fun c_39 => ?_) (fun c_39 => ?_)
          · rw [if_pos c_39] at h
            refine K_of b_179_49 h_179_49 ?_
            refine q_aload rfl ?_
            refine q_getRs (c0 := 11) (j := 0) rfl rfl (zl hS 0 (by decide)) (sk hS 0 (by decide) rfl) rfl (by decide) (r_0_0 hS) ?_
            refine q_getRs (c0 := 3) (j := 6) rfl rfl (zl hS 1 (by decide)) (sk hS 1 (by decide) rfl) rfl (by decide) (r_1_6 hS) ?_
            refine q_iload rfl ?_
            refine q_iload rfl ?_
            refine q_iload rfl ?_
            refine q_isub ?_
            obtain ⟨⟨u_60, v_60⟩, h⟩ := ite_some h
            refine q_iasN (Int32.toNatClampNeg (I1_16 1 10)) (nx u_60) (zl hS 8 (by decide)) (sk hS 8 (by decide) rfl) v_60 (by decide) ?_
            obtain ⟨I_60, nI_60, h⟩ := stI_some h
            refine q_nI nI_60 ?_
            refine q_aload rfl ?_
            refine q_getRs (c0 := 11) (j := 0) rfl rfl (zl hS 0 (by decide)) (sk hS 0 (by decide) rfl) rfl (by decide) (r_0_0 hS) ?_
            refine q_iload rfl ?_
            refine q_iconst (1) (by decide) ?_
            refine q_iadd ?_
            refine q_putI (c0 := 3) (j := 10) rfl rfl (zl hS 1 (by decide)) (sk hS 1 (by decide) rfl) rfl ?_
            obtain ⟨I_68, nI_68, h⟩ := stI_some h
            refine q_nI nI_68 ?_
            refine q_aload rfl ?_
            refine q_iload rfl ?_
            refine q_iconst (1) (by decide) ?_
            refine q_iadd ?_
            obtain ⟨d_75, h⟩ := ite_some h
            obtain ⟨⟨x2_75, I2_75, L2_75⟩, e_75, h⟩ := Option.bind_eq_some_iff.mp h
            dsimp only at h
            refine q_fv2I (a_19 X hS (d := d - 1) (by omega) e_75) (by omega) (Nat.le_refl _) (Nat.le_refl _) rfl (Nat.le_of_ble_eq_true rfl) ⟨(zl hS 0 (by decide)), congrArg Prod.fst (sk hS 0 (by decide) rfl), by decide⟩ ?_
            cases h
            exact q_iret rfl (Nat.le_refl _) (Nat.le_refl _) ⟨rfl, rfl⟩
          · rw [if_neg c_39] at h
            refine q_aload rfl ?_
            refine q_iconst (-5) (by decide) ?_
            obtain ⟨d_45, h⟩ := ite_some h
            obtain ⟨⟨x2_45, I2_45, L2_45⟩, e_45, h⟩ := Option.bind_eq_some_iff.mp h
            dsimp only at h
            refine q_fv2I (a_15 X hS (d := d - 1) (by omega) e_45) (by omega) (Nat.le_refl _) (Nat.le_refl _) rfl (Nat.le_of_ble_eq_true rfl) ⟨(zl hS 0 (by decide)), congrArg Prod.fst (sk hS 0 (by decide) rfl), by decide⟩ ?_
            cases h
            exact q_iret rfl (Nat.le_refl _) (Nat.le_refl _) ⟨rfl, rfl⟩
        · rw [if_pos c_19] at h
          refine q_end ?_
          refine K_of b_179_22 h_179_22 ?_
          refine q_aload rfl ?_
          refine q_iconst (-1) (by decide) ?_
          obtain ⟨d_24, h⟩ := ite_some h
          obtain ⟨⟨x2_24, I2_24, L2_24⟩, e_24, h⟩ := Option.bind_eq_some_iff.mp h
          dsimp only at h
          refine q_fv2I (a_15 X hS (d := d - 1) (by omega) e_24) (by omega) (Nat.le_refl _) (Nat.le_refl _) rfl (Nat.le_of_ble_eq_true rfl) ⟨(zl hS 0 (by decide)), congrArg Prod.fst (sk hS 0 (by decide) rfl), by decide⟩ ?_
          cases h
          exact q_iret rfl (Nat.le_refl _) (Nat.le_refl _) ⟨rfl, rfl⟩
theorem a_179 (X : GX) {z : Nat} {kd : Nat → Nat × Nat} {Rf : Nat → Nat → Option Nat} (hS : Sh z kd Rf) {n dp d : Nat} (hd : dp ≤ d) {I : (Nat → Nat → Int32)} {L : (Nat → Nat → Int64)} {i1 : Int32} {i2 : Int32} {I1 : (Nat → Nat → Int32)} {L1 : (Nat → Nat → Int64)} {r : Int32} (h : g_179 n dp (z, kd, Rf) 0 I L i1 i2 = some (r, I1, L1)) : Ct X d 179 0 0 [.ref 0, .int i1, .int i2] (z, kd, I, L, Rf) (AI (fun x τ => x = r ∧ τ = (z, kd, I1, L1, Rf))) :=
  Ct_of mu_179 (Nat.le_of_ble_eq_true rfl) ((w_179 X hS n dp d hd I L i1 i2 _ _ _) h)

/-! 180 CutFloor.drift(III)I -/
set_option maxHeartbeats 4000000 in
set_option maxRecDepth 100000 in
def g_180 : Nat → Nat → EN → Nat → (Nat → Nat → Int32) → (Nat → Nat → Int64) → Int32 → Int32 → Int32 → Int32 → Int32 → Int32 → Int32 →  Option (Int32 × (Nat → Nat → Int32) × (Nat → Nat → Int64))
  | 0, _, _, _, _, _, _, _, _, _, _, _, _ => none
  | n + 1, dp, e, lab, I, L, i1, i2, i3, i4, i5, i6, i7 =>
    if lab = 0 then (if 1 ≤ dp then (g_14 n (dp - 1) e 0 I L i1 (0 : Int32) (99 : Int32)).bind (fun ⟨x0_4, I0_4, L0_4⟩ => (if x0_4 = 0 then (some ((-1 : Int32), I0_4, L0_4)) else (if 1 ≤ dp then (g_14 n (dp - 1) e 0 I0_4 L0_4 i2 (0 : Int32) (9999 : Int32)).bind (fun ⟨x1_15, I1_15, L1_15⟩ => (if x1_15 = 0 then (some ((-1 : Int32), I1_15, L1_15)) else (if 1 ≤ dp then (g_14 n (dp - 1) e 0 I1_15 L1_15 i3 (0 : Int32) (1 : Int32)).bind (fun ⟨x2_24, I2_24, L2_24⟩ => (if x2_24 = 0 then (some ((-1 : Int32), I2_24, L2_24)) else (g_180 n dp e 1 I2_24 L2_24 i1 i2 i3 (0 : Int32) (0 : Int32) (-1 : Int32) (0 : Int32)))) else none))) else none))) else none)
    else if lab = 1 then (if (I 1 10) ≤ i7 then (if i3 = 0 then (some (i6, I, L)) else (some (i5, I, L))) else (if 0 ≤ i7 ∧ (Int32.toNatClampNeg i7) < 40 then (if 1 ≤ dp then (stI (if (0 : Int32) < ((i4 + (I 8 (Int32.toNatClampNeg i7))) - i1) then ((i4 + (I 8 (Int32.toNatClampNeg i7))) - i1) else (0 : Int32)) (fun v_75 => (if 1 ≤ dp then (stI (if i5 < v_75 then v_75 else i5) (fun v_84 => (if i6 = (-1 : Int32) then (if v_75 ≤ i2 then (g_180 n dp e 2 I L i1 i2 i3 v_75 v_84 i6 i7) else (g_180 n dp e 2 I L i1 i2 i3 v_75 v_84 i7 i7)) else (g_180 n dp e 2 I L i1 i2 i3 v_75 v_84 i6 i7)))) else none))) else none) else none))
    else if lab = 2 then (g_180 n dp e 1 I L i1 i2 i3 i4 i5 i6 (i7 + Int32.ofInt (1)))
    else none
set_option maxRecDepth 100000 in
theorem e_180_0 (n dp : Nat) (e : EN) (I : (Nat → Nat → Int32)) (L : (Nat → Nat → Int64)) (i1 : Int32) (i2 : Int32) (i3 : Int32) (i4 : Int32) (i5 : Int32) (i6 : Int32) (i7 : Int32) : g_180 (n + 1) dp e 0 I L i1 i2 i3 i4 i5 i6 i7 = (if 1 ≤ dp then (g_14 n (dp - 1) e 0 I L i1 (0 : Int32) (99 : Int32)).bind (fun ⟨x0_4, I0_4, L0_4⟩ => (if x0_4 = 0 then (some ((-1 : Int32), I0_4, L0_4)) else (if 1 ≤ dp then (g_14 n (dp - 1) e 0 I0_4 L0_4 i2 (0 : Int32) (9999 : Int32)).bind (fun ⟨x1_15, I1_15, L1_15⟩ => (if x1_15 = 0 then (some ((-1 : Int32), I1_15, L1_15)) else (if 1 ≤ dp then (g_14 n (dp - 1) e 0 I1_15 L1_15 i3 (0 : Int32) (1 : Int32)).bind (fun ⟨x2_24, I2_24, L2_24⟩ => (if x2_24 = 0 then (some ((-1 : Int32), I2_24, L2_24)) else (g_180 n dp e 1 I2_24 L2_24 i1 i2 i3 (0 : Int32) (0 : Int32) (-1 : Int32) (0 : Int32)))) else none))) else none))) else none) := by rw [g_180.eq_2, if_pos (show (0 : Nat) = 0 from rfl)]
set_option maxRecDepth 100000 in
theorem e_180_1 (n dp : Nat) (e : EN) (I : (Nat → Nat → Int32)) (L : (Nat → Nat → Int64)) (i1 : Int32) (i2 : Int32) (i3 : Int32) (i4 : Int32) (i5 : Int32) (i6 : Int32) (i7 : Int32) : g_180 (n + 1) dp e 1 I L i1 i2 i3 i4 i5 i6 i7 = (if (I 1 10) ≤ i7 then (if i3 = 0 then (some (i6, I, L)) else (some (i5, I, L))) else (if 0 ≤ i7 ∧ (Int32.toNatClampNeg i7) < 40 then (if 1 ≤ dp then (stI (if (0 : Int32) < ((i4 + (I 8 (Int32.toNatClampNeg i7))) - i1) then ((i4 + (I 8 (Int32.toNatClampNeg i7))) - i1) else (0 : Int32)) (fun v_75 => (if 1 ≤ dp then (stI (if i5 < v_75 then v_75 else i5) (fun v_84 => (if i6 = (-1 : Int32) then (if v_75 ≤ i2 then (g_180 n dp e 2 I L i1 i2 i3 v_75 v_84 i6 i7) else (g_180 n dp e 2 I L i1 i2 i3 v_75 v_84 i7 i7)) else (g_180 n dp e 2 I L i1 i2 i3 v_75 v_84 i6 i7)))) else none))) else none) else none)) := by rw [g_180.eq_2, if_neg (show ¬ ((1 : Nat) = 0) by decide), if_pos (show (1 : Nat) = 1 from rfl)]
set_option maxRecDepth 100000 in
theorem e_180_2 (n dp : Nat) (e : EN) (I : (Nat → Nat → Int32)) (L : (Nat → Nat → Int64)) (i1 : Int32) (i2 : Int32) (i3 : Int32) (i4 : Int32) (i5 : Int32) (i6 : Int32) (i7 : Int32) : g_180 (n + 1) dp e 2 I L i1 i2 i3 i4 i5 i6 i7 = (g_180 n dp e 1 I L i1 i2 i3 i4 i5 i6 (i7 + Int32.ofInt (1))) := by rw [g_180.eq_2, if_neg (show ¬ ((2 : Nat) = 0) by decide), if_neg (show ¬ ((2 : Nat) = 1) by decide), if_pos (show (2 : Nat) = 2 from rfl)]
set_option maxHeartbeats 8000000 in
set_option maxRecDepth 100000 in
theorem w_180 (X : GX) {z : Nat} {kd : Nat → Nat × Nat} {Rf : Nat → Nat → Option Nat} (hS : Sh z kd Rf) : ∀ (n dp d : Nat), dp ≤ d → ∀ (I : (Nat → Nat → Int32)) (L : (Nat → Nat → Int64)) (i1 : Int32) (i2 : Int32) (i3 : Int32) (i4 : Int32) (i5 : Int32) (i6 : Int32) (i7 : Int32) (r : Int32) (I1 : (Nat → Nat → Int32)) (L1 : (Nat → Nat → Int64)), (g_180 n dp (z, kd, Rf) 0 I L i1 i2 i3 i4 i5 i6 i7 = some (r, I1, L1) → K X d 180 0 0 (AI (fun x τ => x = r ∧ τ = (z, kd, I1, L1, Rf))) 0 [some (.ref 0), some (.int i1), some (.int i2), some (.int i3), none, none, none, none] [] (z, kd, I, L, Rf) 0 0) ∧
    (g_180 n dp (z, kd, Rf) 1 I L i1 i2 i3 i4 i5 i6 i7 = some (r, I1, L1) → K X d 180 0 0 (AI (fun x τ => x = r ∧ τ = (z, kd, I1, L1, Rf))) 44 [some (.ref 0), some (.int i1), some (.int i2), some (.int i3), some (.int i4), some (.int i5), some (.int i6), some (.int i7)] [] (z, kd, I, L, Rf) 0 0) ∧
    (g_180 n dp (z, kd, Rf) 2 I L i1 i2 i3 i4 i5 i6 i7 = some (r, I1, L1) → K X d 180 0 0 (AI (fun x τ => x = r ∧ τ = (z, kd, I1, L1, Rf))) 102 [some (.ref 0), some (.int i1), some (.int i2), some (.int i3), some (.int i4), some (.int i5), some (.int i6), some (.int i7)] [] (z, kd, I, L, Rf) 0 0) := by
  intro n
  induction n with
  | zero => intro dp d hdp I L i1 i2 i3 i4 i5 i6 i7 r I1 L1; exact ⟨(fun h => by cases h), (fun h => by cases h), (fun h => by cases h)⟩
  | succ n ih =>
    intro dp d hdp I L i1 i2 i3 i4 i5 i6 i7 r I1 L1
    refine ⟨?_, ?_, ?_⟩
    · intro h
      rw [e_180_0] at h
      refine K_of b_180_0 h_180_0 ?_
      refine q_iload rfl ?_
      refine q_iconst (0) (by decide) ?_
      refine q_iconst (99) (by decide) ?_
      obtain ⟨d_4, h⟩ := ite_some h
      obtain ⟨⟨x0_4, I0_4, L0_4⟩, e_4, h⟩ := Option.bind_eq_some_iff.mp h
      dsimp only at h
      refine q_fs3I (a_14 X hS (d := d - 1) (by omega) e_4) (by omega) (Nat.le_refl _) (Nat.le_refl _) rfl (Nat.le_of_ble_eq_true rfl) ?_
      refine q_if_eq (fun c_7 => ?_) (fun c_7 => ?_)
      · rw [if_pos c_7] at h
        refine K_of b_180_30 h_180_30 ?_
        refine q_iconst (-1) (by decide) ?_
        cases h
        exact q_iret rfl (Nat.le_refl _) (Nat.le_refl _) ⟨rfl, rfl⟩
      · rw [if_neg c_7] at h
        refine q_iload rfl ?_
        refine q_iconst (0) (by decide) ?_
        refine q_iconst (9999) (by decide) ?_
        obtain ⟨d_15, h⟩ := ite_some h
        obtain ⟨⟨x1_15, I1_15, L1_15⟩, e_15, h⟩ := Option.bind_eq_some_iff.mp h
        dsimp only at h
        refine q_fs3I (a_14 X hS (d := d - 1) (by omega) e_15) (by omega) (Nat.le_refl _) (Nat.le_refl _) rfl (Nat.le_of_ble_eq_true rfl) ?_
        refine q_if_eq (fun c_18 => ?_) (fun c_18 => ?_)
        · rw [if_pos c_18] at h
          refine K_of b_180_30 h_180_30 ?_
          refine q_iconst (-1) (by decide) ?_
          cases h
          exact q_iret rfl (Nat.le_refl _) (Nat.le_refl _) ⟨rfl, rfl⟩
        · rw [if_neg c_18] at h
          refine q_iload rfl ?_
          refine q_iconst (0) (by decide) ?_
          refine q_iconst (1) (by decide) ?_
          obtain ⟨d_24, h⟩ := ite_some h
          obtain ⟨⟨x2_24, I2_24, L2_24⟩, e_24, h⟩ := Option.bind_eq_some_iff.mp h
          dsimp only at h
          refine q_fs3I (a_14 X hS (d := d - 1) (by omega) e_24) (by omega) (Nat.le_refl _) (Nat.le_refl _) rfl (Nat.le_of_ble_eq_true rfl) ?_
          refine q_if_ne (fun c_27 => ?_) (fun c_27 => ?_)
          · rw [if_neg c_27] at h
            refine K_of b_180_32 h_180_32 ?_
            refine q_iconst (0) (by decide) ?_
            refine q_istore (ls1 := [some (.ref 0), some (.int i1), some (.int i2), some (.int i3), some (.int (0 : Int32)), none, none, none]) (Nat.le_of_ble_eq_true rfl) rfl ?_
            refine q_iconst (0) (by decide) ?_
            refine q_istore (ls1 := [some (.ref 0), some (.int i1), some (.int i2), some (.int i3), some (.int (0 : Int32)), some (.int (0 : Int32)), none, none]) (Nat.le_of_ble_eq_true rfl) rfl ?_
            refine q_iconst (-1) (by decide) ?_
            refine q_istore (ls1 := [some (.ref 0), some (.int i1), some (.int i2), some (.int i3), some (.int (0 : Int32)), some (.int (0 : Int32)), some (.int (-1 : Int32)), none]) (Nat.le_of_ble_eq_true rfl) rfl ?_
            refine q_iconst (0) (by decide) ?_
            refine q_istore (ls1 := [some (.ref 0), some (.int i1), some (.int i2), some (.int i3), some (.int (0 : Int32)), some (.int (0 : Int32)), some (.int (-1 : Int32)), some (.int (0 : Int32))]) (Nat.le_of_ble_eq_true rfl) rfl ?_
            refine q_end ?_
            exact (ih dp d hdp _ _ i1 i2 i3 (0 : Int32) (0 : Int32) (-1 : Int32) (0 : Int32) _ _ _).2.1 h
          · rw [if_pos c_27] at h
            refine q_end ?_
            refine K_of b_180_30 h_180_30 ?_
            refine q_iconst (-1) (by decide) ?_
            cases h
            exact q_iret rfl (Nat.le_refl _) (Nat.le_refl _) ⟨rfl, rfl⟩
    · intro h
      rw [e_180_1] at h
      refine K_of b_180_44 h_180_44 ?_
      refine q_iload rfl ?_
      refine q_aload rfl ?_
      refine q_getRs (c0 := 11) (j := 0) rfl rfl (zl hS 0 (by decide)) (sk hS 0 (by decide) rfl) rfl (by decide) (r_0_0 hS) ?_
      refine q_getI (c0 := 3) (j := 10) rfl rfl (zl hS 1 (by decide)) (sk hS 1 (by decide) rfl) (Or.inl rfl) (by decide) ?_
      refine q_icmp_ge (fun c_53 => ?_) (fun c_53 => ?_)
      · rw [if_pos c_53] at h
        refine K_of b_180_108 h_180_108 ?_
        refine q_iload rfl ?_
        refine q_if_ne (fun c_109 => ?_) (fun c_109 => ?_)
        · rw [if_neg c_109] at h
          refine K_of b_180_117 h_180_117 ?_
          refine q_iload rfl ?_
          refine q_end ?_
          refine K_of b_180_119 h_180_119 ?_
          cases h
          exact q_iret rfl (Nat.le_refl _) (Nat.le_refl _) ⟨rfl, rfl⟩
        · rw [if_pos c_109] at h
          refine q_iload rfl ?_
          refine q_goto ?_
          refine K_of b_180_119 h_180_119 ?_
          cases h
          exact q_iret rfl (Nat.le_refl _) (Nat.le_refl _) ⟨rfl, rfl⟩
      · rw [if_neg c_53] at h
        refine q_iconst (0) (by decide) ?_
        refine q_iload rfl ?_
        refine q_aload rfl ?_
        refine q_getRs (c0 := 11) (j := 0) rfl rfl (zl hS 0 (by decide)) (sk hS 0 (by decide) rfl) rfl (by decide) (r_0_0 hS) ?_
        refine q_getRs (c0 := 3) (j := 6) rfl rfl (zl hS 1 (by decide)) (sk hS 1 (by decide) rfl) rfl (by decide) (r_1_6 hS) ?_
        refine q_iload rfl ?_
        obtain ⟨⟨u_68, v_68⟩, h⟩ := ite_some h
        refine q_ialN (Int32.toNatClampNeg i7) (nx u_68) (zl hS 8 (by decide)) (sk hS 8 (by decide) rfl) v_68 (by decide) ?_
        refine q_iadd ?_
        refine q_iload rfl ?_
        refine q_isub ?_
        obtain ⟨d_72, h⟩ := ite_some h
        refine q_max (Nat.le_of_ble_eq_true rfl) (Nat.le_trans d_72 hdp) (Nat.le_refl _) (Nat.le_refl _) ?_
        obtain ⟨v_75, nv_75, h⟩ := stI_some h
        refine q_eqi nv_75.symm ?_
        refine q_istore (ls1 := [some (.ref 0), some (.int i1), some (.int i2), some (.int i3), some (.int v_75), some (.int i5), some (.int i6), some (.int i7)]) (Nat.le_of_ble_eq_true rfl) rfl ?_
        refine q_iload rfl ?_
        refine q_iload rfl ?_
        obtain ⟨d_81, h⟩ := ite_some h
        refine q_max (Nat.le_of_ble_eq_true rfl) (Nat.le_trans d_81 hdp) (Nat.le_refl _) (Nat.le_refl _) ?_
        obtain ⟨v_84, nv_84, h⟩ := stI_some h
        refine q_eqi nv_84.symm ?_
        refine q_istore (ls1 := [some (.ref 0), some (.int i1), some (.int i2), some (.int i3), some (.int v_75), some (.int v_84), some (.int i6), some (.int i7)]) (Nat.le_of_ble_eq_true rfl) rfl ?_
        refine q_iload rfl ?_
        refine q_iconst (-1) (by decide) ?_
        refine q_icmp_ne (fun c_89 => ?_) (fun c_89 => ?_)
        · rw [if_neg c_89] at h
          exact (ih dp d hdp _ _ i1 i2 i3 v_75 v_84 i6 i7 _ _ _).2.2 h
        · rw [if_pos c_89] at h
          refine q_iload rfl ?_
          refine q_iload rfl ?_
          refine q_icmp_le (fun c_95 => ?_) (fun c_95 => ?_)
          · rw [if_pos c_95] at h
            exact (ih dp d hdp _ _ i1 i2 i3 v_75 v_84 i6 i7 _ _ _).2.2 h
          · rw [if_neg c_95] at h
            refine q_iload rfl ?_
            refine q_istore (ls1 := [some (.ref 0), some (.int i1), some (.int i2), some (.int i3), some (.int v_75), some (.int v_84), some (.int i7), some (.int i7)]) (Nat.le_of_ble_eq_true rfl) rfl ?_
            refine q_end ?_
            exact (ih dp d hdp _ _ i1 i2 i3 v_75 v_84 i7 i7 _ _ _).2.2 h
    · intro h
      rw [e_180_2] at h
      refine K_of b_180_102 h_180_102 ?_
      refine q_iinc (ls1 := [some (.ref 0), some (.int i1), some (.int i2), some (.int i3), some (.int i4), some (.int i5), some (.int i6), some (.int (i7 + Int32.ofInt (1)))]) rfl rfl ?_
      refine q_goto ?_
      exact (ih dp d hdp _ _ i1 i2 i3 i4 i5 i6 (i7 + Int32.ofInt (1)) _ _ _).2.1 h
theorem a_180 (X : GX) {z : Nat} {kd : Nat → Nat × Nat} {Rf : Nat → Nat → Option Nat} (hS : Sh z kd Rf) {n dp d : Nat} (hd : dp ≤ d) {I : (Nat → Nat → Int32)} {L : (Nat → Nat → Int64)} {i1 : Int32} {i2 : Int32} {i3 : Int32} {I1 : (Nat → Nat → Int32)} {L1 : (Nat → Nat → Int64)} {r : Int32} (h : g_180 n dp (z, kd, Rf) 0 I L i1 i2 i3 0 0 0 0 = some (r, I1, L1)) : Ct X d 180 0 0 [.ref 0, .int i1, .int i2, .int i3] (z, kd, I, L, Rf) (AI (fun x τ => x = r ∧ τ = (z, kd, I1, L1, Rf))) :=
  Ct_of mu_180 (Nat.le_of_ble_eq_true rfl) ((w_180 X hS n dp d hd I L i1 i2 i3 0 0 0 0 _ _ _).1 h)

/-! 182 CutFloor.drawWeek(I)V -/
set_option maxHeartbeats 4000000 in
set_option maxRecDepth 100000 in
def g_182 : Nat → Nat → EN → Nat → (Nat → Nat → Int32) → (Nat → Nat → Int64) → Int32 → Int32 → Int32 →  Option ((Nat → Nat → Int32) × (Nat → Nat → Int64))
  | 0, _, _, _, _, _, _, _, _ => none
  | n + 1, dp, e, lab, I, L, i1, i2, i3 =>
    if lab = 0 then (g_182 n dp e 1 I L i1 i1 (0 : Int32))
    else if lab = 1 then (if (15 : Int32) ≤ i3 then (some (I, L)) else (stI (((i2 * (1103 : Int32)) + (12345 : Int32)) - ((i2 * (1103 : Int32)) + (12345 : Int32)) / (1000003 : Int32) * (1000003 : Int32)) (fun v_23 => (if 0 ≤ (i3 - i3 / (3 : Int32) * (3 : Int32)) ∧ (Int32.toNatClampNeg (i3 - i3 / (3 : Int32) * (3 : Int32))) < 3 then (if ¬ ((I 2 (Int32.toNatClampNeg (i3 - i3 / (3 : Int32) * (3 : Int32)))) + (1 : Int32)) = 0 then (if 0 ≤ i3 ∧ (Int32.toNatClampNeg i3) < 15 then (stI (u2 I 90 (Int32.toNatClampNeg i3) (v_23 - v_23 / ((I 2 (Int32.toNatClampNeg (i3 - i3 / (3 : Int32) * (3 : Int32)))) + (1 : Int32)) * ((I 2 (Int32.toNatClampNeg (i3 - i3 / (3 : Int32) * (3 : Int32)))) + (1 : Int32)))) (fun I_44 => (g_182 n dp e 1 I_44 L i1 v_23 (i3 + Int32.ofInt (1))))) else none) else none) else none))))
    else none
set_option maxRecDepth 100000 in
theorem e_182_0 (n dp : Nat) (e : EN) (I : (Nat → Nat → Int32)) (L : (Nat → Nat → Int64)) (i1 : Int32) (i2 : Int32) (i3 : Int32) : g_182 (n + 1) dp e 0 I L i1 i2 i3 = (g_182 n dp e 1 I L i1 i1 (0 : Int32)) := by rw [g_182.eq_2, if_pos (show (0 : Nat) = 0 from rfl)]
set_option maxRecDepth 100000 in
theorem e_182_1 (n dp : Nat) (e : EN) (I : (Nat → Nat → Int32)) (L : (Nat → Nat → Int64)) (i1 : Int32) (i2 : Int32) (i3 : Int32) : g_182 (n + 1) dp e 1 I L i1 i2 i3 = (if (15 : Int32) ≤ i3 then (some (I, L)) else (stI (((i2 * (1103 : Int32)) + (12345 : Int32)) - ((i2 * (1103 : Int32)) + (12345 : Int32)) / (1000003 : Int32) * (1000003 : Int32)) (fun v_23 => (if 0 ≤ (i3 - i3 / (3 : Int32) * (3 : Int32)) ∧ (Int32.toNatClampNeg (i3 - i3 / (3 : Int32) * (3 : Int32))) < 3 then (if ¬ ((I 2 (Int32.toNatClampNeg (i3 - i3 / (3 : Int32) * (3 : Int32)))) + (1 : Int32)) = 0 then (if 0 ≤ i3 ∧ (Int32.toNatClampNeg i3) < 15 then (stI (u2 I 90 (Int32.toNatClampNeg i3) (v_23 - v_23 / ((I 2 (Int32.toNatClampNeg (i3 - i3 / (3 : Int32) * (3 : Int32)))) + (1 : Int32)) * ((I 2 (Int32.toNatClampNeg (i3 - i3 / (3 : Int32) * (3 : Int32)))) + (1 : Int32)))) (fun I_44 => (g_182 n dp e 1 I_44 L i1 v_23 (i3 + Int32.ofInt (1))))) else none) else none) else none)))) := by rw [g_182.eq_2, if_neg (show ¬ ((1 : Nat) = 0) by decide), if_pos (show (1 : Nat) = 1 from rfl)]
set_option maxHeartbeats 8000000 in
set_option maxRecDepth 100000 in
theorem w_182 (X : GX) {z : Nat} {kd : Nat → Nat × Nat} {Rf : Nat → Nat → Option Nat} (hS : Sh z kd Rf) : ∀ (n dp d : Nat), dp ≤ d → ∀ (I : (Nat → Nat → Int32)) (L : (Nat → Nat → Int64)) (i1 : Int32) (i2 : Int32) (i3 : Int32) (I1 : (Nat → Nat → Int32)) (L1 : (Nat → Nat → Int64)), (g_182 n dp (z, kd, Rf) 0 I L i1 i2 i3 = some (I1, L1) → K X d 182 0 0 (AV (fun τ => τ = (z, kd, I1, L1, Rf))) 0 [some (.ref 0), some (.int i1), none, none] [] (z, kd, I, L, Rf) 0 0) ∧
    (g_182 n dp (z, kd, Rf) 1 I L i1 i2 i3 = some (I1, L1) → K X d 182 0 0 (AV (fun τ => τ = (z, kd, I1, L1, Rf))) 4 [some (.ref 0), some (.int i1), some (.int i2), some (.int i3)] [] (z, kd, I, L, Rf) 0 0) := by
  intro n
  induction n with
  | zero => intro dp d hdp I L i1 i2 i3 I1 L1; exact ⟨(fun h => by cases h), (fun h => by cases h)⟩
  | succ n ih =>
    intro dp d hdp I L i1 i2 i3 I1 L1
    refine ⟨?_, ?_⟩
    · intro h
      rw [e_182_0] at h
      refine K_of b_182_0 h_182_0 ?_
      refine q_iload rfl ?_
      refine q_istore (ls1 := [some (.ref 0), some (.int i1), some (.int i1), none]) (Nat.le_of_ble_eq_true rfl) rfl ?_
      refine q_iconst (0) (by decide) ?_
      refine q_istore (ls1 := [some (.ref 0), some (.int i1), some (.int i1), some (.int (0 : Int32))]) (Nat.le_of_ble_eq_true rfl) rfl ?_
      refine q_end ?_
      exact (ih dp d hdp _ _ i1 i1 (0 : Int32) _ _).2 h
    · intro h
      rw [e_182_1] at h
      refine K_of b_182_4 h_182_4 ?_
      refine q_iload rfl ?_
      refine q_iconst (15) (by decide) ?_
      refine q_icmp_ge (fun c_7 => ?_) (fun c_7 => ?_)
      · rw [if_pos c_7] at h
        refine K_of b_182_51 h_182_51 ?_
        cases h
        exact q_vret rfl (Nat.le_refl _) (Nat.le_refl _) rfl
      · rw [if_neg c_7] at h
        refine q_iload rfl ?_
        refine q_iconst (1103) (by decide) ?_
        refine q_imul ?_
        refine q_iconst (12345) (by decide) ?_
        refine q_iadd ?_
        refine q_iconst (1000003) (by decide) ?_
        refine q_irem (by decide) ?_
        obtain ⟨v_23, nv_23, h⟩ := stI_some h
        refine q_eqi nv_23.symm ?_
        refine q_istore (ls1 := [some (.ref 0), some (.int i1), some (.int v_23), some (.int i3)]) (Nat.le_of_ble_eq_true rfl) rfl ?_
        refine q_aload rfl ?_
        refine q_getRs (c0 := 11) (j := 8) rfl rfl (zl hS 0 (by decide)) (sk hS 0 (by decide) rfl) rfl (by decide) (r_0_8 hS) ?_
        refine q_iload rfl ?_
        refine q_iload rfl ?_
        refine q_aload rfl ?_
        refine q_getRs (c0 := 11) (j := 0) rfl rfl (zl hS 0 (by decide)) (sk hS 0 (by decide) rfl) rfl (by decide) (r_0_0 hS) ?_
        refine q_getRs (c0 := 3) (j := 0) rfl rfl (zl hS 1 (by decide)) (sk hS 1 (by decide) rfl) rfl (by decide) (r_1_0 hS) ?_
        refine q_iload rfl ?_
        refine q_iconst (3) (by decide) ?_
        refine q_irem (by decide) ?_
        obtain ⟨⟨u_40, v_40⟩, h⟩ := ite_some h
        refine q_ialN (Int32.toNatClampNeg (i3 - i3 / (3 : Int32) * (3 : Int32))) (nx u_40) (zl hS 2 (by decide)) (sk hS 2 (by decide) rfl) v_40 (by decide) ?_
        refine q_iconst (1) (by decide) ?_
        refine q_iadd ?_
        obtain ⟨d_43, h⟩ := ite_some h
        refine q_irem d_43 ?_
        obtain ⟨⟨u_44, v_44⟩, h⟩ := ite_some h
        refine q_iasN (Int32.toNatClampNeg i3) (nx u_44) (zl hS 90 (by decide)) (sk hS 90 (by decide) rfl) v_44 (by decide) ?_
        obtain ⟨I_44, nI_44, h⟩ := stI_some h
        refine q_nI nI_44 ?_
        refine q_iinc (ls1 := [some (.ref 0), some (.int i1), some (.int v_23), some (.int (i3 + Int32.ofInt (1)))]) rfl rfl ?_
        refine q_goto ?_
        exact (ih dp d hdp _ _ i1 v_23 (i3 + Int32.ofInt (1)) _ _).2 h
theorem a_182 (X : GX) {z : Nat} {kd : Nat → Nat × Nat} {Rf : Nat → Nat → Option Nat} (hS : Sh z kd Rf) {n dp d : Nat} (hd : dp ≤ d) {I : (Nat → Nat → Int32)} {L : (Nat → Nat → Int64)} {i1 : Int32} {I1 : (Nat → Nat → Int32)} {L1 : (Nat → Nat → Int64)} (h : g_182 n dp (z, kd, Rf) 0 I L i1 0 0 = some (I1, L1)) : Ct X d 182 0 0 [.ref 0, .int i1] (z, kd, I, L, Rf) (AV (fun τ => τ = (z, kd, I1, L1, Rf))) :=
  Ct_of mu_182 (Nat.le_of_ble_eq_true rfl) ((w_182 X hS n dp d hd I L i1 0 0 _ _).1 h)

/-! 183 CutFloor.came(II)I -/
set_option maxHeartbeats 4000000 in
set_option maxRecDepth 100000 in
def g_183 : Nat → Nat → EN → Nat → (Nat → Nat → Int32) → (Nat → Nat → Int64) → Int32 → Int32 →  Option (Int32 × (Nat → Nat → Int32) × (Nat → Nat → Int64))
  | 0, _, _, _, _, _, _, _ => none
  | n + 1, dp, e, lab, I, L, i1, i2 =>
    if lab = 0 then (if (I 0 17) = 0 then (some ((-1 : Int32), I, L)) else (if 1 ≤ dp then (g_14 n (dp - 1) e 0 I L i1 (0 : Int32) (4 : Int32)).bind (fun ⟨x0_10, I0_10, L0_10⟩ => (if x0_10 = 0 then (some ((-1 : Int32), I0_10, L0_10)) else (if 1 ≤ dp then (g_14 n (dp - 1) e 0 I0_10 L0_10 i2 (0 : Int32) (2 : Int32)).bind (fun ⟨x1_19, I1_19, L1_19⟩ => (if x1_19 = 0 then (some ((-1 : Int32), I1_19, L1_19)) else (if 0 ≤ ((i1 * (3 : Int32)) + i2) ∧ (Int32.toNatClampNeg ((i1 * (3 : Int32)) + i2)) < 15 then (some ((I1_19 91 (Int32.toNatClampNeg ((i1 * (3 : Int32)) + i2))), I1_19, L1_19)) else none))) else none))) else none))
    else none
set_option maxRecDepth 100000 in
theorem e_183_0 (n dp : Nat) (e : EN) (I : (Nat → Nat → Int32)) (L : (Nat → Nat → Int64)) (i1 : Int32) (i2 : Int32) : g_183 (n + 1) dp e 0 I L i1 i2 = (if (I 0 17) = 0 then (some ((-1 : Int32), I, L)) else (if 1 ≤ dp then (g_14 n (dp - 1) e 0 I L i1 (0 : Int32) (4 : Int32)).bind (fun ⟨x0_10, I0_10, L0_10⟩ => (if x0_10 = 0 then (some ((-1 : Int32), I0_10, L0_10)) else (if 1 ≤ dp then (g_14 n (dp - 1) e 0 I0_10 L0_10 i2 (0 : Int32) (2 : Int32)).bind (fun ⟨x1_19, I1_19, L1_19⟩ => (if x1_19 = 0 then (some ((-1 : Int32), I1_19, L1_19)) else (if 0 ≤ ((i1 * (3 : Int32)) + i2) ∧ (Int32.toNatClampNeg ((i1 * (3 : Int32)) + i2)) < 15 then (some ((I1_19 91 (Int32.toNatClampNeg ((i1 * (3 : Int32)) + i2))), I1_19, L1_19)) else none))) else none))) else none)) := by rw [g_183.eq_2, if_pos (show (0 : Nat) = 0 from rfl)]
set_option maxHeartbeats 8000000 in
set_option maxRecDepth 100000 in
theorem w_183 (X : GX) {z : Nat} {kd : Nat → Nat × Nat} {Rf : Nat → Nat → Option Nat} (hS : Sh z kd Rf) : ∀ (n dp d : Nat), dp ≤ d → ∀ (I : (Nat → Nat → Int32)) (L : (Nat → Nat → Int64)) (i1 : Int32) (i2 : Int32) (r : Int32) (I1 : (Nat → Nat → Int32)) (L1 : (Nat → Nat → Int64)), (g_183 n dp (z, kd, Rf) 0 I L i1 i2 = some (r, I1, L1) → K X d 183 0 0 (AI (fun x τ => x = r ∧ τ = (z, kd, I1, L1, Rf))) 0 [some (.ref 0), some (.int i1), some (.int i2)] [] (z, kd, I, L, Rf) 0 0) := by
  intro n
  induction n with
  | zero => intro dp d hdp I L i1 i2 r I1 L1; exact fun h => by cases h
  | succ n ih =>
    intro dp d hdp I L i1 i2 r I1 L1
    · intro h
      rw [e_183_0] at h
      refine K_of b_183_0 h_183_0 ?_
      refine q_aload rfl ?_
      refine q_getI (c0 := 11) (j := 17) rfl rfl (zl hS 0 (by decide)) (sk hS 0 (by decide) rfl) (Or.inr rfl) (by decide) ?_
      refine q_if_eq (fun c_4 => ?_) (fun c_4 => ?_)
      · rw [if_pos c_4] at h
        refine K_of b_183_25 h_183_25 ?_
        refine q_iconst (-1) (by decide) ?_
        cases h
        exact q_iret rfl (Nat.le_refl _) (Nat.le_refl _) ⟨rfl, rfl⟩
      · rw [if_neg c_4] at h
        refine q_iload rfl ?_
        refine q_iconst (0) (by decide) ?_
        refine q_iconst (4) (by decide) ?_
        obtain ⟨d_10, h⟩ := ite_some h
        obtain ⟨⟨x0_10, I0_10, L0_10⟩, e_10, h⟩ := Option.bind_eq_some_iff.mp h
        dsimp only at h
        refine q_fs3I (a_14 X hS (d := d - 1) (by omega) e_10) (by omega) (Nat.le_refl _) (Nat.le_refl _) rfl (Nat.le_of_ble_eq_true rfl) ?_
        refine q_if_eq (fun c_13 => ?_) (fun c_13 => ?_)
        · rw [if_pos c_13] at h
          refine K_of b_183_25 h_183_25 ?_
          refine q_iconst (-1) (by decide) ?_
          cases h
          exact q_iret rfl (Nat.le_refl _) (Nat.le_refl _) ⟨rfl, rfl⟩
        · rw [if_neg c_13] at h
          refine q_iload rfl ?_
          refine q_iconst (0) (by decide) ?_
          refine q_iconst (2) (by decide) ?_
          obtain ⟨d_19, h⟩ := ite_some h
          obtain ⟨⟨x1_19, I1_19, L1_19⟩, e_19, h⟩ := Option.bind_eq_some_iff.mp h
          dsimp only at h
          refine q_fs3I (a_14 X hS (d := d - 1) (by omega) e_19) (by omega) (Nat.le_refl _) (Nat.le_refl _) rfl (Nat.le_of_ble_eq_true rfl) ?_
          refine q_if_ne (fun c_22 => ?_) (fun c_22 => ?_)
          · rw [if_neg c_22] at h
            refine K_of b_183_27 h_183_27 ?_
            refine q_aload rfl ?_
            refine q_getRs (c0 := 11) (j := 9) rfl rfl (zl hS 0 (by decide)) (sk hS 0 (by decide) rfl) rfl (by decide) (r_0_9 hS) ?_
            refine q_iload rfl ?_
            refine q_iconst (3) (by decide) ?_
            refine q_imul ?_
            refine q_iload rfl ?_
            refine q_iadd ?_
            obtain ⟨⟨u_36, v_36⟩, h⟩ := ite_some h
            refine q_ialN (Int32.toNatClampNeg ((i1 * (3 : Int32)) + i2)) (nx u_36) (zl hS 91 (by decide)) (sk hS 91 (by decide) rfl) v_36 (by decide) ?_
            cases h
            exact q_iret rfl (Nat.le_refl _) (Nat.le_refl _) ⟨rfl, rfl⟩
          · rw [if_pos c_22] at h
            refine q_end ?_
            refine K_of b_183_25 h_183_25 ?_
            refine q_iconst (-1) (by decide) ?_
            cases h
            exact q_iret rfl (Nat.le_refl _) (Nat.le_refl _) ⟨rfl, rfl⟩
theorem a_183 (X : GX) {z : Nat} {kd : Nat → Nat × Nat} {Rf : Nat → Nat → Option Nat} (hS : Sh z kd Rf) {n dp d : Nat} (hd : dp ≤ d) {I : (Nat → Nat → Int32)} {L : (Nat → Nat → Int64)} {i1 : Int32} {i2 : Int32} {I1 : (Nat → Nat → Int32)} {L1 : (Nat → Nat → Int64)} {r : Int32} (h : g_183 n dp (z, kd, Rf) 0 I L i1 i2 = some (r, I1, L1)) : Ct X d 183 0 0 [.ref 0, .int i1, .int i2] (z, kd, I, L, Rf) (AI (fun x τ => x = r ∧ τ = (z, kd, I1, L1, Rf))) :=
  Ct_of mu_183 (Nat.le_of_ble_eq_true rfl) ((w_183 X hS n dp d hd I L i1 i2 _ _ _) h)

/-! 186 CutFloor$Tree.copyFrom(LCutFloor$Tree;)V -/
set_option maxHeartbeats 4000000 in
set_option maxRecDepth 100000 in
def g_186 : Nat → Nat → EN → Nat → (Nat → Nat → Int32) → (Nat → Nat → Int64) → Nat → Nat →  Option ((Nat → Nat → Int32) × (Nat → Nat → Int64))
  | 0, _, _, _, _, _, _, _ => none
  | n + 1, dp, e, lab, I, L, a0, a1 =>
    if lab = 0 then (if a1 < e.1 ∧ (e.2.1 a1).1 = 10 then ((e.2.2 a1 0).bind (fun b_1 => (if a0 < e.1 ∧ (e.2.1 a0).1 = 10 then ((e.2.2 a0 0).bind (fun b_6 => (if a1 < e.1 ∧ (e.2.1 a1).1 = 10 then (if b_1 < e.1 ∧ (e.2.1 b_1).1 = 13 then (if b_6 < e.1 ∧ (e.2.1 b_6).1 = 13 then (if ((¬ (0 : Int32) < 0) ∧ (¬ (0 : Int32) < 0) ∧ (¬ (I a1 10) < 0) ∧ (Int32.toNatClampNeg (0 : Int32)) + (Int32.toNatClampNeg (I a1 10)) ≤ (e.2.1 b_1).2 ∧ (Int32.toNatClampNeg (0 : Int32)) + (Int32.toNatClampNeg (I a1 10)) ≤ (e.2.1 b_6).2) ∧ 1 ≤ dp then (stI (va_up I b_6 (va_cpy (I b_1) (I b_6) (Int32.toNatClampNeg (0 : Int32)) (Int32.toNatClampNeg (0 : Int32)) (Int32.toNatClampNeg (I a1 10)))) (fun I_14 => (if a1 < e.1 ∧ (e.2.1 a1).1 = 10 then ((e.2.2 a1 1).bind (fun b_18 => (if a0 < e.1 ∧ (e.2.1 a0).1 = 10 then ((e.2.2 a0 1).bind (fun b_23 => (if a1 < e.1 ∧ (e.2.1 a1).1 = 10 then (if b_18 < e.1 ∧ (e.2.1 b_18).1 = 13 then (if b_23 < e.1 ∧ (e.2.1 b_23).1 = 13 then (if ((¬ (0 : Int32) < 0) ∧ (¬ (0 : Int32) < 0) ∧ (¬ (I_14 a1 10) < 0) ∧ (Int32.toNatClampNeg (0 : Int32)) + (Int32.toNatClampNeg (I_14 a1 10)) ≤ (e.2.1 b_18).2 ∧ (Int32.toNatClampNeg (0 : Int32)) + (Int32.toNatClampNeg (I_14 a1 10)) ≤ (e.2.1 b_23).2) ∧ 1 ≤ dp then (stI (va_up I_14 b_23 (va_cpy (I_14 b_18) (I_14 b_23) (Int32.toNatClampNeg (0 : Int32)) (Int32.toNatClampNeg (0 : Int32)) (Int32.toNatClampNeg (I_14 a1 10)))) (fun I_31 => (if a1 < e.1 ∧ (e.2.1 a1).1 = 10 then ((e.2.2 a1 2).bind (fun b_35 => (if a0 < e.1 ∧ (e.2.1 a0).1 = 10 then ((e.2.2 a0 2).bind (fun b_40 => (if a1 < e.1 ∧ (e.2.1 a1).1 = 10 then (if b_35 < e.1 ∧ (e.2.1 b_35).1 = 13 then (if b_40 < e.1 ∧ (e.2.1 b_40).1 = 13 then (if ((¬ (0 : Int32) < 0) ∧ (¬ (0 : Int32) < 0) ∧ (¬ (I_31 a1 10) < 0) ∧ (Int32.toNatClampNeg (0 : Int32)) + (Int32.toNatClampNeg (I_31 a1 10)) ≤ (e.2.1 b_35).2 ∧ (Int32.toNatClampNeg (0 : Int32)) + (Int32.toNatClampNeg (I_31 a1 10)) ≤ (e.2.1 b_40).2) ∧ 1 ≤ dp then (stI (va_up I_31 b_40 (va_cpy (I_31 b_35) (I_31 b_40) (Int32.toNatClampNeg (0 : Int32)) (Int32.toNatClampNeg (0 : Int32)) (Int32.toNatClampNeg (I_31 a1 10)))) (fun I_48 => (if a1 < e.1 ∧ (e.2.1 a1).1 = 10 then ((e.2.2 a1 3).bind (fun b_52 => (if a0 < e.1 ∧ (e.2.1 a0).1 = 10 then ((e.2.2 a0 3).bind (fun b_57 => (if a1 < e.1 ∧ (e.2.1 a1).1 = 10 then (if b_52 < e.1 ∧ (e.2.1 b_52).1 = 13 then (if b_57 < e.1 ∧ (e.2.1 b_57).1 = 13 then (if ((¬ (0 : Int32) < 0) ∧ (¬ (0 : Int32) < 0) ∧ (¬ (I_48 a1 10) < 0) ∧ (Int32.toNatClampNeg (0 : Int32)) + (Int32.toNatClampNeg (I_48 a1 10)) ≤ (e.2.1 b_52).2 ∧ (Int32.toNatClampNeg (0 : Int32)) + (Int32.toNatClampNeg (I_48 a1 10)) ≤ (e.2.1 b_57).2) ∧ 1 ≤ dp then (stI (va_up I_48 b_57 (va_cpy (I_48 b_52) (I_48 b_57) (Int32.toNatClampNeg (0 : Int32)) (Int32.toNatClampNeg (0 : Int32)) (Int32.toNatClampNeg (I_48 a1 10)))) (fun I_65 => (if a1 < e.1 ∧ (e.2.1 a1).1 = 10 then ((e.2.2 a1 4).bind (fun b_69 => (if a0 < e.1 ∧ (e.2.1 a0).1 = 10 then ((e.2.2 a0 4).bind (fun b_74 => (if a1 < e.1 ∧ (e.2.1 a1).1 = 10 then (if b_69 < e.1 ∧ (e.2.1 b_69).1 = 13 then (if b_74 < e.1 ∧ (e.2.1 b_74).1 = 13 then (if ((¬ (0 : Int32) < 0) ∧ (¬ (0 : Int32) < 0) ∧ (¬ (I_65 a1 10) < 0) ∧ (Int32.toNatClampNeg (0 : Int32)) + (Int32.toNatClampNeg (I_65 a1 10)) ≤ (e.2.1 b_69).2 ∧ (Int32.toNatClampNeg (0 : Int32)) + (Int32.toNatClampNeg (I_65 a1 10)) ≤ (e.2.1 b_74).2) ∧ 1 ≤ dp then (stI (va_up I_65 b_74 (va_cpy (I_65 b_69) (I_65 b_74) (Int32.toNatClampNeg (0 : Int32)) (Int32.toNatClampNeg (0 : Int32)) (Int32.toNatClampNeg (I_65 a1 10)))) (fun I_82 => (if a1 < e.1 ∧ (e.2.1 a1).1 = 10 then ((e.2.2 a1 5).bind (fun b_86 => (if a0 < e.1 ∧ (e.2.1 a0).1 = 10 then ((e.2.2 a0 5).bind (fun b_91 => (if a1 < e.1 ∧ (e.2.1 a1).1 = 10 then (if b_86 < e.1 ∧ (e.2.1 b_86).1 = 13 then (if b_91 < e.1 ∧ (e.2.1 b_91).1 = 13 then (if ((¬ (0 : Int32) < 0) ∧ (¬ (0 : Int32) < 0) ∧ (¬ (I_82 a1 11) < 0) ∧ (Int32.toNatClampNeg (0 : Int32)) + (Int32.toNatClampNeg (I_82 a1 11)) ≤ (e.2.1 b_86).2 ∧ (Int32.toNatClampNeg (0 : Int32)) + (Int32.toNatClampNeg (I_82 a1 11)) ≤ (e.2.1 b_91).2) ∧ 1 ≤ dp then (stI (va_up I_82 b_91 (va_cpy (I_82 b_86) (I_82 b_91) (Int32.toNatClampNeg (0 : Int32)) (Int32.toNatClampNeg (0 : Int32)) (Int32.toNatClampNeg (I_82 a1 11)))) (fun I_99 => (if a1 < e.1 ∧ (e.2.1 a1).1 = 10 then ((e.2.2 a1 6).bind (fun b_103 => (if a0 < e.1 ∧ (e.2.1 a0).1 = 10 then ((e.2.2 a0 6).bind (fun b_108 => (if a1 < e.1 ∧ (e.2.1 a1).1 = 10 then (if b_103 < e.1 ∧ (e.2.1 b_103).1 = 13 then (if b_108 < e.1 ∧ (e.2.1 b_108).1 = 13 then (if ((¬ (0 : Int32) < 0) ∧ (¬ (0 : Int32) < 0) ∧ (¬ (I_99 a1 11) < 0) ∧ (Int32.toNatClampNeg (0 : Int32)) + (Int32.toNatClampNeg (I_99 a1 11)) ≤ (e.2.1 b_103).2 ∧ (Int32.toNatClampNeg (0 : Int32)) + (Int32.toNatClampNeg (I_99 a1 11)) ≤ (e.2.1 b_108).2) ∧ 1 ≤ dp then (stI (va_up I_99 b_108 (va_cpy (I_99 b_103) (I_99 b_108) (Int32.toNatClampNeg (0 : Int32)) (Int32.toNatClampNeg (0 : Int32)) (Int32.toNatClampNeg (I_99 a1 11)))) (fun I_116 => (if a1 < e.1 ∧ (e.2.1 a1).1 = 10 then ((e.2.2 a1 7).bind (fun b_120 => (if a0 < e.1 ∧ (e.2.1 a0).1 = 10 then ((e.2.2 a0 7).bind (fun b_125 => (if a0 < e.1 ∧ (e.2.1 a0).1 = 10 then ((e.2.2 a0 7).bind (fun b_130 => (if b_130 < e.1 ∧ (e.2.1 b_130).1 = 13 then (if b_120 < e.1 ∧ (e.2.1 b_120).1 = 13 then (if b_125 < e.1 ∧ (e.2.1 b_125).1 = 13 then (if ((¬ (0 : Int32) < 0) ∧ (¬ (0 : Int32) < 0) ∧ (¬ (nI (e.2.1 b_130).2) < 0) ∧ (Int32.toNatClampNeg (0 : Int32)) + (Int32.toNatClampNeg (nI (e.2.1 b_130).2)) ≤ (e.2.1 b_120).2 ∧ (Int32.toNatClampNeg (0 : Int32)) + (Int32.toNatClampNeg (nI (e.2.1 b_130).2)) ≤ (e.2.1 b_125).2) ∧ 1 ≤ dp then (stI (va_up I_116 b_125 (va_cpy (I_116 b_120) (I_116 b_125) (Int32.toNatClampNeg (0 : Int32)) (Int32.toNatClampNeg (0 : Int32)) (Int32.toNatClampNeg (nI (e.2.1 b_130).2)))) (fun I_134 => (if a1 < e.1 ∧ (e.2.1 a1).1 = 10 then ((e.2.2 a1 8).bind (fun b_138 => (if a0 < e.1 ∧ (e.2.1 a0).1 = 10 then ((e.2.2 a0 8).bind (fun b_143 => (if a1 < e.1 ∧ (e.2.1 a1).1 = 10 then (if b_138 < e.1 ∧ (e.2.1 b_138).1 = 13 then (if b_143 < e.1 ∧ (e.2.1 b_143).1 = 13 then (if ((¬ (0 : Int32) < 0) ∧ (¬ (0 : Int32) < 0) ∧ (¬ (I_134 a1 12) < 0) ∧ (Int32.toNatClampNeg (0 : Int32)) + (Int32.toNatClampNeg (I_134 a1 12)) ≤ (e.2.1 b_138).2 ∧ (Int32.toNatClampNeg (0 : Int32)) + (Int32.toNatClampNeg (I_134 a1 12)) ≤ (e.2.1 b_143).2) ∧ 1 ≤ dp then (stI (va_up I_134 b_143 (va_cpy (I_134 b_138) (I_134 b_143) (Int32.toNatClampNeg (0 : Int32)) (Int32.toNatClampNeg (0 : Int32)) (Int32.toNatClampNeg (I_134 a1 12)))) (fun I_151 => (if a1 < e.1 ∧ (e.2.1 a1).1 = 10 then ((e.2.2 a1 9).bind (fun b_155 => (if a0 < e.1 ∧ (e.2.1 a0).1 = 10 then ((e.2.2 a0 9).bind (fun b_160 => (if a1 < e.1 ∧ (e.2.1 a1).1 = 10 then (if b_155 < e.1 ∧ (e.2.1 b_155).1 = 13 then (if b_160 < e.1 ∧ (e.2.1 b_160).1 = 13 then (if ((¬ (0 : Int32) < 0) ∧ (¬ (0 : Int32) < 0) ∧ (¬ (I_151 a1 12) < 0) ∧ (Int32.toNatClampNeg (0 : Int32)) + (Int32.toNatClampNeg (I_151 a1 12)) ≤ (e.2.1 b_155).2 ∧ (Int32.toNatClampNeg (0 : Int32)) + (Int32.toNatClampNeg (I_151 a1 12)) ≤ (e.2.1 b_160).2) ∧ 1 ≤ dp then (stI (va_up I_151 b_160 (va_cpy (I_151 b_155) (I_151 b_160) (Int32.toNatClampNeg (0 : Int32)) (Int32.toNatClampNeg (0 : Int32)) (Int32.toNatClampNeg (I_151 a1 12)))) (fun I_168 => (if a1 < e.1 ∧ (e.2.1 a1).1 = 10 then (if a0 < e.1 ∧ (e.2.1 a0).1 = 10 then (stI (u2 I_168 a0 10 (I_168 a1 10)) (fun I_176 => (if a1 < e.1 ∧ (e.2.1 a1).1 = 10 then (if a0 < e.1 ∧ (e.2.1 a0).1 = 10 then (stI (u2 I_176 a0 11 (I_176 a1 11)) (fun I_184 => (if a1 < e.1 ∧ (e.2.1 a1).1 = 10 then (if a0 < e.1 ∧ (e.2.1 a0).1 = 10 then (stI (u2 I_184 a0 12 (I_184 a1 12)) (fun I_192 => (if a1 < e.1 ∧ (e.2.1 a1).1 = 10 then (if a0 < e.1 ∧ (e.2.1 a0).1 = 10 then (stI (u2 I_192 a0 13 (I_192 a1 13)) (fun I_200 => (some (I_200, L)))) else none) else none))) else none) else none))) else none) else none))) else none) else none))) else none) else none) else none) else none))) else none))) else none))) else none) else none) else none) else none))) else none))) else none))) else none) else none) else none) else none))) else none))) else none))) else none))) else none) else none) else none) else none))) else none))) else none))) else none) else none) else none) else none))) else none))) else none))) else none) else none) else none) else none))) else none))) else none))) else none) else none) else none) else none))) else none))) else none))) else none) else none) else none) else none))) else none))) else none))) else none) else none) else none) else none))) else none))) else none))) else none) else none) else none) else none))) else none))) else none)
    else none
set_option maxRecDepth 100000 in
theorem e_186_0 (n dp : Nat) (e : EN) (I : (Nat → Nat → Int32)) (L : (Nat → Nat → Int64)) (a0 : Nat) (a1 : Nat) : g_186 (n + 1) dp e 0 I L a0 a1 = (if a1 < e.1 ∧ (e.2.1 a1).1 = 10 then ((e.2.2 a1 0).bind (fun b_1 => (if a0 < e.1 ∧ (e.2.1 a0).1 = 10 then ((e.2.2 a0 0).bind (fun b_6 => (if a1 < e.1 ∧ (e.2.1 a1).1 = 10 then (if b_1 < e.1 ∧ (e.2.1 b_1).1 = 13 then (if b_6 < e.1 ∧ (e.2.1 b_6).1 = 13 then (if ((¬ (0 : Int32) < 0) ∧ (¬ (0 : Int32) < 0) ∧ (¬ (I a1 10) < 0) ∧ (Int32.toNatClampNeg (0 : Int32)) + (Int32.toNatClampNeg (I a1 10)) ≤ (e.2.1 b_1).2 ∧ (Int32.toNatClampNeg (0 : Int32)) + (Int32.toNatClampNeg (I a1 10)) ≤ (e.2.1 b_6).2) ∧ 1 ≤ dp then (stI (va_up I b_6 (va_cpy (I b_1) (I b_6) (Int32.toNatClampNeg (0 : Int32)) (Int32.toNatClampNeg (0 : Int32)) (Int32.toNatClampNeg (I a1 10)))) (fun I_14 => (if a1 < e.1 ∧ (e.2.1 a1).1 = 10 then ((e.2.2 a1 1).bind (fun b_18 => (if a0 < e.1 ∧ (e.2.1 a0).1 = 10 then ((e.2.2 a0 1).bind (fun b_23 => (if a1 < e.1 ∧ (e.2.1 a1).1 = 10 then (if b_18 < e.1 ∧ (e.2.1 b_18).1 = 13 then (if b_23 < e.1 ∧ (e.2.1 b_23).1 = 13 then (if ((¬ (0 : Int32) < 0) ∧ (¬ (0 : Int32) < 0) ∧ (¬ (I_14 a1 10) < 0) ∧ (Int32.toNatClampNeg (0 : Int32)) + (Int32.toNatClampNeg (I_14 a1 10)) ≤ (e.2.1 b_18).2 ∧ (Int32.toNatClampNeg (0 : Int32)) + (Int32.toNatClampNeg (I_14 a1 10)) ≤ (e.2.1 b_23).2) ∧ 1 ≤ dp then (stI (va_up I_14 b_23 (va_cpy (I_14 b_18) (I_14 b_23) (Int32.toNatClampNeg (0 : Int32)) (Int32.toNatClampNeg (0 : Int32)) (Int32.toNatClampNeg (I_14 a1 10)))) (fun I_31 => (if a1 < e.1 ∧ (e.2.1 a1).1 = 10 then ((e.2.2 a1 2).bind (fun b_35 => (if a0 < e.1 ∧ (e.2.1 a0).1 = 10 then ((e.2.2 a0 2).bind (fun b_40 => (if a1 < e.1 ∧ (e.2.1 a1).1 = 10 then (if b_35 < e.1 ∧ (e.2.1 b_35).1 = 13 then (if b_40 < e.1 ∧ (e.2.1 b_40).1 = 13 then (if ((¬ (0 : Int32) < 0) ∧ (¬ (0 : Int32) < 0) ∧ (¬ (I_31 a1 10) < 0) ∧ (Int32.toNatClampNeg (0 : Int32)) + (Int32.toNatClampNeg (I_31 a1 10)) ≤ (e.2.1 b_35).2 ∧ (Int32.toNatClampNeg (0 : Int32)) + (Int32.toNatClampNeg (I_31 a1 10)) ≤ (e.2.1 b_40).2) ∧ 1 ≤ dp then (stI (va_up I_31 b_40 (va_cpy (I_31 b_35) (I_31 b_40) (Int32.toNatClampNeg (0 : Int32)) (Int32.toNatClampNeg (0 : Int32)) (Int32.toNatClampNeg (I_31 a1 10)))) (fun I_48 => (if a1 < e.1 ∧ (e.2.1 a1).1 = 10 then ((e.2.2 a1 3).bind (fun b_52 => (if a0 < e.1 ∧ (e.2.1 a0).1 = 10 then ((e.2.2 a0 3).bind (fun b_57 => (if a1 < e.1 ∧ (e.2.1 a1).1 = 10 then (if b_52 < e.1 ∧ (e.2.1 b_52).1 = 13 then (if b_57 < e.1 ∧ (e.2.1 b_57).1 = 13 then (if ((¬ (0 : Int32) < 0) ∧ (¬ (0 : Int32) < 0) ∧ (¬ (I_48 a1 10) < 0) ∧ (Int32.toNatClampNeg (0 : Int32)) + (Int32.toNatClampNeg (I_48 a1 10)) ≤ (e.2.1 b_52).2 ∧ (Int32.toNatClampNeg (0 : Int32)) + (Int32.toNatClampNeg (I_48 a1 10)) ≤ (e.2.1 b_57).2) ∧ 1 ≤ dp then (stI (va_up I_48 b_57 (va_cpy (I_48 b_52) (I_48 b_57) (Int32.toNatClampNeg (0 : Int32)) (Int32.toNatClampNeg (0 : Int32)) (Int32.toNatClampNeg (I_48 a1 10)))) (fun I_65 => (if a1 < e.1 ∧ (e.2.1 a1).1 = 10 then ((e.2.2 a1 4).bind (fun b_69 => (if a0 < e.1 ∧ (e.2.1 a0).1 = 10 then ((e.2.2 a0 4).bind (fun b_74 => (if a1 < e.1 ∧ (e.2.1 a1).1 = 10 then (if b_69 < e.1 ∧ (e.2.1 b_69).1 = 13 then (if b_74 < e.1 ∧ (e.2.1 b_74).1 = 13 then (if ((¬ (0 : Int32) < 0) ∧ (¬ (0 : Int32) < 0) ∧ (¬ (I_65 a1 10) < 0) ∧ (Int32.toNatClampNeg (0 : Int32)) + (Int32.toNatClampNeg (I_65 a1 10)) ≤ (e.2.1 b_69).2 ∧ (Int32.toNatClampNeg (0 : Int32)) + (Int32.toNatClampNeg (I_65 a1 10)) ≤ (e.2.1 b_74).2) ∧ 1 ≤ dp then (stI (va_up I_65 b_74 (va_cpy (I_65 b_69) (I_65 b_74) (Int32.toNatClampNeg (0 : Int32)) (Int32.toNatClampNeg (0 : Int32)) (Int32.toNatClampNeg (I_65 a1 10)))) (fun I_82 => (if a1 < e.1 ∧ (e.2.1 a1).1 = 10 then ((e.2.2 a1 5).bind (fun b_86 => (if a0 < e.1 ∧ (e.2.1 a0).1 = 10 then ((e.2.2 a0 5).bind (fun b_91 => (if a1 < e.1 ∧ (e.2.1 a1).1 = 10 then (if b_86 < e.1 ∧ (e.2.1 b_86).1 = 13 then (if b_91 < e.1 ∧ (e.2.1 b_91).1 = 13 then (if ((¬ (0 : Int32) < 0) ∧ (¬ (0 : Int32) < 0) ∧ (¬ (I_82 a1 11) < 0) ∧ (Int32.toNatClampNeg (0 : Int32)) + (Int32.toNatClampNeg (I_82 a1 11)) ≤ (e.2.1 b_86).2 ∧ (Int32.toNatClampNeg (0 : Int32)) + (Int32.toNatClampNeg (I_82 a1 11)) ≤ (e.2.1 b_91).2) ∧ 1 ≤ dp then (stI (va_up I_82 b_91 (va_cpy (I_82 b_86) (I_82 b_91) (Int32.toNatClampNeg (0 : Int32)) (Int32.toNatClampNeg (0 : Int32)) (Int32.toNatClampNeg (I_82 a1 11)))) (fun I_99 => (if a1 < e.1 ∧ (e.2.1 a1).1 = 10 then ((e.2.2 a1 6).bind (fun b_103 => (if a0 < e.1 ∧ (e.2.1 a0).1 = 10 then ((e.2.2 a0 6).bind (fun b_108 => (if a1 < e.1 ∧ (e.2.1 a1).1 = 10 then (if b_103 < e.1 ∧ (e.2.1 b_103).1 = 13 then (if b_108 < e.1 ∧ (e.2.1 b_108).1 = 13 then (if ((¬ (0 : Int32) < 0) ∧ (¬ (0 : Int32) < 0) ∧ (¬ (I_99 a1 11) < 0) ∧ (Int32.toNatClampNeg (0 : Int32)) + (Int32.toNatClampNeg (I_99 a1 11)) ≤ (e.2.1 b_103).2 ∧ (Int32.toNatClampNeg (0 : Int32)) + (Int32.toNatClampNeg (I_99 a1 11)) ≤ (e.2.1 b_108).2) ∧ 1 ≤ dp then (stI (va_up I_99 b_108 (va_cpy (I_99 b_103) (I_99 b_108) (Int32.toNatClampNeg (0 : Int32)) (Int32.toNatClampNeg (0 : Int32)) (Int32.toNatClampNeg (I_99 a1 11)))) (fun I_116 => (if a1 < e.1 ∧ (e.2.1 a1).1 = 10 then ((e.2.2 a1 7).bind (fun b_120 => (if a0 < e.1 ∧ (e.2.1 a0).1 = 10 then ((e.2.2 a0 7).bind (fun b_125 => (if a0 < e.1 ∧ (e.2.1 a0).1 = 10 then ((e.2.2 a0 7).bind (fun b_130 => (if b_130 < e.1 ∧ (e.2.1 b_130).1 = 13 then (if b_120 < e.1 ∧ (e.2.1 b_120).1 = 13 then (if b_125 < e.1 ∧ (e.2.1 b_125).1 = 13 then (if ((¬ (0 : Int32) < 0) ∧ (¬ (0 : Int32) < 0) ∧ (¬ (nI (e.2.1 b_130).2) < 0) ∧ (Int32.toNatClampNeg (0 : Int32)) + (Int32.toNatClampNeg (nI (e.2.1 b_130).2)) ≤ (e.2.1 b_120).2 ∧ (Int32.toNatClampNeg (0 : Int32)) + (Int32.toNatClampNeg (nI (e.2.1 b_130).2)) ≤ (e.2.1 b_125).2) ∧ 1 ≤ dp then (stI (va_up I_116 b_125 (va_cpy (I_116 b_120) (I_116 b_125) (Int32.toNatClampNeg (0 : Int32)) (Int32.toNatClampNeg (0 : Int32)) (Int32.toNatClampNeg (nI (e.2.1 b_130).2)))) (fun I_134 => (if a1 < e.1 ∧ (e.2.1 a1).1 = 10 then ((e.2.2 a1 8).bind (fun b_138 => (if a0 < e.1 ∧ (e.2.1 a0).1 = 10 then ((e.2.2 a0 8).bind (fun b_143 => (if a1 < e.1 ∧ (e.2.1 a1).1 = 10 then (if b_138 < e.1 ∧ (e.2.1 b_138).1 = 13 then (if b_143 < e.1 ∧ (e.2.1 b_143).1 = 13 then (if ((¬ (0 : Int32) < 0) ∧ (¬ (0 : Int32) < 0) ∧ (¬ (I_134 a1 12) < 0) ∧ (Int32.toNatClampNeg (0 : Int32)) + (Int32.toNatClampNeg (I_134 a1 12)) ≤ (e.2.1 b_138).2 ∧ (Int32.toNatClampNeg (0 : Int32)) + (Int32.toNatClampNeg (I_134 a1 12)) ≤ (e.2.1 b_143).2) ∧ 1 ≤ dp then (stI (va_up I_134 b_143 (va_cpy (I_134 b_138) (I_134 b_143) (Int32.toNatClampNeg (0 : Int32)) (Int32.toNatClampNeg (0 : Int32)) (Int32.toNatClampNeg (I_134 a1 12)))) (fun I_151 => (if a1 < e.1 ∧ (e.2.1 a1).1 = 10 then ((e.2.2 a1 9).bind (fun b_155 => (if a0 < e.1 ∧ (e.2.1 a0).1 = 10 then ((e.2.2 a0 9).bind (fun b_160 => (if a1 < e.1 ∧ (e.2.1 a1).1 = 10 then (if b_155 < e.1 ∧ (e.2.1 b_155).1 = 13 then (if b_160 < e.1 ∧ (e.2.1 b_160).1 = 13 then (if ((¬ (0 : Int32) < 0) ∧ (¬ (0 : Int32) < 0) ∧ (¬ (I_151 a1 12) < 0) ∧ (Int32.toNatClampNeg (0 : Int32)) + (Int32.toNatClampNeg (I_151 a1 12)) ≤ (e.2.1 b_155).2 ∧ (Int32.toNatClampNeg (0 : Int32)) + (Int32.toNatClampNeg (I_151 a1 12)) ≤ (e.2.1 b_160).2) ∧ 1 ≤ dp then (stI (va_up I_151 b_160 (va_cpy (I_151 b_155) (I_151 b_160) (Int32.toNatClampNeg (0 : Int32)) (Int32.toNatClampNeg (0 : Int32)) (Int32.toNatClampNeg (I_151 a1 12)))) (fun I_168 => (if a1 < e.1 ∧ (e.2.1 a1).1 = 10 then (if a0 < e.1 ∧ (e.2.1 a0).1 = 10 then (stI (u2 I_168 a0 10 (I_168 a1 10)) (fun I_176 => (if a1 < e.1 ∧ (e.2.1 a1).1 = 10 then (if a0 < e.1 ∧ (e.2.1 a0).1 = 10 then (stI (u2 I_176 a0 11 (I_176 a1 11)) (fun I_184 => (if a1 < e.1 ∧ (e.2.1 a1).1 = 10 then (if a0 < e.1 ∧ (e.2.1 a0).1 = 10 then (stI (u2 I_184 a0 12 (I_184 a1 12)) (fun I_192 => (if a1 < e.1 ∧ (e.2.1 a1).1 = 10 then (if a0 < e.1 ∧ (e.2.1 a0).1 = 10 then (stI (u2 I_192 a0 13 (I_192 a1 13)) (fun I_200 => (some (I_200, L)))) else none) else none))) else none) else none))) else none) else none))) else none) else none))) else none) else none) else none) else none))) else none))) else none))) else none) else none) else none) else none))) else none))) else none))) else none) else none) else none) else none))) else none))) else none))) else none))) else none) else none) else none) else none))) else none))) else none))) else none) else none) else none) else none))) else none))) else none))) else none) else none) else none) else none))) else none))) else none))) else none) else none) else none) else none))) else none))) else none))) else none) else none) else none) else none))) else none))) else none))) else none) else none) else none) else none))) else none))) else none))) else none) else none) else none) else none))) else none))) else none) := by rw [g_186.eq_2, if_pos (show (0 : Nat) = 0 from rfl)]
set_option maxHeartbeats 8000000 in
set_option maxRecDepth 100000 in
theorem w_186 (X : GX) {z : Nat} {kd : Nat → Nat × Nat} {Rf : Nat → Nat → Option Nat} (hS : Sh z kd Rf) : ∀ (n dp d : Nat), dp ≤ d → ∀ (I : (Nat → Nat → Int32)) (L : (Nat → Nat → Int64)) (a0 : Nat) (a1 : Nat) (I1 : (Nat → Nat → Int32)) (L1 : (Nat → Nat → Int64)), (g_186 n dp (z, kd, Rf) 0 I L a0 a1 = some (I1, L1) → K X d 186 0 0 (AV (fun τ => τ = (z, kd, I1, L1, Rf))) 0 [some (.ref a0), some (.ref a1)] [] (z, kd, I, L, Rf) 0 0) := by
  intro n
  induction n with
  | zero => intro dp d hdp I L a0 a1 I1 L1; exact fun h => by cases h
  | succ n ih =>
    intro dp d hdp I L a0 a1 I1 L1
    · intro h
      rw [e_186_0] at h
      refine K_of b_186_0 h_186_0 ?_
      refine q_aload rfl ?_
      obtain ⟨⟨z_1, k_1⟩, h⟩ := ite_some h
      obtain ⟨b_1, r_1, h⟩ := Option.bind_eq_some_iff.mp h
      refine q_getRs (c0 := 10) (j := 0) rfl rfl z_1 (fst_eq k_1) rfl (by decide) r_1 ?_
      refine q_iconst (0) (by decide) ?_
      refine q_aload rfl ?_
      obtain ⟨⟨z_6, k_6⟩, h⟩ := ite_some h
      obtain ⟨b_6, r_6, h⟩ := Option.bind_eq_some_iff.mp h
      refine q_getRs (c0 := 10) (j := 0) rfl rfl z_6 (fst_eq k_6) rfl (by decide) r_6 ?_
      refine q_iconst (0) (by decide) ?_
      refine q_aload rfl ?_
      obtain ⟨⟨z_11, k_11⟩, h⟩ := ite_some h
      refine q_getI (c0 := 10) (j := 10) rfl rfl z_11 (fst_eq k_11) (Or.inl rfl) (by decide) ?_
      obtain ⟨ka_14, h⟩ := ite_some h
      obtain ⟨kb_14, h⟩ := ite_some h
      obtain ⟨⟨⟨q1_14, q2_14, q3_14, q4_14, q5_14⟩, d_14⟩, h⟩ := ite_some h
      refine q_copy (Nat.le_of_ble_eq_true rfl) ka_14.1 kb_14.1 (fst_eq ka_14.2) (fst_eq kb_14.2) q1_14 q2_14 q3_14 q4_14 q5_14 (Nat.le_trans d_14 hdp) ?_
      obtain ⟨I_14, nI_14, h⟩ := stI_some h
      refine q_nI nI_14 ?_
      refine q_aload rfl ?_
      obtain ⟨⟨z_18, k_18⟩, h⟩ := ite_some h
      obtain ⟨b_18, r_18, h⟩ := Option.bind_eq_some_iff.mp h
      refine q_getRs (c0 := 10) (j := 1) rfl rfl z_18 (fst_eq k_18) rfl (by decide) r_18 ?_
      refine q_iconst (0) (by decide) ?_
      refine q_aload rfl ?_
      obtain ⟨⟨z_23, k_23⟩, h⟩ := ite_some h
      obtain ⟨b_23, r_23, h⟩ := Option.bind_eq_some_iff.mp h
      refine q_getRs (c0 := 10) (j := 1) rfl rfl z_23 (fst_eq k_23) rfl (by decide) r_23 ?_
      refine q_iconst (0) (by decide) ?_
      refine q_aload rfl ?_
      obtain ⟨⟨z_28, k_28⟩, h⟩ := ite_some h
      refine q_getI (c0 := 10) (j := 10) rfl rfl z_28 (fst_eq k_28) (Or.inl rfl) (by decide) ?_
      obtain ⟨ka_31, h⟩ := ite_some h
      obtain ⟨kb_31, h⟩ := ite_some h
      obtain ⟨⟨⟨q1_31, q2_31, q3_31, q4_31, q5_31⟩, d_31⟩, h⟩ := ite_some h
      refine q_copy (Nat.le_of_ble_eq_true rfl) ka_31.1 kb_31.1 (fst_eq ka_31.2) (fst_eq kb_31.2) q1_31 q2_31 q3_31 q4_31 q5_31 (Nat.le_trans d_31 hdp) ?_
      obtain ⟨I_31, nI_31, h⟩ := stI_some h
      refine q_nI nI_31 ?_
      refine q_aload rfl ?_
      obtain ⟨⟨z_35, k_35⟩, h⟩ := ite_some h
      obtain ⟨b_35, r_35, h⟩ := Option.bind_eq_some_iff.mp h
      refine q_getRs (c0 := 10) (j := 2) rfl rfl z_35 (fst_eq k_35) rfl (by decide) r_35 ?_
      refine q_iconst (0) (by decide) ?_
      refine q_aload rfl ?_
      obtain ⟨⟨z_40, k_40⟩, h⟩ := ite_some h
      obtain ⟨b_40, r_40, h⟩ := Option.bind_eq_some_iff.mp h
      refine q_getRs (c0 := 10) (j := 2) rfl rfl z_40 (fst_eq k_40) rfl (by decide) r_40 ?_
      refine q_iconst (0) (by decide) ?_
      refine q_aload rfl ?_
      obtain ⟨⟨z_45, k_45⟩, h⟩ := ite_some h
      refine q_getI (c0 := 10) (j := 10) rfl rfl z_45 (fst_eq k_45) (Or.inl rfl) (by decide) ?_
      obtain ⟨ka_48, h⟩ := ite_some h
      obtain ⟨kb_48, h⟩ := ite_some h
      obtain ⟨⟨⟨q1_48, q2_48, q3_48, q4_48, q5_48⟩, d_48⟩, h⟩ := ite_some h
      refine q_copy (Nat.le_of_ble_eq_true rfl) ka_48.1 kb_48.1 (fst_eq ka_48.2) (fst_eq kb_48.2) q1_48 q2_48 q3_48 q4_48 q5_48 (Nat.le_trans d_48 hdp) ?_
      obtain ⟨I_48, nI_48, h⟩ := stI_some h
      refine q_nI nI_48 ?_
      refine q_aload rfl ?_
      obtain ⟨⟨z_52, k_52⟩, h⟩ := ite_some h
      obtain ⟨b_52, r_52, h⟩ := Option.bind_eq_some_iff.mp h
      refine q_getRs (c0 := 10) (j := 3) rfl rfl z_52 (fst_eq k_52) rfl (by decide) r_52 ?_
      refine q_iconst (0) (by decide) ?_
      refine q_aload rfl ?_
      obtain ⟨⟨z_57, k_57⟩, h⟩ := ite_some h
      obtain ⟨b_57, r_57, h⟩ := Option.bind_eq_some_iff.mp h
      refine q_getRs (c0 := 10) (j := 3) rfl rfl z_57 (fst_eq k_57) rfl (by decide) r_57 ?_
      refine q_iconst (0) (by decide) ?_
      refine q_aload rfl ?_
      obtain ⟨⟨z_62, k_62⟩, h⟩ := ite_some h
      refine q_getI (c0 := 10) (j := 10) rfl rfl z_62 (fst_eq k_62) (Or.inl rfl) (by decide) ?_
      obtain ⟨ka_65, h⟩ := ite_some h
      obtain ⟨kb_65, h⟩ := ite_some h
      obtain ⟨⟨⟨q1_65, q2_65, q3_65, q4_65, q5_65⟩, d_65⟩, h⟩ := ite_some h
      refine q_copy (Nat.le_of_ble_eq_true rfl) ka_65.1 kb_65.1 (fst_eq ka_65.2) (fst_eq kb_65.2) q1_65 q2_65 q3_65 q4_65 q5_65 (Nat.le_trans d_65 hdp) ?_
      obtain ⟨I_65, nI_65, h⟩ := stI_some h
      refine q_nI nI_65 ?_
      refine q_aload rfl ?_
      obtain ⟨⟨z_69, k_69⟩, h⟩ := ite_some h
      obtain ⟨b_69, r_69, h⟩ := Option.bind_eq_some_iff.mp h
      refine q_getRs (c0 := 10) (j := 4) rfl rfl z_69 (fst_eq k_69) rfl (by decide) r_69 ?_
      refine q_iconst (0) (by decide) ?_
      refine q_aload rfl ?_
      obtain ⟨⟨z_74, k_74⟩, h⟩ := ite_some h
      obtain ⟨b_74, r_74, h⟩ := Option.bind_eq_some_iff.mp h
      refine q_getRs (c0 := 10) (j := 4) rfl rfl z_74 (fst_eq k_74) rfl (by decide) r_74 ?_
      refine q_iconst (0) (by decide) ?_
      refine q_aload rfl ?_
      obtain ⟨⟨z_79, k_79⟩, h⟩ := ite_some h
      refine q_getI (c0 := 10) (j := 10) rfl rfl z_79 (fst_eq k_79) (Or.inl rfl) (by decide) ?_
      obtain ⟨ka_82, h⟩ := ite_some h
      obtain ⟨kb_82, h⟩ := ite_some h
      obtain ⟨⟨⟨q1_82, q2_82, q3_82, q4_82, q5_82⟩, d_82⟩, h⟩ := ite_some h
      refine q_copy (Nat.le_of_ble_eq_true rfl) ka_82.1 kb_82.1 (fst_eq ka_82.2) (fst_eq kb_82.2) q1_82 q2_82 q3_82 q4_82 q5_82 (Nat.le_trans d_82 hdp) ?_
      obtain ⟨I_82, nI_82, h⟩ := stI_some h
      refine q_nI nI_82 ?_
      refine q_aload rfl ?_
      obtain ⟨⟨z_86, k_86⟩, h⟩ := ite_some h
      obtain ⟨b_86, r_86, h⟩ := Option.bind_eq_some_iff.mp h
      refine q_getRs (c0 := 10) (j := 5) rfl rfl z_86 (fst_eq k_86) rfl (by decide) r_86 ?_
      refine q_iconst (0) (by decide) ?_
      refine q_aload rfl ?_
      obtain ⟨⟨z_91, k_91⟩, h⟩ := ite_some h
      obtain ⟨b_91, r_91, h⟩ := Option.bind_eq_some_iff.mp h
      refine q_getRs (c0 := 10) (j := 5) rfl rfl z_91 (fst_eq k_91) rfl (by decide) r_91 ?_
      refine q_iconst (0) (by decide) ?_
      refine q_aload rfl ?_
      obtain ⟨⟨z_96, k_96⟩, h⟩ := ite_some h
      refine q_getI (c0 := 10) (j := 11) rfl rfl z_96 (fst_eq k_96) (Or.inl rfl) (by decide) ?_
      obtain ⟨ka_99, h⟩ := ite_some h
      obtain ⟨kb_99, h⟩ := ite_some h
      obtain ⟨⟨⟨q1_99, q2_99, q3_99, q4_99, q5_99⟩, d_99⟩, h⟩ := ite_some h
      refine q_copy (Nat.le_of_ble_eq_true rfl) ka_99.1 kb_99.1 (fst_eq ka_99.2) (fst_eq kb_99.2) q1_99 q2_99 q3_99 q4_99 q5_99 (Nat.le_trans d_99 hdp) ?_
      obtain ⟨I_99, nI_99, h⟩ := stI_some h
      refine q_nI nI_99 ?_
      refine q_aload rfl ?_
      obtain ⟨⟨z_103, k_103⟩, h⟩ := ite_some h
      obtain ⟨b_103, r_103, h⟩ := Option.bind_eq_some_iff.mp h
      refine q_getRs (c0 := 10) (j := 6) rfl rfl z_103 (fst_eq k_103) rfl (by decide) r_103 ?_
      refine q_iconst (0) (by decide) ?_
      refine q_aload rfl ?_
      obtain ⟨⟨z_108, k_108⟩, h⟩ := ite_some h
      obtain ⟨b_108, r_108, h⟩ := Option.bind_eq_some_iff.mp h
      refine q_getRs (c0 := 10) (j := 6) rfl rfl z_108 (fst_eq k_108) rfl (by decide) r_108 ?_
      refine q_iconst (0) (by decide) ?_
      refine q_aload rfl ?_
      obtain ⟨⟨z_113, k_113⟩, h⟩ := ite_some h
      refine q_getI (c0 := 10) (j := 11) rfl rfl z_113 (fst_eq k_113) (Or.inl rfl) (by decide) ?_
      obtain ⟨ka_116, h⟩ := ite_some h
      obtain ⟨kb_116, h⟩ := ite_some h
      obtain ⟨⟨⟨q1_116, q2_116, q3_116, q4_116, q5_116⟩, d_116⟩, h⟩ := ite_some h
      refine q_copy (Nat.le_of_ble_eq_true rfl) ka_116.1 kb_116.1 (fst_eq ka_116.2) (fst_eq kb_116.2) q1_116 q2_116 q3_116 q4_116 q5_116 (Nat.le_trans d_116 hdp) ?_
      obtain ⟨I_116, nI_116, h⟩ := stI_some h
      refine q_nI nI_116 ?_
      refine q_aload rfl ?_
      obtain ⟨⟨z_120, k_120⟩, h⟩ := ite_some h
      obtain ⟨b_120, r_120, h⟩ := Option.bind_eq_some_iff.mp h
      refine q_getRs (c0 := 10) (j := 7) rfl rfl z_120 (fst_eq k_120) rfl (by decide) r_120 ?_
      refine q_iconst (0) (by decide) ?_
      refine q_aload rfl ?_
      obtain ⟨⟨z_125, k_125⟩, h⟩ := ite_some h
      obtain ⟨b_125, r_125, h⟩ := Option.bind_eq_some_iff.mp h
      refine q_getRs (c0 := 10) (j := 7) rfl rfl z_125 (fst_eq k_125) rfl (by decide) r_125 ?_
      refine q_iconst (0) (by decide) ?_
      refine q_aload rfl ?_
      obtain ⟨⟨z_130, k_130⟩, h⟩ := ite_some h
      obtain ⟨b_130, r_130, h⟩ := Option.bind_eq_some_iff.mp h
      refine q_getRs (c0 := 10) (j := 7) rfl rfl z_130 (fst_eq k_130) rfl (by decide) r_130 ?_
      obtain ⟨⟨z_133, k_133⟩, h⟩ := ite_some h
      refine q_alen z_133 (fst_eq k_133) (by decide) (by decide) ?_
      obtain ⟨ka_134, h⟩ := ite_some h
      obtain ⟨kb_134, h⟩ := ite_some h
      obtain ⟨⟨⟨q1_134, q2_134, q3_134, q4_134, q5_134⟩, d_134⟩, h⟩ := ite_some h
      refine q_copy (Nat.le_of_ble_eq_true rfl) ka_134.1 kb_134.1 (fst_eq ka_134.2) (fst_eq kb_134.2) q1_134 q2_134 q3_134 q4_134 q5_134 (Nat.le_trans d_134 hdp) ?_
      obtain ⟨I_134, nI_134, h⟩ := stI_some h
      refine q_nI nI_134 ?_
      refine q_aload rfl ?_
      obtain ⟨⟨z_138, k_138⟩, h⟩ := ite_some h
      obtain ⟨b_138, r_138, h⟩ := Option.bind_eq_some_iff.mp h
      refine q_getRs (c0 := 10) (j := 8) rfl rfl z_138 (fst_eq k_138) rfl (by decide) r_138 ?_
      refine q_iconst (0) (by decide) ?_
      refine q_aload rfl ?_
      obtain ⟨⟨z_143, k_143⟩, h⟩ := ite_some h
      obtain ⟨b_143, r_143, h⟩ := Option.bind_eq_some_iff.mp h
      refine q_getRs (c0 := 10) (j := 8) rfl rfl z_143 (fst_eq k_143) rfl (by decide) r_143 ?_
      refine q_iconst (0) (by decide) ?_
      refine q_aload rfl ?_
      obtain ⟨⟨z_148, k_148⟩, h⟩ := ite_some h
      refine q_getI (c0 := 10) (j := 12) rfl rfl z_148 (fst_eq k_148) (Or.inl rfl) (by decide) ?_
      obtain ⟨ka_151, h⟩ := ite_some h
      obtain ⟨kb_151, h⟩ := ite_some h
      obtain ⟨⟨⟨q1_151, q2_151, q3_151, q4_151, q5_151⟩, d_151⟩, h⟩ := ite_some h
      refine q_copy (Nat.le_of_ble_eq_true rfl) ka_151.1 kb_151.1 (fst_eq ka_151.2) (fst_eq kb_151.2) q1_151 q2_151 q3_151 q4_151 q5_151 (Nat.le_trans d_151 hdp) ?_
      obtain ⟨I_151, nI_151, h⟩ := stI_some h
      refine q_nI nI_151 ?_
      refine q_aload rfl ?_
      obtain ⟨⟨z_155, k_155⟩, h⟩ := ite_some h
      obtain ⟨b_155, r_155, h⟩ := Option.bind_eq_some_iff.mp h
      refine q_getRs (c0 := 10) (j := 9) rfl rfl z_155 (fst_eq k_155) rfl (by decide) r_155 ?_
      refine q_iconst (0) (by decide) ?_
      refine q_aload rfl ?_
      obtain ⟨⟨z_160, k_160⟩, h⟩ := ite_some h
      obtain ⟨b_160, r_160, h⟩ := Option.bind_eq_some_iff.mp h
      refine q_getRs (c0 := 10) (j := 9) rfl rfl z_160 (fst_eq k_160) rfl (by decide) r_160 ?_
      refine q_iconst (0) (by decide) ?_
      refine q_aload rfl ?_
      obtain ⟨⟨z_165, k_165⟩, h⟩ := ite_some h
      refine q_getI (c0 := 10) (j := 12) rfl rfl z_165 (fst_eq k_165) (Or.inl rfl) (by decide) ?_
      obtain ⟨ka_168, h⟩ := ite_some h
      obtain ⟨kb_168, h⟩ := ite_some h
      obtain ⟨⟨⟨q1_168, q2_168, q3_168, q4_168, q5_168⟩, d_168⟩, h⟩ := ite_some h
      refine q_copy (Nat.le_of_ble_eq_true rfl) ka_168.1 kb_168.1 (fst_eq ka_168.2) (fst_eq kb_168.2) q1_168 q2_168 q3_168 q4_168 q5_168 (Nat.le_trans d_168 hdp) ?_
      obtain ⟨I_168, nI_168, h⟩ := stI_some h
      refine q_nI nI_168 ?_
      refine q_aload rfl ?_
      refine q_aload rfl ?_
      obtain ⟨⟨z_173, k_173⟩, h⟩ := ite_some h
      refine q_getI (c0 := 10) (j := 10) rfl rfl z_173 (fst_eq k_173) (Or.inl rfl) (by decide) ?_
      obtain ⟨⟨z_176, k_176⟩, h⟩ := ite_some h
      refine q_putI (c0 := 10) (j := 10) rfl rfl z_176 (fst_eq k_176) rfl ?_
      obtain ⟨I_176, nI_176, h⟩ := stI_some h
      refine q_nI nI_176 ?_
      refine q_aload rfl ?_
      refine q_aload rfl ?_
      obtain ⟨⟨z_181, k_181⟩, h⟩ := ite_some h
      refine q_getI (c0 := 10) (j := 11) rfl rfl z_181 (fst_eq k_181) (Or.inl rfl) (by decide) ?_
      obtain ⟨⟨z_184, k_184⟩, h⟩ := ite_some h
      refine q_putI (c0 := 10) (j := 11) rfl rfl z_184 (fst_eq k_184) rfl ?_
      obtain ⟨I_184, nI_184, h⟩ := stI_some h
      refine q_nI nI_184 ?_
      refine q_aload rfl ?_
      refine q_aload rfl ?_
      obtain ⟨⟨z_189, k_189⟩, h⟩ := ite_some h
      refine q_getI (c0 := 10) (j := 12) rfl rfl z_189 (fst_eq k_189) (Or.inl rfl) (by decide) ?_
      obtain ⟨⟨z_192, k_192⟩, h⟩ := ite_some h
      refine q_putI (c0 := 10) (j := 12) rfl rfl z_192 (fst_eq k_192) rfl ?_
      obtain ⟨I_192, nI_192, h⟩ := stI_some h
      refine q_nI nI_192 ?_
      refine q_aload rfl ?_
      refine q_aload rfl ?_
      obtain ⟨⟨z_197, k_197⟩, h⟩ := ite_some h
      refine q_getI (c0 := 10) (j := 13) rfl rfl z_197 (fst_eq k_197) (Or.inl rfl) (by decide) ?_
      obtain ⟨⟨z_200, k_200⟩, h⟩ := ite_some h
      refine q_putI (c0 := 10) (j := 13) rfl rfl z_200 (fst_eq k_200) rfl ?_
      obtain ⟨I_200, nI_200, h⟩ := stI_some h
      refine q_nI nI_200 ?_
      cases h
      exact q_vret rfl (Nat.le_refl _) (Nat.le_refl _) rfl
theorem a_186 (X : GX) {z : Nat} {kd : Nat → Nat × Nat} {Rf : Nat → Nat → Option Nat} (hS : Sh z kd Rf) {n dp d : Nat} (hd : dp ≤ d) {I : (Nat → Nat → Int32)} {L : (Nat → Nat → Int64)} {a0 : Nat} {a1 : Nat} {I1 : (Nat → Nat → Int32)} {L1 : (Nat → Nat → Int64)} (h : g_186 n dp (z, kd, Rf) 0 I L a0 a1 = some (I1, L1)) : Ct X d 186 0 0 [.ref a0, .ref a1] (z, kd, I, L, Rf) (AV (fun τ => τ = (z, kd, I1, L1, Rf))) :=
  Ct_of mu_186 (Nat.le_of_ble_eq_true rfl) ((w_186 X hS n dp d hd I L a0 a1 _ _) h)

