/-! 247 CutFloorModel.isSo(I)Z -/
set_option maxHeartbeats 4000000 in
set_option maxRecDepth 100000 in
def g_247 : Nat → Nat → EN → Nat → (Nat → Nat → Int32) → (Nat → Nat → Int64) → Int32 →  Option (Int32 × (Nat → Nat → Int32) × (Nat → Nat → Int64))
  | 0, _, _, _, _, _, _ => none
  | n + 1, dp, e, lab, I, L, i1 =>
    if lab = 0 then (if 0 ≤ (i1 + (5 : Int32)) ∧ (Int32.toNatClampNeg (i1 + (5 : Int32))) < 1570 then (if 0 ≤ (i1 + (6 : Int32)) ∧ (Int32.toNatClampNeg (i1 + (6 : Int32))) < 1570 then (if (I 107 (Int32.toNatClampNeg (i1 + (6 : Int32)))) ≤ (I 107 (Int32.toNatClampNeg (i1 + (5 : Int32)))) then (g_247 n dp e 1 I L i1) else (if 0 ≤ (i1 + (5 : Int32)) ∧ (Int32.toNatClampNeg (i1 + (5 : Int32))) < 1570 then (if 0 ≤ (i1 + (6 : Int32)) ∧ (Int32.toNatClampNeg (i1 + (6 : Int32))) < 1570 then (if 1 ≤ dp then (g_248 n (dp - 1) e 0 I L (I 107 (Int32.toNatClampNeg (i1 + (5 : Int32)))) (I 107 (Int32.toNatClampNeg (i1 + (6 : Int32)))) 0 0 0 0).bind (fun ⟨I0_38, L0_38⟩ => (if (I0_38 105 29) = 0 then (if (lg_cmp (L0_38 105 30) (0 : Int64)) = 0 then (some ((0 : Int32), I0_38, L0_38)) else (g_247 n dp e 1 I0_38 L0_38 i1)) else (some ((0 : Int32), I0_38, L0_38)))) else none) else none) else none)) else none) else none)
    else if lab = 1 then (if 0 ≤ i1 ∧ (Int32.toNatClampNeg i1) < 1570 then (if (I 107 (Int32.toNatClampNeg i1)) = (2 : Int32) then (some ((1 : Int32), I, L)) else (if 0 ≤ (i1 + (3 : Int32)) ∧ (Int32.toNatClampNeg (i1 + (3 : Int32))) < 1570 then (if 0 ≤ (i1 + (4 : Int32)) ∧ (Int32.toNatClampNeg (i1 + (4 : Int32))) < 1570 then (if 1 ≤ dp then (g_248 n (dp - 1) e 0 I L (I 107 (Int32.toNatClampNeg (i1 + (3 : Int32)))) (I 107 (Int32.toNatClampNeg (i1 + (4 : Int32)))) 0 0 0 0).bind (fun ⟨I0_86, L0_86⟩ => (stI (u2 L0_86 105 31 (L0_86 105 30)) (fun L_94 => (if (I0_86 105 29) = 0 then (some ((1 : Int32), I0_86, L_94)) else (some ((0 : Int32), I0_86, L_94)))))) else none) else none) else none)) else none)
    else none
set_option maxRecDepth 100000 in
theorem e_247_0 (n dp : Nat) (e : EN) (I : (Nat → Nat → Int32)) (L : (Nat → Nat → Int64)) (i1 : Int32) : g_247 (n + 1) dp e 0 I L i1 = (if 0 ≤ (i1 + (5 : Int32)) ∧ (Int32.toNatClampNeg (i1 + (5 : Int32))) < 1570 then (if 0 ≤ (i1 + (6 : Int32)) ∧ (Int32.toNatClampNeg (i1 + (6 : Int32))) < 1570 then (if (I 107 (Int32.toNatClampNeg (i1 + (6 : Int32)))) ≤ (I 107 (Int32.toNatClampNeg (i1 + (5 : Int32)))) then (g_247 n dp e 1 I L i1) else (if 0 ≤ (i1 + (5 : Int32)) ∧ (Int32.toNatClampNeg (i1 + (5 : Int32))) < 1570 then (if 0 ≤ (i1 + (6 : Int32)) ∧ (Int32.toNatClampNeg (i1 + (6 : Int32))) < 1570 then (if 1 ≤ dp then (g_248 n (dp - 1) e 0 I L (I 107 (Int32.toNatClampNeg (i1 + (5 : Int32)))) (I 107 (Int32.toNatClampNeg (i1 + (6 : Int32)))) 0 0 0 0).bind (fun ⟨I0_38, L0_38⟩ => (if (I0_38 105 29) = 0 then (if (lg_cmp (L0_38 105 30) (0 : Int64)) = 0 then (some ((0 : Int32), I0_38, L0_38)) else (g_247 n dp e 1 I0_38 L0_38 i1)) else (some ((0 : Int32), I0_38, L0_38)))) else none) else none) else none)) else none) else none) := by rw [g_247.eq_2, if_pos (show (0 : Nat) = 0 from rfl)]
set_option maxRecDepth 100000 in
theorem e_247_1 (n dp : Nat) (e : EN) (I : (Nat → Nat → Int32)) (L : (Nat → Nat → Int64)) (i1 : Int32) : g_247 (n + 1) dp e 1 I L i1 = (if 0 ≤ i1 ∧ (Int32.toNatClampNeg i1) < 1570 then (if (I 107 (Int32.toNatClampNeg i1)) = (2 : Int32) then (some ((1 : Int32), I, L)) else (if 0 ≤ (i1 + (3 : Int32)) ∧ (Int32.toNatClampNeg (i1 + (3 : Int32))) < 1570 then (if 0 ≤ (i1 + (4 : Int32)) ∧ (Int32.toNatClampNeg (i1 + (4 : Int32))) < 1570 then (if 1 ≤ dp then (g_248 n (dp - 1) e 0 I L (I 107 (Int32.toNatClampNeg (i1 + (3 : Int32)))) (I 107 (Int32.toNatClampNeg (i1 + (4 : Int32)))) 0 0 0 0).bind (fun ⟨I0_86, L0_86⟩ => (stI (u2 L0_86 105 31 (L0_86 105 30)) (fun L_94 => (if (I0_86 105 29) = 0 then (some ((1 : Int32), I0_86, L_94)) else (some ((0 : Int32), I0_86, L_94)))))) else none) else none) else none)) else none) := by rw [g_247.eq_2, if_neg (show ¬ ((1 : Nat) = 0) by decide), if_pos (show (1 : Nat) = 1 from rfl)]
set_option maxHeartbeats 8000000 in
set_option maxRecDepth 100000 in
theorem w_247 (X : GX) {z : Nat} {kd : Nat → Nat × Nat} {Rf : Nat → Nat → Option Nat} (hS : Sh z kd Rf) : ∀ (n dp d : Nat), dp ≤ d → ∀ (I : (Nat → Nat → Int32)) (L : (Nat → Nat → Int64)) (i1 : Int32) (r : Int32) (I1 : (Nat → Nat → Int32)) (L1 : (Nat → Nat → Int64)), (g_247 n dp (z, kd, Rf) 0 I L i1 = some (r, I1, L1) → K X d 247 0 0 (AI (fun x τ => x = r ∧ τ = (z, kd, I1, L1, Rf))) 0 [some (.ref 105), some (.int i1)] [] (z, kd, I, L, Rf) 0 0) ∧
    (g_247 n dp (z, kd, Rf) 1 I L i1 = some (r, I1, L1) → K X d 247 0 0 (AI (fun x τ => x = r ∧ τ = (z, kd, I1, L1, Rf))) 59 [some (.ref 105), some (.int i1)] [] (z, kd, I, L, Rf) 0 0) := by
  intro n
  induction n with
  | zero => intro dp d hdp I L i1 r I1 L1; exact ⟨(fun h => by cases h), (fun h => by cases h)⟩
  | succ n ih =>
    intro dp d hdp I L i1 r I1 L1
    refine ⟨?_, ?_⟩
    · intro h
      rw [e_247_0] at h
      refine K_of b_247_0 h_247_0 ?_
      refine q_aload rfl ?_
      refine q_getRs (c0 := 12) (j := 3) rfl rfl (zl hS 105 (by decide)) (sk hS 105 (by decide) rfl) rfl (by decide) (r_105_3 hS) ?_
      refine q_iload rfl ?_
      refine q_iconst (5) (by decide) ?_
      refine q_iadd ?_
      obtain ⟨⟨u_7, v_7⟩, h⟩ := ite_some h
      refine q_ialN (Int32.toNatClampNeg (i1 + (5 : Int32))) (nx u_7) (zl hS 107 (by decide)) (sk hS 107 (by decide) rfl) v_7 (by decide) ?_
      refine q_aload rfl ?_
      refine q_getRs (c0 := 12) (j := 3) rfl rfl (zl hS 105 (by decide)) (sk hS 105 (by decide) rfl) rfl (by decide) (r_105_3 hS) ?_
      refine q_iload rfl ?_
      refine q_iconst (6) (by decide) ?_
      refine q_iadd ?_
      obtain ⟨⟨u_16, v_16⟩, h⟩ := ite_some h
      refine q_ialN (Int32.toNatClampNeg (i1 + (6 : Int32))) (nx u_16) (zl hS 107 (by decide)) (sk hS 107 (by decide) rfl) v_16 (by decide) ?_
      refine q_icmp_ge (fun c_17 => ?_) (fun c_17 => ?_)
      · rw [if_pos c_17] at h
        exact (ih dp d hdp _ _ i1 _ _ _).2 h
      · rw [if_neg c_17] at h
        refine q_aload rfl ?_
        refine q_aload rfl ?_
        refine q_getRs (c0 := 12) (j := 3) rfl rfl (zl hS 105 (by decide)) (sk hS 105 (by decide) rfl) rfl (by decide) (r_105_3 hS) ?_
        refine q_iload rfl ?_
        refine q_iconst (5) (by decide) ?_
        refine q_iadd ?_
        obtain ⟨⟨u_28, v_28⟩, h⟩ := ite_some h
        refine q_ialN (Int32.toNatClampNeg (i1 + (5 : Int32))) (nx u_28) (zl hS 107 (by decide)) (sk hS 107 (by decide) rfl) v_28 (by decide) ?_
        refine q_aload rfl ?_
        refine q_getRs (c0 := 12) (j := 3) rfl rfl (zl hS 105 (by decide)) (sk hS 105 (by decide) rfl) rfl (by decide) (r_105_3 hS) ?_
        refine q_iload rfl ?_
        refine q_iconst (6) (by decide) ?_
        refine q_iadd ?_
        obtain ⟨⟨u_37, v_37⟩, h⟩ := ite_some h
        refine q_ialN (Int32.toNatClampNeg (i1 + (6 : Int32))) (nx u_37) (zl hS 107 (by decide)) (sk hS 107 (by decide) rfl) v_37 (by decide) ?_
        obtain ⟨d_38, h⟩ := ite_some h
        obtain ⟨⟨I0_38, L0_38⟩, e_38, h⟩ := Option.bind_eq_some_iff.mp h
        dsimp only at h
        refine q_fv3V (a_248 X hS (d := d - 1) (by omega) e_38) (by omega) (Nat.le_refl _) (Nat.le_refl _) rfl (Nat.le_of_ble_eq_true rfl) ⟨(zl hS 105 (by decide)), congrArg Prod.fst (sk hS 105 (by decide) rfl), by decide⟩ ?_
        refine q_aload rfl ?_
        refine q_getI (c0 := 12) (j := 29) rfl rfl (zl hS 105 (by decide)) (sk hS 105 (by decide) rfl) (Or.inr rfl) (by decide) ?_
        refine q_if_ne (fun c_45 => ?_) (fun c_45 => ?_)
        · rw [if_neg c_45] at h
          refine K_of b_247_57 h_247_57 ?_
          refine q_iconst (0) (by decide) ?_
          cases h
          exact q_iret rfl (Nat.le_refl _) (Nat.le_refl _) ⟨rfl, rfl⟩
        · rw [if_pos c_45] at h
          refine q_aload rfl ?_
          refine q_getL (c0 := 12) (j := 30) rfl rfl (zl hS 105 (by decide)) (sk hS 105 (by decide) rfl) rfl (by decide) ?_
          refine q_lconst (0) (by decide) ?_
          refine q_lcmp ?_
          refine q_if_ne (fun c_54 => ?_) (fun c_54 => ?_)
          · rw [if_neg c_54] at h
            exact (ih dp d hdp _ _ i1 _ _ _).2 h
          · rw [if_pos c_54] at h
            refine q_end ?_
            refine K_of b_247_57 h_247_57 ?_
            refine q_iconst (0) (by decide) ?_
            cases h
            exact q_iret rfl (Nat.le_refl _) (Nat.le_refl _) ⟨rfl, rfl⟩
    · intro h
      rw [e_247_1] at h
      refine K_of b_247_59 h_247_59 ?_
      refine q_aload rfl ?_
      refine q_getRs (c0 := 12) (j := 3) rfl rfl (zl hS 105 (by decide)) (sk hS 105 (by decide) rfl) rfl (by decide) (r_105_3 hS) ?_
      refine q_iload rfl ?_
      obtain ⟨⟨u_64, v_64⟩, h⟩ := ite_some h
      refine q_ialN (Int32.toNatClampNeg i1) (nx u_64) (zl hS 107 (by decide)) (sk hS 107 (by decide) rfl) v_64 (by decide) ?_
      refine q_iconst (2) (by decide) ?_
      refine q_icmp_eq (fun c_66 => ?_) (fun c_66 => ?_)
      · rw [if_pos c_66] at h
        refine K_of b_247_110 h_247_110 ?_
        refine q_iconst (1) (by decide) ?_
        cases h
        exact q_iret rfl (Nat.le_refl _) (Nat.le_refl _) ⟨rfl, rfl⟩
      · rw [if_neg c_66] at h
        refine q_aload rfl ?_
        refine q_aload rfl ?_
        refine q_getRs (c0 := 12) (j := 3) rfl rfl (zl hS 105 (by decide)) (sk hS 105 (by decide) rfl) rfl (by decide) (r_105_3 hS) ?_
        refine q_iload rfl ?_
        refine q_iconst (3) (by decide) ?_
        refine q_iadd ?_
        obtain ⟨⟨u_77, v_77⟩, h⟩ := ite_some h
        refine q_ialN (Int32.toNatClampNeg (i1 + (3 : Int32))) (nx u_77) (zl hS 107 (by decide)) (sk hS 107 (by decide) rfl) v_77 (by decide) ?_
        refine q_aload rfl ?_
        refine q_getRs (c0 := 12) (j := 3) rfl rfl (zl hS 105 (by decide)) (sk hS 105 (by decide) rfl) rfl (by decide) (r_105_3 hS) ?_
        refine q_iload rfl ?_
        refine q_iconst (4) (by decide) ?_
        refine q_iadd ?_
        obtain ⟨⟨u_85, v_85⟩, h⟩ := ite_some h
        refine q_ialN (Int32.toNatClampNeg (i1 + (4 : Int32))) (nx u_85) (zl hS 107 (by decide)) (sk hS 107 (by decide) rfl) v_85 (by decide) ?_
        obtain ⟨d_86, h⟩ := ite_some h
        obtain ⟨⟨I0_86, L0_86⟩, e_86, h⟩ := Option.bind_eq_some_iff.mp h
        dsimp only at h
        refine q_fv3V (a_248 X hS (d := d - 1) (by omega) e_86) (by omega) (Nat.le_refl _) (Nat.le_refl _) rfl (Nat.le_of_ble_eq_true rfl) ⟨(zl hS 105 (by decide)), congrArg Prod.fst (sk hS 105 (by decide) rfl), by decide⟩ ?_
        refine q_aload rfl ?_
        refine q_aload rfl ?_
        refine q_getL (c0 := 12) (j := 30) rfl rfl (zl hS 105 (by decide)) (sk hS 105 (by decide) rfl) rfl (by decide) ?_
        refine q_putL (c0 := 12) (j := 31) rfl rfl (zl hS 105 (by decide)) (sk hS 105 (by decide) rfl) rfl ?_
        obtain ⟨L_94, nL_94, h⟩ := stI_some h
        refine q_nL nL_94 ?_
        refine q_aload rfl ?_
        refine q_getI (c0 := 12) (j := 29) rfl rfl (zl hS 105 (by decide)) (sk hS 105 (by decide) rfl) (Or.inr rfl) (by decide) ?_
        refine q_if_ne (fun c_101 => ?_) (fun c_101 => ?_)
        · rw [if_neg c_101] at h
          refine K_of b_247_108 h_247_108 ?_
          refine q_iconst (0) (by decide) ?_
          refine q_end ?_
          refine K_of b_247_109 h_247_109 ?_
          cases h
          exact q_iret rfl (Nat.le_refl _) (Nat.le_refl _) ⟨rfl, rfl⟩
        · rw [if_pos c_101] at h
          refine q_iconst (1) (by decide) ?_
          refine q_goto ?_
          refine K_of b_247_109 h_247_109 ?_
          cases h
          exact q_iret rfl (Nat.le_refl _) (Nat.le_refl _) ⟨rfl, rfl⟩
theorem a_247 (X : GX) {z : Nat} {kd : Nat → Nat × Nat} {Rf : Nat → Nat → Option Nat} (hS : Sh z kd Rf) {n dp d : Nat} (hd : dp ≤ d) {I : (Nat → Nat → Int32)} {L : (Nat → Nat → Int64)} {i1 : Int32} {I1 : (Nat → Nat → Int32)} {L1 : (Nat → Nat → Int64)} {r : Int32} (h : g_247 n dp (z, kd, Rf) 0 I L i1 = some (r, I1, L1)) : Ct X d 247 0 0 [.ref 105, .int i1] (z, kd, I, L, Rf) (AI (fun x τ => x = r ∧ τ = (z, kd, I1, L1, Rf))) :=
  Ct_of mu_247 (Nat.le_of_ble_eq_true rfl) ((w_247 X hS n dp d hd I L i1 _ _ _).1 h)

/-! 246 CutFloorModel.tells(IIIII)I -/
set_option maxHeartbeats 4000000 in
set_option maxRecDepth 100000 in
def g_246 : Nat → Nat → EN → Nat → (Nat → Nat → Int32) → (Nat → Nat → Int64) → Int32 → Int32 → Int32 → Int32 → Int32 → Int32 → Int32 → Int32 → Int64 →  Option (Int32 × (Nat → Nat → Int32) × (Nat → Nat → Int64))
  | 0, _, _, _, _, _, _, _, _, _, _, _, _, _, _ => none
  | n + 1, dp, e, lab, I, L, i1, i2, i3, i4, i5, i8, i9, i10, j6 =>
    if lab = 0 then (stI (u2 L 118 1 (Int32.toInt64 i3)) (fun L_7 => (if 1 ≤ dp then (g_240 n (dp - 1) e 0 I L_7 i2).bind (fun ⟨x0_15, I0_15, L0_15⟩ => (stI (u2 L0_15 118 2 (Int32.toInt64 x0_15)) (fun L_19 => (stI (u2 L_19 118 3 (Int32.toInt64 i2)) (fun L_27 => (stI (u2 L_27 118 4 (Int32.toInt64 (I0_15 107 4))) (fun L_40 => (if 1 ≤ dp then (g_240 n (dp - 1) e 0 I0_15 L_40 i2).bind (fun ⟨x1_49, I1_49, L1_49⟩ => (if 1 ≤ dp then (g_244 n (dp - 1) e 0 I1_49 L1_49 x1_49 i3).bind (fun ⟨x2_53, I2_53, L2_53⟩ => (stI (u2 L2_53 118 5 (Int32.toInt64 x2_53)) (fun L_57 => (g_246 n dp e 1 I2_53 L_57 i1 i2 i3 i4 i5 (0 : Int32) 0 0 (Int32.toInt64 i4))))) else none)) else none)))))))) else none)))
    else if lab = 1 then (if (I 107 471) ≤ i8 then (if 0 ≤ (lg_cmp j6 (0 : Int64)) then (if (lg_cmp j6 (Int32.toInt64 i5)) ≤ 0 then (some ((Int64.toInt32 j6), I, L)) else (some (i5, I, L))) else (some ((0 : Int32), I, L))) else (stI ((472 : Int32) + ((8 : Int32) * i8)) (fun v_88 => (if 0 ≤ v_88 ∧ (Int32.toNatClampNeg v_88) < 1570 then (if (I 107 (Int32.toNatClampNeg v_88)) = i1 then (if i1 = (2 : Int32) then (if 0 ≤ (v_88 + (1 : Int32)) ∧ (Int32.toNatClampNeg (v_88 + (1 : Int32))) < 1570 then (if (I 107 (Int32.toNatClampNeg (v_88 + (1 : Int32)))) = i2 then (g_246 n dp e 2 I L i1 i2 i3 i4 i5 i8 v_88 0 j6) else (g_246 n dp e 3 I L i1 i2 i3 i4 i5 i8 v_88 0 j6)) else none) else (g_246 n dp e 2 I L i1 i2 i3 i4 i5 i8 v_88 0 j6)) else (g_246 n dp e 3 I L i1 i2 i3 i4 i5 i8 v_88 0 j6)) else none))))
    else if lab = 2 then (if (1 : Int32) = 0 then (g_246 n dp e 4 I L i1 i2 i3 i4 i5 i8 i9 (1 : Int32) j6) else (if 1 ≤ dp then (g_247 n (dp - 1) e 0 I L i9).bind (fun ⟨x0_134, I0_134, L0_134⟩ => (if x0_134 = 0 then (g_246 n dp e 4 I0_134 L0_134 i1 i2 i3 i4 i5 i8 i9 (1 : Int32) j6) else (if i1 = (2 : Int32) then (g_246 n dp e 4 I0_134 L0_134 i1 i2 i3 i4 i5 i8 i9 (1 : Int32) (1 : Int64)) else (g_246 n dp e 4 I0_134 L0_134 i1 i2 i3 i4 i5 i8 i9 (1 : Int32) (L0_134 105 31))))) else none))
    else if lab = 3 then (if (0 : Int32) = 0 then (g_246 n dp e 4 I L i1 i2 i3 i4 i5 i8 i9 (0 : Int32) j6) else (if 1 ≤ dp then (g_247 n (dp - 1) e 0 I L i9).bind (fun ⟨x0_134, I0_134, L0_134⟩ => (if x0_134 = 0 then (g_246 n dp e 4 I0_134 L0_134 i1 i2 i3 i4 i5 i8 i9 (0 : Int32) j6) else (if i1 = (2 : Int32) then (g_246 n dp e 4 I0_134 L0_134 i1 i2 i3 i4 i5 i8 i9 (0 : Int32) (1 : Int64)) else (g_246 n dp e 4 I0_134 L0_134 i1 i2 i3 i4 i5 i8 i9 (0 : Int32) (L0_134 105 31))))) else none))
    else if lab = 4 then (g_246 n dp e 1 I L i1 i2 i3 i4 i5 (i8 + Int32.ofInt (1)) 0 0 j6)
    else none
set_option maxRecDepth 100000 in
theorem e_246_0 (n dp : Nat) (e : EN) (I : (Nat → Nat → Int32)) (L : (Nat → Nat → Int64)) (i1 : Int32) (i2 : Int32) (i3 : Int32) (i4 : Int32) (i5 : Int32) (i8 : Int32) (i9 : Int32) (i10 : Int32) (j6 : Int64) : g_246 (n + 1) dp e 0 I L i1 i2 i3 i4 i5 i8 i9 i10 j6 = (stI (u2 L 118 1 (Int32.toInt64 i3)) (fun L_7 => (if 1 ≤ dp then (g_240 n (dp - 1) e 0 I L_7 i2).bind (fun ⟨x0_15, I0_15, L0_15⟩ => (stI (u2 L0_15 118 2 (Int32.toInt64 x0_15)) (fun L_19 => (stI (u2 L_19 118 3 (Int32.toInt64 i2)) (fun L_27 => (stI (u2 L_27 118 4 (Int32.toInt64 (I0_15 107 4))) (fun L_40 => (if 1 ≤ dp then (g_240 n (dp - 1) e 0 I0_15 L_40 i2).bind (fun ⟨x1_49, I1_49, L1_49⟩ => (if 1 ≤ dp then (g_244 n (dp - 1) e 0 I1_49 L1_49 x1_49 i3).bind (fun ⟨x2_53, I2_53, L2_53⟩ => (stI (u2 L2_53 118 5 (Int32.toInt64 x2_53)) (fun L_57 => (g_246 n dp e 1 I2_53 L_57 i1 i2 i3 i4 i5 (0 : Int32) 0 0 (Int32.toInt64 i4))))) else none)) else none)))))))) else none))) := by rw [g_246.eq_2, if_pos (show (0 : Nat) = 0 from rfl)]
set_option maxRecDepth 100000 in
theorem e_246_1 (n dp : Nat) (e : EN) (I : (Nat → Nat → Int32)) (L : (Nat → Nat → Int64)) (i1 : Int32) (i2 : Int32) (i3 : Int32) (i4 : Int32) (i5 : Int32) (i8 : Int32) (i9 : Int32) (i10 : Int32) (j6 : Int64) : g_246 (n + 1) dp e 1 I L i1 i2 i3 i4 i5 i8 i9 i10 j6 = (if (I 107 471) ≤ i8 then (if 0 ≤ (lg_cmp j6 (0 : Int64)) then (if (lg_cmp j6 (Int32.toInt64 i5)) ≤ 0 then (some ((Int64.toInt32 j6), I, L)) else (some (i5, I, L))) else (some ((0 : Int32), I, L))) else (stI ((472 : Int32) + ((8 : Int32) * i8)) (fun v_88 => (if 0 ≤ v_88 ∧ (Int32.toNatClampNeg v_88) < 1570 then (if (I 107 (Int32.toNatClampNeg v_88)) = i1 then (if i1 = (2 : Int32) then (if 0 ≤ (v_88 + (1 : Int32)) ∧ (Int32.toNatClampNeg (v_88 + (1 : Int32))) < 1570 then (if (I 107 (Int32.toNatClampNeg (v_88 + (1 : Int32)))) = i2 then (g_246 n dp e 2 I L i1 i2 i3 i4 i5 i8 v_88 0 j6) else (g_246 n dp e 3 I L i1 i2 i3 i4 i5 i8 v_88 0 j6)) else none) else (g_246 n dp e 2 I L i1 i2 i3 i4 i5 i8 v_88 0 j6)) else (g_246 n dp e 3 I L i1 i2 i3 i4 i5 i8 v_88 0 j6)) else none)))) := by rw [g_246.eq_2, if_neg (show ¬ ((1 : Nat) = 0) by decide), if_pos (show (1 : Nat) = 1 from rfl)]
set_option maxRecDepth 100000 in
theorem e_246_2 (n dp : Nat) (e : EN) (I : (Nat → Nat → Int32)) (L : (Nat → Nat → Int64)) (i1 : Int32) (i2 : Int32) (i3 : Int32) (i4 : Int32) (i5 : Int32) (i8 : Int32) (i9 : Int32) (i10 : Int32) (j6 : Int64) : g_246 (n + 1) dp e 2 I L i1 i2 i3 i4 i5 i8 i9 i10 j6 = (if (1 : Int32) = 0 then (g_246 n dp e 4 I L i1 i2 i3 i4 i5 i8 i9 (1 : Int32) j6) else (if 1 ≤ dp then (g_247 n (dp - 1) e 0 I L i9).bind (fun ⟨x0_134, I0_134, L0_134⟩ => (if x0_134 = 0 then (g_246 n dp e 4 I0_134 L0_134 i1 i2 i3 i4 i5 i8 i9 (1 : Int32) j6) else (if i1 = (2 : Int32) then (g_246 n dp e 4 I0_134 L0_134 i1 i2 i3 i4 i5 i8 i9 (1 : Int32) (1 : Int64)) else (g_246 n dp e 4 I0_134 L0_134 i1 i2 i3 i4 i5 i8 i9 (1 : Int32) (L0_134 105 31))))) else none)) := by rw [g_246.eq_2, if_neg (show ¬ ((2 : Nat) = 0) by decide), if_neg (show ¬ ((2 : Nat) = 1) by decide), if_pos (show (2 : Nat) = 2 from rfl)]
set_option maxRecDepth 100000 in
theorem e_246_3 (n dp : Nat) (e : EN) (I : (Nat → Nat → Int32)) (L : (Nat → Nat → Int64)) (i1 : Int32) (i2 : Int32) (i3 : Int32) (i4 : Int32) (i5 : Int32) (i8 : Int32) (i9 : Int32) (i10 : Int32) (j6 : Int64) : g_246 (n + 1) dp e 3 I L i1 i2 i3 i4 i5 i8 i9 i10 j6 = (if (0 : Int32) = 0 then (g_246 n dp e 4 I L i1 i2 i3 i4 i5 i8 i9 (0 : Int32) j6) else (if 1 ≤ dp then (g_247 n (dp - 1) e 0 I L i9).bind (fun ⟨x0_134, I0_134, L0_134⟩ => (if x0_134 = 0 then (g_246 n dp e 4 I0_134 L0_134 i1 i2 i3 i4 i5 i8 i9 (0 : Int32) j6) else (if i1 = (2 : Int32) then (g_246 n dp e 4 I0_134 L0_134 i1 i2 i3 i4 i5 i8 i9 (0 : Int32) (1 : Int64)) else (g_246 n dp e 4 I0_134 L0_134 i1 i2 i3 i4 i5 i8 i9 (0 : Int32) (L0_134 105 31))))) else none)) := by rw [g_246.eq_2, if_neg (show ¬ ((3 : Nat) = 0) by decide), if_neg (show ¬ ((3 : Nat) = 1) by decide), if_neg (show ¬ ((3 : Nat) = 2) by decide), if_pos (show (3 : Nat) = 3 from rfl)]
set_option maxRecDepth 100000 in
theorem e_246_4 (n dp : Nat) (e : EN) (I : (Nat → Nat → Int32)) (L : (Nat → Nat → Int64)) (i1 : Int32) (i2 : Int32) (i3 : Int32) (i4 : Int32) (i5 : Int32) (i8 : Int32) (i9 : Int32) (i10 : Int32) (j6 : Int64) : g_246 (n + 1) dp e 4 I L i1 i2 i3 i4 i5 i8 i9 i10 j6 = (g_246 n dp e 1 I L i1 i2 i3 i4 i5 (i8 + Int32.ofInt (1)) 0 0 j6) := by rw [g_246.eq_2, if_neg (show ¬ ((4 : Nat) = 0) by decide), if_neg (show ¬ ((4 : Nat) = 1) by decide), if_neg (show ¬ ((4 : Nat) = 2) by decide), if_neg (show ¬ ((4 : Nat) = 3) by decide), if_pos (show (4 : Nat) = 4 from rfl)]
set_option maxHeartbeats 8000000 in
set_option maxRecDepth 100000 in
theorem w_246 (X : GX) {z : Nat} {kd : Nat → Nat × Nat} {Rf : Nat → Nat → Option Nat} (hS : Sh z kd Rf) : ∀ (n dp d : Nat), dp ≤ d → ∀ (I : (Nat → Nat → Int32)) (L : (Nat → Nat → Int64)) (i1 : Int32) (i2 : Int32) (i3 : Int32) (i4 : Int32) (i5 : Int32) (i8 : Int32) (i9 : Int32) (i10 : Int32) (j6 : Int64) (r : Int32) (I1 : (Nat → Nat → Int32)) (L1 : (Nat → Nat → Int64)), (g_246 n dp (z, kd, Rf) 0 I L i1 i2 i3 i4 i5 i8 i9 i10 j6 = some (r, I1, L1) → K X d 246 0 0 (AI (fun x τ => x = r ∧ τ = (z, kd, I1, L1, Rf))) 0 [some (.ref 105), some (.int i1), some (.int i2), some (.int i3), some (.int i4), some (.int i5), none, none, none, none, none] [] (z, kd, I, L, Rf) 0 0) ∧
    (g_246 n dp (z, kd, Rf) 1 I L i1 i2 i3 i4 i5 i8 i9 i10 j6 = some (r, I1, L1) → K X d 246 0 0 (AI (fun x τ => x = r ∧ τ = (z, kd, I1, L1, Rf))) 66 [some (.ref 105), some (.int i1), some (.int i2), some (.int i3), some (.int i4), some (.int i5), some (.long j6), none, some (.int i8), none, none] [] (z, kd, I, L, Rf) 0 0) ∧
    (g_246 n dp (z, kd, Rf) 2 I L i1 i2 i3 i4 i5 i8 i9 i10 j6 = some (r, I1, L1) → K X d 246 0 0 (AI (fun x τ => x = r ∧ τ = (z, kd, I1, L1, Rf))) 119 [some (.ref 105), some (.int i1), some (.int i2), some (.int i3), some (.int i4), some (.int i5), some (.long j6), none, some (.int i8), some (.int i9), none] [] (z, kd, I, L, Rf) 0 0) ∧
    (g_246 n dp (z, kd, Rf) 3 I L i1 i2 i3 i4 i5 i8 i9 i10 j6 = some (r, I1, L1) → K X d 246 0 0 (AI (fun x τ => x = r ∧ τ = (z, kd, I1, L1, Rf))) 123 [some (.ref 105), some (.int i1), some (.int i2), some (.int i3), some (.int i4), some (.int i5), some (.long j6), none, some (.int i8), some (.int i9), none] [] (z, kd, I, L, Rf) 0 0) ∧
    (g_246 n dp (z, kd, Rf) 4 I L i1 i2 i3 i4 i5 i8 i9 i10 j6 = some (r, I1, L1) → K X d 246 0 0 (AI (fun x τ => x = r ∧ τ = (z, kd, I1, L1, Rf))) 155 [some (.ref 105), some (.int i1), some (.int i2), some (.int i3), some (.int i4), some (.int i5), some (.long j6), none, some (.int i8), some (.int i9), some (.int i10)] [] (z, kd, I, L, Rf) 0 0) := by
  intro n
  induction n with
  | zero => intro dp d hdp I L i1 i2 i3 i4 i5 i8 i9 i10 j6 r I1 L1; exact ⟨(fun h => by cases h), (fun h => by cases h), (fun h => by cases h), (fun h => by cases h), (fun h => by cases h)⟩
  | succ n ih =>
    intro dp d hdp I L i1 i2 i3 i4 i5 i8 i9 i10 j6 r I1 L1
    refine ⟨?_, ?_, ?_, ?_, ?_⟩
    · intro h
      rw [e_246_0] at h
      refine K_of b_246_0 h_246_0 ?_
      refine q_aload rfl ?_
      refine q_getRs (c0 := 12) (j := 27) rfl rfl (zl hS 105 (by decide)) (sk hS 105 (by decide) rfl) rfl (by decide) (r_105_27 hS) ?_
      refine q_iconst (1) (by decide) ?_
      refine q_iload rfl ?_
      refine q_i2l ?_
      refine q_lasN (1) rfl (zl hS 118 (by decide)) (sk hS 118 (by decide) rfl) (by decide) (by decide) ?_
      obtain ⟨L_7, nL_7, h⟩ := stI_some h
      refine q_nL nL_7 ?_
      refine q_aload rfl ?_
      refine q_getRs (c0 := 12) (j := 27) rfl rfl (zl hS 105 (by decide)) (sk hS 105 (by decide) rfl) rfl (by decide) (r_105_27 hS) ?_
      refine q_iconst (2) (by decide) ?_
      refine q_aload rfl ?_
      refine q_iload rfl ?_
      obtain ⟨d_15, h⟩ := ite_some h
      obtain ⟨⟨x0_15, I0_15, L0_15⟩, e_15, h⟩ := Option.bind_eq_some_iff.mp h
      dsimp only at h
      refine q_fv2I (a_240 X hS (d := d - 1) (by omega) e_15) (by omega) (Nat.le_refl _) (Nat.le_refl _) rfl (Nat.le_of_ble_eq_true rfl) ⟨(zl hS 105 (by decide)), congrArg Prod.fst (sk hS 105 (by decide) rfl), by decide⟩ ?_
      refine q_i2l ?_
      refine q_lasN (2) rfl (zl hS 118 (by decide)) (sk hS 118 (by decide) rfl) (by decide) (by decide) ?_
      obtain ⟨L_19, nL_19, h⟩ := stI_some h
      refine q_nL nL_19 ?_
      refine q_aload rfl ?_
      refine q_getRs (c0 := 12) (j := 27) rfl rfl (zl hS 105 (by decide)) (sk hS 105 (by decide) rfl) rfl (by decide) (r_105_27 hS) ?_
      refine q_iconst (3) (by decide) ?_
      refine q_iload rfl ?_
      refine q_i2l ?_
      refine q_lasN (3) rfl (zl hS 118 (by decide)) (sk hS 118 (by decide) rfl) (by decide) (by decide) ?_
      obtain ⟨L_27, nL_27, h⟩ := stI_some h
      refine q_nL nL_27 ?_
      refine q_aload rfl ?_
      refine q_getRs (c0 := 12) (j := 27) rfl rfl (zl hS 105 (by decide)) (sk hS 105 (by decide) rfl) rfl (by decide) (r_105_27 hS) ?_
      refine q_iconst (4) (by decide) ?_
      refine q_aload rfl ?_
      refine q_getRs (c0 := 12) (j := 3) rfl rfl (zl hS 105 (by decide)) (sk hS 105 (by decide) rfl) rfl (by decide) (r_105_3 hS) ?_
      refine q_iconst (4) (by decide) ?_
      refine q_ialN (4) rfl (zl hS 107 (by decide)) (sk hS 107 (by decide) rfl) (by decide) (by decide) ?_
      refine q_i2l ?_
      refine q_lasN (4) rfl (zl hS 118 (by decide)) (sk hS 118 (by decide) rfl) (by decide) (by decide) ?_
      obtain ⟨L_40, nL_40, h⟩ := stI_some h
      refine q_nL nL_40 ?_
      refine q_aload rfl ?_
      refine q_getRs (c0 := 12) (j := 27) rfl rfl (zl hS 105 (by decide)) (sk hS 105 (by decide) rfl) rfl (by decide) (r_105_27 hS) ?_
      refine q_iconst (5) (by decide) ?_
      refine q_aload rfl ?_
      refine q_aload rfl ?_
      refine q_iload rfl ?_
      obtain ⟨d_49, h⟩ := ite_some h
      obtain ⟨⟨x1_49, I1_49, L1_49⟩, e_49, h⟩ := Option.bind_eq_some_iff.mp h
      dsimp only at h
      refine q_fv2I (a_240 X hS (d := d - 1) (by omega) e_49) (by omega) (Nat.le_refl _) (Nat.le_refl _) rfl (Nat.le_of_ble_eq_true rfl) ⟨(zl hS 105 (by decide)), congrArg Prod.fst (sk hS 105 (by decide) rfl), by decide⟩ ?_
      refine q_iload rfl ?_
      obtain ⟨d_53, h⟩ := ite_some h
      obtain ⟨⟨x2_53, I2_53, L2_53⟩, e_53, h⟩ := Option.bind_eq_some_iff.mp h
      dsimp only at h
      refine q_fv3I (a_244 X hS (d := d - 1) (by omega) e_53) (by omega) (Nat.le_refl _) (Nat.le_refl _) rfl (Nat.le_of_ble_eq_true rfl) ⟨(zl hS 105 (by decide)), congrArg Prod.fst (sk hS 105 (by decide) rfl), by decide⟩ ?_
      refine q_i2l ?_
      refine q_lasN (5) rfl (zl hS 118 (by decide)) (sk hS 118 (by decide) rfl) (by decide) (by decide) ?_
      obtain ⟨L_57, nL_57, h⟩ := stI_some h
      refine q_nL nL_57 ?_
      refine q_iload rfl ?_
      refine q_i2l ?_
      refine q_lstore (ls1 := [some (.ref 105), some (.int i1), some (.int i2), some (.int i3), some (.int i4), some (.int i5), some (.long (Int32.toInt64 i4)), none, none, none, none]) (Nat.le_of_ble_eq_true rfl) rfl ?_
      refine q_iconst (0) (by decide) ?_
      refine q_istore (ls1 := [some (.ref 105), some (.int i1), some (.int i2), some (.int i3), some (.int i4), some (.int i5), some (.long (Int32.toInt64 i4)), none, some (.int (0 : Int32)), none, none]) (Nat.le_of_ble_eq_true rfl) rfl ?_
      refine q_end ?_
      exact (ih dp d hdp _ _ i1 i2 i3 i4 i5 (0 : Int32) 0 0 (Int32.toInt64 i4) _ _ _).2.1 h
    · intro h
      rw [e_246_1] at h
      refine K_of b_246_66 h_246_66 ?_
      refine q_iload rfl ?_
      refine q_aload rfl ?_
      refine q_getRs (c0 := 12) (j := 3) rfl rfl (zl hS 105 (by decide)) (sk hS 105 (by decide) rfl) rfl (by decide) (r_105_3 hS) ?_
      refine q_iconst (471) (by decide) ?_
      refine q_ialN (471) rfl (zl hS 107 (by decide)) (sk hS 107 (by decide) rfl) (by decide) (by decide) ?_
      refine q_icmp_ge (fun c_76 => ?_) (fun c_76 => ?_)
      · rw [if_pos c_76] at h
        refine K_of b_246_161 h_246_161 ?_
        refine q_lload rfl ?_
        refine q_lconst (0) (by decide) ?_
        refine q_lcmp ?_
        refine q_if_ge (fun c_165 => ?_) (fun c_165 => ?_)
        · rw [if_pos c_165] at h
          refine K_of b_246_172 h_246_172 ?_
          refine q_lload rfl ?_
          refine q_iload rfl ?_
          refine q_i2l ?_
          refine q_lcmp ?_
          refine q_if_le (fun c_178 => ?_) (fun c_178 => ?_)
          · rw [if_pos c_178] at h
            refine K_of b_246_186 h_246_186 ?_
            refine q_lload rfl ?_
            refine q_l2i ?_
            refine q_end ?_
            refine K_of b_246_189 h_246_189 ?_
            cases h
            exact q_iret rfl (Nat.le_refl _) (Nat.le_refl _) ⟨rfl, rfl⟩
          · rw [if_neg c_178] at h
            refine q_iload rfl ?_
            refine q_goto ?_
            refine K_of b_246_189 h_246_189 ?_
            cases h
            exact q_iret rfl (Nat.le_refl _) (Nat.le_refl _) ⟨rfl, rfl⟩
        · rw [if_neg c_165] at h
          refine q_iconst (0) (by decide) ?_
          refine q_goto ?_
          refine K_of b_246_189 h_246_189 ?_
          cases h
          exact q_iret rfl (Nat.le_refl _) (Nat.le_refl _) ⟨rfl, rfl⟩
      · rw [if_neg c_76] at h
        refine q_iconst (472) (by decide) ?_
        refine q_iconst (8) (by decide) ?_
        refine q_iload rfl ?_
        refine q_imul ?_
        refine q_iadd ?_
        obtain ⟨v_88, nv_88, h⟩ := stI_some h
        refine q_eqi nv_88.symm ?_
        refine q_istore (ls1 := [some (.ref 105), some (.int i1), some (.int i2), some (.int i3), some (.int i4), some (.int i5), some (.long j6), none, some (.int i8), some (.int v_88), none]) (Nat.le_of_ble_eq_true rfl) rfl ?_
        refine q_aload rfl ?_
        refine q_getRs (c0 := 12) (j := 3) rfl rfl (zl hS 105 (by decide)) (sk hS 105 (by decide) rfl) rfl (by decide) (r_105_3 hS) ?_
        refine q_iload rfl ?_
        obtain ⟨⟨u_96, v_96⟩, h⟩ := ite_some h
        refine q_ialN (Int32.toNatClampNeg v_88) (nx u_96) (zl hS 107 (by decide)) (sk hS 107 (by decide) rfl) v_96 (by decide) ?_
        refine q_iload rfl ?_
        refine q_icmp_ne (fun c_98 => ?_) (fun c_98 => ?_)
        · rw [if_neg c_98] at h
          exact (ih dp d hdp _ _ i1 i2 i3 i4 i5 i8 v_88 0 j6 _ _ _).2.2.2.1 h
        · rw [if_pos c_98] at h
          refine q_iload rfl ?_
          refine q_iconst (2) (by decide) ?_
          refine q_icmp_ne (fun c_103 => ?_) (fun c_103 => ?_)
          · rw [if_neg c_103] at h
            exact (ih dp d hdp _ _ i1 i2 i3 i4 i5 i8 v_88 0 j6 _ _ _).2.2.1 h
          · rw [if_pos c_103] at h
            refine q_aload rfl ?_
            refine q_getRs (c0 := 12) (j := 3) rfl rfl (zl hS 105 (by decide)) (sk hS 105 (by decide) rfl) rfl (by decide) (r_105_3 hS) ?_
            refine q_iload rfl ?_
            refine q_iconst (1) (by decide) ?_
            refine q_iadd ?_
            obtain ⟨⟨u_114, v_114⟩, h⟩ := ite_some h
            refine q_ialN (Int32.toNatClampNeg (v_88 + (1 : Int32))) (nx u_114) (zl hS 107 (by decide)) (sk hS 107 (by decide) rfl) v_114 (by decide) ?_
            refine q_iload rfl ?_
            refine q_icmp_ne (fun c_116 => ?_) (fun c_116 => ?_)
            · rw [if_neg c_116] at h
              exact (ih dp d hdp _ _ i1 i2 i3 i4 i5 i8 v_88 0 j6 _ _ _).2.2.2.1 h
            · rw [if_pos c_116] at h
              refine q_end ?_
              exact (ih dp d hdp _ _ i1 i2 i3 i4 i5 i8 v_88 0 j6 _ _ _).2.2.1 h
    · intro h
      rw [e_246_2] at h
      refine K_of b_246_119 h_246_119 ?_
      refine q_iconst (1) (by decide) ?_
      refine q_goto ?_
      refine K_of b_246_124 h_246_124 ?_
      refine q_istore (ls1 := [some (.ref 105), some (.int i1), some (.int i2), some (.int i3), some (.int i4), some (.int i5), some (.long j6), none, some (.int i8), some (.int i9), some (.int (1 : Int32))]) (Nat.le_of_ble_eq_true rfl) rfl ?_
      refine q_iload rfl ?_
      refine q_if_eq (fun c_128 => ?_) (fun c_128 => ?_)
      · rw [if_pos c_128] at h
        exact (ih dp d hdp _ _ i1 i2 i3 i4 i5 i8 i9 (1 : Int32) j6 _ _ _).2.2.2.2 h
      · rw [if_neg c_128] at h
        refine q_aload rfl ?_
        refine q_iload rfl ?_
        obtain ⟨d_134, h⟩ := ite_some h
        obtain ⟨⟨x0_134, I0_134, L0_134⟩, e_134, h⟩ := Option.bind_eq_some_iff.mp h
        dsimp only at h
        refine q_fv2I (a_247 X hS (d := d - 1) (by omega) e_134) (by omega) (Nat.le_refl _) (Nat.le_refl _) rfl (Nat.le_of_ble_eq_true rfl) ⟨(zl hS 105 (by decide)), congrArg Prod.fst (sk hS 105 (by decide) rfl), by decide⟩ ?_
        refine q_if_eq (fun c_137 => ?_) (fun c_137 => ?_)
        · rw [if_pos c_137] at h
          exact (ih dp d hdp _ _ i1 i2 i3 i4 i5 i8 i9 (1 : Int32) j6 _ _ _).2.2.2.2 h
        · rw [if_neg c_137] at h
          refine q_iload rfl ?_
          refine q_iconst (2) (by decide) ?_
          refine q_icmp_ne (fun c_142 => ?_) (fun c_142 => ?_)
          · rw [if_neg c_142] at h
            refine K_of b_246_149 h_246_149 ?_
            refine q_aload rfl ?_
            refine q_getL (c0 := 12) (j := 31) rfl rfl (zl hS 105 (by decide)) (sk hS 105 (by decide) rfl) rfl (by decide) ?_
            refine q_end ?_
            refine K_of b_246_153 h_246_153 ?_
            refine q_lstore (ls1 := [some (.ref 105), some (.int i1), some (.int i2), some (.int i3), some (.int i4), some (.int i5), some (.long (L0_134 105 31)), none, some (.int i8), some (.int i9), some (.int (1 : Int32))]) (Nat.le_of_ble_eq_true rfl) rfl ?_
            refine q_end ?_
            exact (ih dp d hdp _ _ i1 i2 i3 i4 i5 i8 i9 (1 : Int32) (L0_134 105 31) _ _ _).2.2.2.2 h
          · rw [if_pos c_142] at h
            refine q_lconst (1) (by decide) ?_
            refine q_goto ?_
            refine K_of b_246_153 h_246_153 ?_
            refine q_lstore (ls1 := [some (.ref 105), some (.int i1), some (.int i2), some (.int i3), some (.int i4), some (.int i5), some (.long (1 : Int64)), none, some (.int i8), some (.int i9), some (.int (1 : Int32))]) (Nat.le_of_ble_eq_true rfl) rfl ?_
            refine q_end ?_
            exact (ih dp d hdp _ _ i1 i2 i3 i4 i5 i8 i9 (1 : Int32) (1 : Int64) _ _ _).2.2.2.2 h
    · intro h
      rw [e_246_3] at h
      refine K_of b_246_123 h_246_123 ?_
      refine q_iconst (0) (by decide) ?_
      refine q_end ?_
      refine K_of b_246_124 h_246_124 ?_
      refine q_istore (ls1 := [some (.ref 105), some (.int i1), some (.int i2), some (.int i3), some (.int i4), some (.int i5), some (.long j6), none, some (.int i8), some (.int i9), some (.int (0 : Int32))]) (Nat.le_of_ble_eq_true rfl) rfl ?_
      refine q_iload rfl ?_
      refine q_if_eq (fun c_128 => ?_) (fun c_128 => ?_)
      · rw [if_pos c_128] at h
        exact (ih dp d hdp _ _ i1 i2 i3 i4 i5 i8 i9 (0 : Int32) j6 _ _ _).2.2.2.2 h
      · rw [if_neg c_128] at h
        refine q_aload rfl ?_
        refine q_iload rfl ?_
        obtain ⟨d_134, h⟩ := ite_some h
        obtain ⟨⟨x0_134, I0_134, L0_134⟩, e_134, h⟩ := Option.bind_eq_some_iff.mp h
        dsimp only at h
        refine q_fv2I (a_247 X hS (d := d - 1) (by omega) e_134) (by omega) (Nat.le_refl _) (Nat.le_refl _) rfl (Nat.le_of_ble_eq_true rfl) ⟨(zl hS 105 (by decide)), congrArg Prod.fst (sk hS 105 (by decide) rfl), by decide⟩ ?_
        refine q_if_eq (fun c_137 => ?_) (fun c_137 => ?_)
        · rw [if_pos c_137] at h
          exact (ih dp d hdp _ _ i1 i2 i3 i4 i5 i8 i9 (0 : Int32) j6 _ _ _).2.2.2.2 h
        · rw [if_neg c_137] at h
          refine q_iload rfl ?_
          refine q_iconst (2) (by decide) ?_
          refine q_icmp_ne (fun c_142 => ?_) (fun c_142 => ?_)
          · rw [if_neg c_142] at h
            refine K_of b_246_149 h_246_149 ?_
            refine q_aload rfl ?_
            refine q_getL (c0 := 12) (j := 31) rfl rfl (zl hS 105 (by decide)) (sk hS 105 (by decide) rfl) rfl (by decide) ?_
            refine q_end ?_
            refine K_of b_246_153 h_246_153 ?_
            refine q_lstore (ls1 := [some (.ref 105), some (.int i1), some (.int i2), some (.int i3), some (.int i4), some (.int i5), some (.long (L0_134 105 31)), none, some (.int i8), some (.int i9), some (.int (0 : Int32))]) (Nat.le_of_ble_eq_true rfl) rfl ?_
            refine q_end ?_
            exact (ih dp d hdp _ _ i1 i2 i3 i4 i5 i8 i9 (0 : Int32) (L0_134 105 31) _ _ _).2.2.2.2 h
          · rw [if_pos c_142] at h
            refine q_lconst (1) (by decide) ?_
            refine q_goto ?_
            refine K_of b_246_153 h_246_153 ?_
            refine q_lstore (ls1 := [some (.ref 105), some (.int i1), some (.int i2), some (.int i3), some (.int i4), some (.int i5), some (.long (1 : Int64)), none, some (.int i8), some (.int i9), some (.int (0 : Int32))]) (Nat.le_of_ble_eq_true rfl) rfl ?_
            refine q_end ?_
            exact (ih dp d hdp _ _ i1 i2 i3 i4 i5 i8 i9 (0 : Int32) (1 : Int64) _ _ _).2.2.2.2 h
    · intro h
      rw [e_246_4] at h
      refine K_of b_246_155 h_246_155 ?_
      refine q_iinc (ls1 := [some (.ref 105), some (.int i1), some (.int i2), some (.int i3), some (.int i4), some (.int i5), some (.long j6), none, some (.int (i8 + Int32.ofInt (1))), some (.int i9), some (.int i10)]) rfl rfl ?_
      refine q_goto ?_
      refine K_mask [true, true, true, true, true, true, true, false, true, false, false] (Nat.le_of_ble_eq_true rfl) ?_
      exact (ih dp d hdp _ _ i1 i2 i3 i4 i5 (i8 + Int32.ofInt (1)) 0 0 j6 _ _ _).2.1 h
theorem a_246 (X : GX) {z : Nat} {kd : Nat → Nat × Nat} {Rf : Nat → Nat → Option Nat} (hS : Sh z kd Rf) {n dp d : Nat} (hd : dp ≤ d) {I : (Nat → Nat → Int32)} {L : (Nat → Nat → Int64)} {i1 : Int32} {i2 : Int32} {i3 : Int32} {i4 : Int32} {i5 : Int32} {I1 : (Nat → Nat → Int32)} {L1 : (Nat → Nat → Int64)} {r : Int32} (h : g_246 n dp (z, kd, Rf) 0 I L i1 i2 i3 i4 i5 0 0 0 0 = some (r, I1, L1)) : Ct X d 246 0 0 [.ref 105, .int i1, .int i2, .int i3, .int i4, .int i5] (z, kd, I, L, Rf) (AI (fun x τ => x = r ∧ τ = (z, kd, I1, L1, Rf))) :=
  Ct_of mu_246 (Nat.le_of_ble_eq_true rfl) ((w_246 X hS n dp d hd I L i1 i2 i3 i4 i5 0 0 0 0 _ _ _).1 h)

/-! 245 CutFloorModel.canGo(II)Z -/
set_option maxHeartbeats 4000000 in
set_option maxRecDepth 100000 in
def g_245 : Nat → Nat → EN → Nat → (Nat → Nat → Int32) → (Nat → Nat → Int64) → Int32 → Int32 →  Option (Int32 × (Nat → Nat → Int32) × (Nat → Nat → Int64))
  | 0, _, _, _, _, _, _, _ => none
  | n + 1, dp, e, lab, I, L, i1, i2 =>
    if lab = 0 then (if 1 ≤ dp then (g_246 n (dp - 1) e 0 I L (2 : Int32) i1 i2 (0 : Int32) (1 : Int32) 0 0 0 0).bind (fun ⟨x0_6, I0_6, L0_6⟩ => (if x0_6 = (1 : Int32) then (some ((1 : Int32), I0_6, L0_6)) else (some ((0 : Int32), I0_6, L0_6)))) else none)
    else none
set_option maxRecDepth 100000 in
theorem e_245_0 (n dp : Nat) (e : EN) (I : (Nat → Nat → Int32)) (L : (Nat → Nat → Int64)) (i1 : Int32) (i2 : Int32) : g_245 (n + 1) dp e 0 I L i1 i2 = (if 1 ≤ dp then (g_246 n (dp - 1) e 0 I L (2 : Int32) i1 i2 (0 : Int32) (1 : Int32) 0 0 0 0).bind (fun ⟨x0_6, I0_6, L0_6⟩ => (if x0_6 = (1 : Int32) then (some ((1 : Int32), I0_6, L0_6)) else (some ((0 : Int32), I0_6, L0_6)))) else none) := by rw [g_245.eq_2, if_pos (show (0 : Nat) = 0 from rfl)]
set_option maxHeartbeats 8000000 in
set_option maxRecDepth 100000 in
theorem w_245 (X : GX) {z : Nat} {kd : Nat → Nat × Nat} {Rf : Nat → Nat → Option Nat} (hS : Sh z kd Rf) : ∀ (n dp d : Nat), dp ≤ d → ∀ (I : (Nat → Nat → Int32)) (L : (Nat → Nat → Int64)) (i1 : Int32) (i2 : Int32) (r : Int32) (I1 : (Nat → Nat → Int32)) (L1 : (Nat → Nat → Int64)), (g_245 n dp (z, kd, Rf) 0 I L i1 i2 = some (r, I1, L1) → K X d 245 0 0 (AI (fun x τ => x = r ∧ τ = (z, kd, I1, L1, Rf))) 0 [some (.ref 105), some (.int i1), some (.int i2)] [] (z, kd, I, L, Rf) 0 0) := by
  intro n
  induction n with
  | zero => intro dp d hdp I L i1 i2 r I1 L1; exact fun h => by cases h
  | succ n ih =>
    intro dp d hdp I L i1 i2 r I1 L1
    · intro h
      rw [e_245_0] at h
      refine K_of b_245_0 h_245_0 ?_
      refine q_aload rfl ?_
      refine q_iconst (2) (by decide) ?_
      refine q_iload rfl ?_
      refine q_iload rfl ?_
      refine q_iconst (0) (by decide) ?_
      refine q_iconst (1) (by decide) ?_
      obtain ⟨d_6, h⟩ := ite_some h
      obtain ⟨⟨x0_6, I0_6, L0_6⟩, e_6, h⟩ := Option.bind_eq_some_iff.mp h
      dsimp only at h
      refine q_fv6I (a_246 X hS (d := d - 1) (by omega) e_6) (by omega) (Nat.le_refl _) (Nat.le_refl _) rfl (Nat.le_of_ble_eq_true rfl) ⟨(zl hS 105 (by decide)), congrArg Prod.fst (sk hS 105 (by decide) rfl), by decide⟩ ?_
      refine q_iconst (1) (by decide) ?_
      refine q_icmp_ne (fun c_10 => ?_) (fun c_10 => ?_)
      · rw [if_neg c_10] at h
        refine K_of b_245_17 h_245_17 ?_
        refine q_iconst (0) (by decide) ?_
        refine q_end ?_
        refine K_of b_245_18 h_245_18 ?_
        cases h
        exact q_iret rfl (Nat.le_refl _) (Nat.le_refl _) ⟨rfl, rfl⟩
      · rw [if_pos c_10] at h
        refine q_iconst (1) (by decide) ?_
        refine q_goto ?_
        refine K_of b_245_18 h_245_18 ?_
        cases h
        exact q_iret rfl (Nat.le_refl _) (Nat.le_refl _) ⟨rfl, rfl⟩
theorem a_245 (X : GX) {z : Nat} {kd : Nat → Nat × Nat} {Rf : Nat → Nat → Option Nat} (hS : Sh z kd Rf) {n dp d : Nat} (hd : dp ≤ d) {I : (Nat → Nat → Int32)} {L : (Nat → Nat → Int64)} {i1 : Int32} {i2 : Int32} {I1 : (Nat → Nat → Int32)} {L1 : (Nat → Nat → Int64)} {r : Int32} (h : g_245 n dp (z, kd, Rf) 0 I L i1 i2 = some (r, I1, L1)) : Ct X d 245 0 0 [.ref 105, .int i1, .int i2] (z, kd, I, L, Rf) (AI (fun x τ => x = r ∧ τ = (z, kd, I1, L1, Rf))) :=
  Ct_of mu_245 (Nat.le_of_ble_eq_true rfl) ((w_245 X hS n dp d hd I L i1 i2 _ _ _) h)

/-! 250 CutFloorModel.minutes(II)I -/
set_option maxHeartbeats 4000000 in
set_option maxRecDepth 100000 in
def g_250 : Nat → Nat → EN → Nat → (Nat → Nat → Int32) → (Nat → Nat → Int64) → Int32 → Int32 →  Option (Int32 × (Nat → Nat → Int32) × (Nat → Nat → Int64))
  | 0, _, _, _, _, _, _, _ => none
  | n + 1, dp, e, lab, I, L, i1, i2 =>
    if lab = 0 then (if 1 ≤ dp then (g_246 n (dp - 1) e 0 I L (0 : Int32) i1 i2 (1 : Int32) (60 : Int32) 0 0 0 0).bind (fun ⟨x0_7, I0_7, L0_7⟩ => (some (x0_7, I0_7, L0_7))) else none)
    else none
set_option maxRecDepth 100000 in
theorem e_250_0 (n dp : Nat) (e : EN) (I : (Nat → Nat → Int32)) (L : (Nat → Nat → Int64)) (i1 : Int32) (i2 : Int32) : g_250 (n + 1) dp e 0 I L i1 i2 = (if 1 ≤ dp then (g_246 n (dp - 1) e 0 I L (0 : Int32) i1 i2 (1 : Int32) (60 : Int32) 0 0 0 0).bind (fun ⟨x0_7, I0_7, L0_7⟩ => (some (x0_7, I0_7, L0_7))) else none) := by rw [g_250.eq_2, if_pos (show (0 : Nat) = 0 from rfl)]
set_option maxHeartbeats 8000000 in
set_option maxRecDepth 100000 in
theorem w_250 (X : GX) {z : Nat} {kd : Nat → Nat × Nat} {Rf : Nat → Nat → Option Nat} (hS : Sh z kd Rf) : ∀ (n dp d : Nat), dp ≤ d → ∀ (I : (Nat → Nat → Int32)) (L : (Nat → Nat → Int64)) (i1 : Int32) (i2 : Int32) (r : Int32) (I1 : (Nat → Nat → Int32)) (L1 : (Nat → Nat → Int64)), (g_250 n dp (z, kd, Rf) 0 I L i1 i2 = some (r, I1, L1) → K X d 250 0 0 (AI (fun x τ => x = r ∧ τ = (z, kd, I1, L1, Rf))) 0 [some (.ref 105), some (.int i1), some (.int i2)] [] (z, kd, I, L, Rf) 0 0) := by
  intro n
  induction n with
  | zero => intro dp d hdp I L i1 i2 r I1 L1; exact fun h => by cases h
  | succ n ih =>
    intro dp d hdp I L i1 i2 r I1 L1
    · intro h
      rw [e_250_0] at h
      refine K_of b_250_0 h_250_0 ?_
      refine q_aload rfl ?_
      refine q_iconst (0) (by decide) ?_
      refine q_iload rfl ?_
      refine q_iload rfl ?_
      refine q_iconst (1) (by decide) ?_
      refine q_iconst (60) (by decide) ?_
      obtain ⟨d_7, h⟩ := ite_some h
      obtain ⟨⟨x0_7, I0_7, L0_7⟩, e_7, h⟩ := Option.bind_eq_some_iff.mp h
      dsimp only at h
      refine q_fv6I (a_246 X hS (d := d - 1) (by omega) e_7) (by omega) (Nat.le_refl _) (Nat.le_refl _) rfl (Nat.le_of_ble_eq_true rfl) ⟨(zl hS 105 (by decide)), congrArg Prod.fst (sk hS 105 (by decide) rfl), by decide⟩ ?_
      cases h
      exact q_iret rfl (Nat.le_refl _) (Nat.le_refl _) ⟨rfl, rfl⟩
theorem a_250 (X : GX) {z : Nat} {kd : Nat → Nat × Nat} {Rf : Nat → Nat → Option Nat} (hS : Sh z kd Rf) {n dp d : Nat} (hd : dp ≤ d) {I : (Nat → Nat → Int32)} {L : (Nat → Nat → Int64)} {i1 : Int32} {i2 : Int32} {I1 : (Nat → Nat → Int32)} {L1 : (Nat → Nat → Int64)} {r : Int32} (h : g_250 n dp (z, kd, Rf) 0 I L i1 i2 = some (r, I1, L1)) : Ct X d 250 0 0 [.ref 105, .int i1, .int i2] (z, kd, I, L, Rf) (AI (fun x τ => x = r ∧ τ = (z, kd, I1, L1, Rf))) :=
  Ct_of mu_250 (Nat.le_of_ble_eq_true rfl) ((w_250 X hS n dp d hd I L i1 i2 _ _ _) h)

/-! 251 CutFloorModel.skill(II)I -/
set_option maxHeartbeats 4000000 in
set_option maxRecDepth 100000 in
def g_251 : Nat → Nat → EN → Nat → (Nat → Nat → Int32) → (Nat → Nat → Int64) → Int32 → Int32 →  Option (Int32 × (Nat → Nat → Int32) × (Nat → Nat → Int64))
  | 0, _, _, _, _, _, _, _ => none
  | n + 1, dp, e, lab, I, L, i1, i2 =>
    if lab = 0 then (if 1 ≤ dp then (g_246 n (dp - 1) e 0 I L (1 : Int32) i1 i2 (0 : Int32) (3 : Int32) 0 0 0 0).bind (fun ⟨x0_6, I0_6, L0_6⟩ => (some (x0_6, I0_6, L0_6))) else none)
    else none
set_option maxRecDepth 100000 in
theorem e_251_0 (n dp : Nat) (e : EN) (I : (Nat → Nat → Int32)) (L : (Nat → Nat → Int64)) (i1 : Int32) (i2 : Int32) : g_251 (n + 1) dp e 0 I L i1 i2 = (if 1 ≤ dp then (g_246 n (dp - 1) e 0 I L (1 : Int32) i1 i2 (0 : Int32) (3 : Int32) 0 0 0 0).bind (fun ⟨x0_6, I0_6, L0_6⟩ => (some (x0_6, I0_6, L0_6))) else none) := by rw [g_251.eq_2, if_pos (show (0 : Nat) = 0 from rfl)]
set_option maxHeartbeats 8000000 in
set_option maxRecDepth 100000 in
theorem w_251 (X : GX) {z : Nat} {kd : Nat → Nat × Nat} {Rf : Nat → Nat → Option Nat} (hS : Sh z kd Rf) : ∀ (n dp d : Nat), dp ≤ d → ∀ (I : (Nat → Nat → Int32)) (L : (Nat → Nat → Int64)) (i1 : Int32) (i2 : Int32) (r : Int32) (I1 : (Nat → Nat → Int32)) (L1 : (Nat → Nat → Int64)), (g_251 n dp (z, kd, Rf) 0 I L i1 i2 = some (r, I1, L1) → K X d 251 0 0 (AI (fun x τ => x = r ∧ τ = (z, kd, I1, L1, Rf))) 0 [some (.ref 105), some (.int i1), some (.int i2)] [] (z, kd, I, L, Rf) 0 0) := by
  intro n
  induction n with
  | zero => intro dp d hdp I L i1 i2 r I1 L1; exact fun h => by cases h
  | succ n ih =>
    intro dp d hdp I L i1 i2 r I1 L1
    · intro h
      rw [e_251_0] at h
      refine K_of b_251_0 h_251_0 ?_
      refine q_aload rfl ?_
      refine q_iconst (1) (by decide) ?_
      refine q_iload rfl ?_
      refine q_iload rfl ?_
      refine q_iconst (0) (by decide) ?_
      refine q_iconst (3) (by decide) ?_
      obtain ⟨d_6, h⟩ := ite_some h
      obtain ⟨⟨x0_6, I0_6, L0_6⟩, e_6, h⟩ := Option.bind_eq_some_iff.mp h
      dsimp only at h
      refine q_fv6I (a_246 X hS (d := d - 1) (by omega) e_6) (by omega) (Nat.le_refl _) (Nat.le_refl _) rfl (Nat.le_of_ble_eq_true rfl) ⟨(zl hS 105 (by decide)), congrArg Prod.fst (sk hS 105 (by decide) rfl), by decide⟩ ?_
      cases h
      exact q_iret rfl (Nat.le_refl _) (Nat.le_refl _) ⟨rfl, rfl⟩
theorem a_251 (X : GX) {z : Nat} {kd : Nat → Nat × Nat} {Rf : Nat → Nat → Option Nat} (hS : Sh z kd Rf) {n dp d : Nat} (hd : dp ≤ d) {I : (Nat → Nat → Int32)} {L : (Nat → Nat → Int64)} {i1 : Int32} {i2 : Int32} {I1 : (Nat → Nat → Int32)} {L1 : (Nat → Nat → Int64)} {r : Int32} (h : g_251 n dp (z, kd, Rf) 0 I L i1 i2 = some (r, I1, L1)) : Ct X d 251 0 0 [.ref 105, .int i1, .int i2] (z, kd, I, L, Rf) (AI (fun x τ => x = r ∧ τ = (z, kd, I1, L1, Rf))) :=
  Ct_of mu_251 (Nat.le_of_ble_eq_true rfl) ((w_251 X hS n dp d hd I L i1 i2 _ _ _) h)

/-! 242 CutFloorModel.goes(III)I -/
set_option maxHeartbeats 4000000 in
set_option maxRecDepth 100000 in
def g_242 : Nat → Nat → EN → Nat → (Nat → Nat → Int32) → (Nat → Nat → Int64) → Int32 → Int32 → Int32 → Int32 →  Option (Int32 × (Nat → Nat → Int32) × (Nat → Nat → Int64))
  | 0, _, _, _, _, _, _, _, _, _ => none
  | n + 1, dp, e, lab, I, L, i1, i2, i3, i4 =>
    if lab = 0 then (stI (u2 I 105 0 (0 : Int32)) (fun I_2 => (if 1 ≤ dp then (g_239 n (dp - 1) e 0 I_2 L i1).bind (fun ⟨x0_7, I0_7, L0_7⟩ => (if x0_7 = 0 then (some ((-100000 : Int32), I0_7, L0_7)) else (if 1 ≤ dp then (g_197 n (dp - 1) e 0 I0_7 L0_7 i2).bind (fun ⟨x1_14, I1_14, L1_14⟩ => (if x1_14 = 0 then (some ((-100000 : Int32), I1_14, L1_14)) else (if 1 ≤ dp then (g_243 n (dp - 1) e 0 I1_14 L1_14 i1 i2 0 0).bind (fun ⟨x2_27, I2_27, L2_27⟩ => (if i3 = (0 : Int32) then (if 1 ≤ dp then (g_245 n (dp - 1) e 0 I2_27 L2_27 i1 i2).bind (fun ⟨x3_71, I3_71, L3_71⟩ => (if x3_71 = 0 then (some ((0 : Int32), I3_71, L3_71)) else (some ((1 : Int32), I3_71, L3_71)))) else none) else (if i3 = (1 : Int32) then (if 1 ≤ dp then (g_250 n (dp - 1) e 0 I2_27 L2_27 i1 i2).bind (fun ⟨x3_86, I3_86, L3_86⟩ => (some (x3_86, I3_86, L3_86))) else none) else (if i3 = (2 : Int32) then (if 1 ≤ dp then (g_251 n (dp - 1) e 0 I2_27 L2_27 i1 i2).bind (fun ⟨x3_93, I3_93, L3_93⟩ => (some (x3_93, I3_93, L3_93))) else none) else (if i3 = (3 : Int32) then (some (x2_27, I2_27, L2_27)) else (if i3 = (4 : Int32) then (if x2_27 < 0 then (g_242 n dp e 1 I2_27 L2_27 i1 i2 i3 x2_27) else (if 1 ≤ dp then (g_240 n (dp - 1) e 0 I2_27 L2_27 i1).bind (fun ⟨x3_122, I3_122, L3_122⟩ => (if 1 ≤ dp then (g_244 n (dp - 1) e 0 I3_122 L3_122 x3_122 i2).bind (fun ⟨x4_126, I4_126, L4_126⟩ => (if (lg_cmp ((Int32.toInt64 x2_27) * (100 : Int64)) ((Int32.toInt64 (I2_27 107 5)) * (Int32.toInt64 x4_126))) ≤ 0 then (some ((0 : Int32), I4_126, L4_126)) else (g_242 n dp e 1 I4_126 L4_126 i1 i2 i3 x2_27))) else none)) else none)) else (some ((-100000 : Int32), I2_27, L2_27)))))))) else none))) else none))) else none)))
    else if lab = 1 then (some ((1 : Int32), I, L))
    else none
set_option maxRecDepth 100000 in
theorem e_242_0 (n dp : Nat) (e : EN) (I : (Nat → Nat → Int32)) (L : (Nat → Nat → Int64)) (i1 : Int32) (i2 : Int32) (i3 : Int32) (i4 : Int32) : g_242 (n + 1) dp e 0 I L i1 i2 i3 i4 = (stI (u2 I 105 0 (0 : Int32)) (fun I_2 => (if 1 ≤ dp then (g_239 n (dp - 1) e 0 I_2 L i1).bind (fun ⟨x0_7, I0_7, L0_7⟩ => (if x0_7 = 0 then (some ((-100000 : Int32), I0_7, L0_7)) else (if 1 ≤ dp then (g_197 n (dp - 1) e 0 I0_7 L0_7 i2).bind (fun ⟨x1_14, I1_14, L1_14⟩ => (if x1_14 = 0 then (some ((-100000 : Int32), I1_14, L1_14)) else (if 1 ≤ dp then (g_243 n (dp - 1) e 0 I1_14 L1_14 i1 i2 0 0).bind (fun ⟨x2_27, I2_27, L2_27⟩ => (if i3 = (0 : Int32) then (if 1 ≤ dp then (g_245 n (dp - 1) e 0 I2_27 L2_27 i1 i2).bind (fun ⟨x3_71, I3_71, L3_71⟩ => (if x3_71 = 0 then (some ((0 : Int32), I3_71, L3_71)) else (some ((1 : Int32), I3_71, L3_71)))) else none) else (if i3 = (1 : Int32) then (if 1 ≤ dp then (g_250 n (dp - 1) e 0 I2_27 L2_27 i1 i2).bind (fun ⟨x3_86, I3_86, L3_86⟩ => (some (x3_86, I3_86, L3_86))) else none) else (if i3 = (2 : Int32) then (if 1 ≤ dp then (g_251 n (dp - 1) e 0 I2_27 L2_27 i1 i2).bind (fun ⟨x3_93, I3_93, L3_93⟩ => (some (x3_93, I3_93, L3_93))) else none) else (if i3 = (3 : Int32) then (some (x2_27, I2_27, L2_27)) else (if i3 = (4 : Int32) then (if x2_27 < 0 then (g_242 n dp e 1 I2_27 L2_27 i1 i2 i3 x2_27) else (if 1 ≤ dp then (g_240 n (dp - 1) e 0 I2_27 L2_27 i1).bind (fun ⟨x3_122, I3_122, L3_122⟩ => (if 1 ≤ dp then (g_244 n (dp - 1) e 0 I3_122 L3_122 x3_122 i2).bind (fun ⟨x4_126, I4_126, L4_126⟩ => (if (lg_cmp ((Int32.toInt64 x2_27) * (100 : Int64)) ((Int32.toInt64 (I2_27 107 5)) * (Int32.toInt64 x4_126))) ≤ 0 then (some ((0 : Int32), I4_126, L4_126)) else (g_242 n dp e 1 I4_126 L4_126 i1 i2 i3 x2_27))) else none)) else none)) else (some ((-100000 : Int32), I2_27, L2_27)))))))) else none))) else none))) else none))) := by rw [g_242.eq_2, if_pos (show (0 : Nat) = 0 from rfl)]
set_option maxRecDepth 100000 in
theorem e_242_1 (n dp : Nat) (e : EN) (I : (Nat → Nat → Int32)) (L : (Nat → Nat → Int64)) (i1 : Int32) (i2 : Int32) (i3 : Int32) (i4 : Int32) : g_242 (n + 1) dp e 1 I L i1 i2 i3 i4 = (some ((1 : Int32), I, L)) := by rw [g_242.eq_2, if_neg (show ¬ ((1 : Nat) = 0) by decide), if_pos (show (1 : Nat) = 1 from rfl)]
set_option maxHeartbeats 8000000 in
set_option maxRecDepth 100000 in
theorem w_242 (X : GX) {z : Nat} {kd : Nat → Nat × Nat} {Rf : Nat → Nat → Option Nat} (hS : Sh z kd Rf) : ∀ (n dp d : Nat), dp ≤ d → ∀ (I : (Nat → Nat → Int32)) (L : (Nat → Nat → Int64)) (i1 : Int32) (i2 : Int32) (i3 : Int32) (i4 : Int32) (r : Int32) (I1 : (Nat → Nat → Int32)) (L1 : (Nat → Nat → Int64)), (g_242 n dp (z, kd, Rf) 0 I L i1 i2 i3 i4 = some (r, I1, L1) → K X d 242 0 0 (AI (fun x τ => x = r ∧ τ = (z, kd, I1, L1, Rf))) 0 [some (.ref 105), some (.int i1), some (.int i2), some (.int i3), none] [] (z, kd, I, L, Rf) 0 0) ∧
    (g_242 n dp (z, kd, Rf) 1 I L i1 i2 i3 i4 = some (r, I1, L1) → K X d 242 0 0 (AI (fun x τ => x = r ∧ τ = (z, kd, I1, L1, Rf))) 135 [some (.ref 105), some (.int i1), some (.int i2), some (.int i3), some (.int i4)] [] (z, kd, I, L, Rf) 0 0) := by
  intro n
  induction n with
  | zero => intro dp d hdp I L i1 i2 i3 i4 r I1 L1; exact ⟨(fun h => by cases h), (fun h => by cases h)⟩
  | succ n ih =>
    intro dp d hdp I L i1 i2 i3 i4 r I1 L1
    refine ⟨?_, ?_⟩
    · intro h
      rw [e_242_0] at h
      refine K_of b_242_0 h_242_0 ?_
      refine q_aload rfl ?_
      refine q_iconst (0) (by decide) ?_
      refine q_putI (c0 := 12) (j := 0) rfl rfl (zl hS 105 (by decide)) (sk hS 105 (by decide) rfl) rfl ?_
      obtain ⟨I_2, nI_2, h⟩ := stI_some h
      refine q_nI nI_2 ?_
      refine q_aload rfl ?_
      refine q_iload rfl ?_
      obtain ⟨d_7, h⟩ := ite_some h
      obtain ⟨⟨x0_7, I0_7, L0_7⟩, e_7, h⟩ := Option.bind_eq_some_iff.mp h
      dsimp only at h
      refine q_fv2I (a_239 X hS (d := d - 1) (by omega) e_7) (by omega) (Nat.le_refl _) (Nat.le_refl _) rfl (Nat.le_of_ble_eq_true rfl) ⟨(zl hS 105 (by decide)), congrArg Prod.fst (sk hS 105 (by decide) rfl), by decide⟩ ?_
      refine q_if_eq (fun c_10 => ?_) (fun c_10 => ?_)
      · rw [if_pos c_10] at h
        refine K_of b_242_20 h_242_20 ?_
        refine q_iconst (-100000) (by decide) ?_
        cases h
        exact q_iret rfl (Nat.le_refl _) (Nat.le_refl _) ⟨rfl, rfl⟩
      · rw [if_neg c_10] at h
        refine q_iload rfl ?_
        obtain ⟨d_14, h⟩ := ite_some h
        obtain ⟨⟨x1_14, I1_14, L1_14⟩, e_14, h⟩ := Option.bind_eq_some_iff.mp h
        dsimp only at h
        refine q_fs1I (a_197 X hS (d := d - 1) (by omega) e_14) (by omega) (Nat.le_refl _) (Nat.le_refl _) rfl (Nat.le_of_ble_eq_true rfl) ?_
        refine q_if_ne (fun c_17 => ?_) (fun c_17 => ?_)
        · rw [if_neg c_17] at h
          refine K_of b_242_24 h_242_24 ?_
          refine q_aload rfl ?_
          refine q_iload rfl ?_
          refine q_iload rfl ?_
          obtain ⟨d_27, h⟩ := ite_some h
          obtain ⟨⟨x2_27, I2_27, L2_27⟩, e_27, h⟩ := Option.bind_eq_some_iff.mp h
          dsimp only at h
          refine q_fv3I (a_243 X hS (d := d - 1) (by omega) e_27) (by omega) (Nat.le_refl _) (Nat.le_refl _) rfl (Nat.le_of_ble_eq_true rfl) ⟨(zl hS 105 (by decide)), congrArg Prod.fst (sk hS 105 (by decide) rfl), by decide⟩ ?_
          refine q_istore (ls1 := [some (.ref 105), some (.int i1), some (.int i2), some (.int i3), some (.int x2_27)]) (Nat.le_of_ble_eq_true rfl) rfl ?_
          refine q_iload rfl ?_
          refine q_tsw (fun c_33 => ?_) (fun j t c_33 ht => ?_)
          · rw [if_neg (sw_ne c_33 (by decide) (by decide)), if_neg (sw_ne c_33 (by decide) (by decide)), if_neg (sw_ne c_33 (by decide) (by decide)), if_neg (sw_ne c_33 (by decide) (by decide)), if_neg (sw_ne c_33 (by decide) (by decide))] at h
            refine K_of b_242_141 h_242_141 ?_
            refine q_iconst (-100000) (by decide) ?_
            cases h
            exact q_iret rfl (Nat.le_refl _) (Nat.le_refl _) ⟨rfl, rfl⟩
          · match j, ht with
            | 0, ht =>
              cases ht
              rw [if_pos (sw_eq c_33 (by decide))] at h
              refine K_of b_242_68 h_242_68 ?_
              refine q_aload rfl ?_
              refine q_iload rfl ?_
              refine q_iload rfl ?_
              obtain ⟨d_71, h⟩ := ite_some h
              obtain ⟨⟨x3_71, I3_71, L3_71⟩, e_71, h⟩ := Option.bind_eq_some_iff.mp h
              dsimp only at h
              refine q_fv3I (a_245 X hS (d := d - 1) (by omega) e_71) (by omega) (Nat.le_refl _) (Nat.le_refl _) rfl (Nat.le_of_ble_eq_true rfl) ⟨(zl hS 105 (by decide)), congrArg Prod.fst (sk hS 105 (by decide) rfl), by decide⟩ ?_
              refine q_if_eq (fun c_74 => ?_) (fun c_74 => ?_)
              · rw [if_pos c_74] at h
                refine K_of b_242_81 h_242_81 ?_
                refine q_iconst (0) (by decide) ?_
                refine q_end ?_
                refine K_of b_242_82 h_242_82 ?_
                cases h
                exact q_iret rfl (Nat.le_refl _) (Nat.le_refl _) ⟨rfl, rfl⟩
              · rw [if_neg c_74] at h
                refine q_iconst (1) (by decide) ?_
                refine q_goto ?_
                refine K_of b_242_82 h_242_82 ?_
                cases h
                exact q_iret rfl (Nat.le_refl _) (Nat.le_refl _) ⟨rfl, rfl⟩
            | 1, ht =>
              cases ht
              rw [if_neg (sw_nq c_33 (by decide)), if_pos (sw_eq c_33 (by decide))] at h
              refine K_of b_242_83 h_242_83 ?_
              refine q_aload rfl ?_
              refine q_iload rfl ?_
              refine q_iload rfl ?_
              obtain ⟨d_86, h⟩ := ite_some h
              obtain ⟨⟨x3_86, I3_86, L3_86⟩, e_86, h⟩ := Option.bind_eq_some_iff.mp h
              dsimp only at h
              refine q_fv3I (a_250 X hS (d := d - 1) (by omega) e_86) (by omega) (Nat.le_refl _) (Nat.le_refl _) rfl (Nat.le_of_ble_eq_true rfl) ⟨(zl hS 105 (by decide)), congrArg Prod.fst (sk hS 105 (by decide) rfl), by decide⟩ ?_
              cases h
              exact q_iret rfl (Nat.le_refl _) (Nat.le_refl _) ⟨rfl, rfl⟩
            | 2, ht =>
              cases ht
              rw [if_neg (sw_nq c_33 (by decide)), if_neg (sw_nq c_33 (by decide)), if_pos (sw_eq c_33 (by decide))] at h
              refine K_of b_242_90 h_242_90 ?_
              refine q_aload rfl ?_
              refine q_iload rfl ?_
              refine q_iload rfl ?_
              obtain ⟨d_93, h⟩ := ite_some h
              obtain ⟨⟨x3_93, I3_93, L3_93⟩, e_93, h⟩ := Option.bind_eq_some_iff.mp h
              dsimp only at h
              refine q_fv3I (a_251 X hS (d := d - 1) (by omega) e_93) (by omega) (Nat.le_refl _) (Nat.le_refl _) rfl (Nat.le_of_ble_eq_true rfl) ⟨(zl hS 105 (by decide)), congrArg Prod.fst (sk hS 105 (by decide) rfl), by decide⟩ ?_
              cases h
              exact q_iret rfl (Nat.le_refl _) (Nat.le_refl _) ⟨rfl, rfl⟩
            | 3, ht =>
              cases ht
              rw [if_neg (sw_nq c_33 (by decide)), if_neg (sw_nq c_33 (by decide)), if_neg (sw_nq c_33 (by decide)), if_pos (sw_eq c_33 (by decide))] at h
              refine K_of b_242_97 h_242_97 ?_
              refine q_iload rfl ?_
              cases h
              exact q_iret rfl (Nat.le_refl _) (Nat.le_refl _) ⟨rfl, rfl⟩
            | 4, ht =>
              cases ht
              rw [if_neg (sw_nq c_33 (by decide)), if_neg (sw_nq c_33 (by decide)), if_neg (sw_nq c_33 (by decide)), if_neg (sw_nq c_33 (by decide)), if_pos (sw_eq c_33 (by decide))] at h
              refine K_of b_242_100 h_242_100 ?_
              refine q_iload rfl ?_
              refine q_if_lt (fun c_102 => ?_) (fun c_102 => ?_)
              · rw [if_pos c_102] at h
                exact (ih dp d hdp _ _ i1 i2 i3 x2_27 _ _ _).2 h
              · rw [if_neg c_102] at h
                refine q_iload rfl ?_
                refine q_i2l ?_
                refine q_lconst (100) (by decide) ?_
                refine q_lmul ?_
                refine q_aload rfl ?_
                refine q_getRs (c0 := 12) (j := 3) rfl rfl (zl hS 105 (by decide)) (sk hS 105 (by decide) rfl) rfl (by decide) (r_105_3 hS) ?_
                refine q_iconst (5) (by decide) ?_
                refine q_ialN (5) rfl (zl hS 107 (by decide)) (sk hS 107 (by decide) rfl) (by decide) (by decide) ?_
                refine q_i2l ?_
                refine q_aload rfl ?_
                refine q_aload rfl ?_
                refine q_iload rfl ?_
                obtain ⟨d_122, h⟩ := ite_some h
                obtain ⟨⟨x3_122, I3_122, L3_122⟩, e_122, h⟩ := Option.bind_eq_some_iff.mp h
                dsimp only at h
                refine q_fv2I (a_240 X hS (d := d - 1) (by omega) e_122) (by omega) (Nat.le_refl _) (Nat.le_refl _) rfl (Nat.le_of_ble_eq_true rfl) ⟨(zl hS 105 (by decide)), congrArg Prod.fst (sk hS 105 (by decide) rfl), by decide⟩ ?_
                refine q_iload rfl ?_
                obtain ⟨d_126, h⟩ := ite_some h
                obtain ⟨⟨x4_126, I4_126, L4_126⟩, e_126, h⟩ := Option.bind_eq_some_iff.mp h
                dsimp only at h
                refine q_fv3I (a_244 X hS (d := d - 1) (by omega) e_126) (by omega) (Nat.le_refl _) (Nat.le_refl _) rfl (Nat.le_of_ble_eq_true rfl) ⟨(zl hS 105 (by decide)), congrArg Prod.fst (sk hS 105 (by decide) rfl), by decide⟩ ?_
                refine q_i2l ?_
                refine q_lmul ?_
                refine q_lcmp ?_
                refine q_if_le (fun c_132 => ?_) (fun c_132 => ?_)
                · rw [if_pos c_132] at h
                  refine K_of b_242_139 h_242_139 ?_
                  refine q_iconst (0) (by decide) ?_
                  refine q_end ?_
                  refine K_of b_242_140 h_242_140 ?_
                  cases h
                  exact q_iret rfl (Nat.le_refl _) (Nat.le_refl _) ⟨rfl, rfl⟩
                · rw [if_neg c_132] at h
                  refine q_end ?_
                  exact (ih dp d hdp _ _ i1 i2 i3 x2_27 _ _ _).2 h
            | j + 5, ht => simp at ht
        · rw [if_pos c_17] at h
          refine q_end ?_
          refine K_of b_242_20 h_242_20 ?_
          refine q_iconst (-100000) (by decide) ?_
          cases h
          exact q_iret rfl (Nat.le_refl _) (Nat.le_refl _) ⟨rfl, rfl⟩
    · intro h
      rw [e_242_1] at h
      refine K_of b_242_135 h_242_135 ?_
      refine q_iconst (1) (by decide) ?_
      refine q_goto ?_
      refine K_of b_242_140 h_242_140 ?_
      cases h
      exact q_iret rfl (Nat.le_refl _) (Nat.le_refl _) ⟨rfl, rfl⟩
theorem a_242 (X : GX) {z : Nat} {kd : Nat → Nat × Nat} {Rf : Nat → Nat → Option Nat} (hS : Sh z kd Rf) {n dp d : Nat} (hd : dp ≤ d) {I : (Nat → Nat → Int32)} {L : (Nat → Nat → Int64)} {i1 : Int32} {i2 : Int32} {i3 : Int32} {I1 : (Nat → Nat → Int32)} {L1 : (Nat → Nat → Int64)} {r : Int32} (h : g_242 n dp (z, kd, Rf) 0 I L i1 i2 i3 0 = some (r, I1, L1)) : Ct X d 242 0 0 [.ref 105, .int i1, .int i2, .int i3] (z, kd, I, L, Rf) (AI (fun x τ => x = r ∧ τ = (z, kd, I1, L1, Rf))) :=
  Ct_of mu_242 (Nat.le_of_ble_eq_true rfl) ((w_242 X hS n dp d hd I L i1 i2 i3 0 _ _ _).1 h)

/-! 255 CutFloorModel.take(I)V -/
set_option maxHeartbeats 4000000 in
set_option maxRecDepth 100000 in
def g_255 : Nat → Nat → EN → Nat → (Nat → Nat → Int32) → (Nat → Nat → Int64) → Int32 → Int32 → Int32 →  Option ((Nat → Nat → Int32) × (Nat → Nat → Int64))
  | 0, _, _, _, _, _, _, _, _ => none
  | n + 1, dp, e, lab, I, L, i1, i2, i3 =>
    if lab = 0 then (if 0 ≤ i1 ∧ (Int32.toNatClampNeg i1) < 3 then (if (64 : Int32) ≤ (I 120 (Int32.toNatClampNeg i1)) then (g_255 n dp e 2 I L i1 0 0) else (if 0 ≤ i1 ∧ (Int32.toNatClampNeg i1) < 3 then (stI (((640 : Int32) * i1) + ((10 : Int32) * (I 120 (Int32.toNatClampNeg i1)))) (fun v_26 => (g_255 n dp e 1 I L i1 v_26 (0 : Int32)))) else none)) else none)
    else if lab = 1 then (if (10 : Int32) ≤ i3 then (g_255 n dp e 2 I L i1 0 0) else (if 0 ≤ i3 ∧ (Int32.toNatClampNeg i3) < 10 then (if 0 ≤ (i2 + i3) ∧ (Int32.toNatClampNeg (i2 + i3)) < 1920 then (stI (u2 I 121 (Int32.toNatClampNeg (i2 + i3)) (I 123 (Int32.toNatClampNeg i3))) (fun I_48 => (if 0 ≤ ((100 : Int32) + i3) ∧ (Int32.toNatClampNeg ((100 : Int32) + i3)) < 110 then (if 0 ≤ (i2 + i3) ∧ (Int32.toNatClampNeg (i2 + i3)) < 1920 then (stI (u2 I_48 122 (Int32.toNatClampNeg (i2 + i3)) (I_48 124 (Int32.toNatClampNeg ((100 : Int32) + i3)))) (fun I_65 => (g_255 n dp e 1 I_65 L i1 i2 (i3 + Int32.ofInt (1))))) else none) else none))) else none) else none))
    else if lab = 2 then (if 0 ≤ i1 ∧ (Int32.toNatClampNeg i1) < 3 then (if 0 ≤ i1 ∧ (Int32.toNatClampNeg i1) < 3 then (stI (u2 I 120 (Int32.toNatClampNeg i1) ((I 120 (Int32.toNatClampNeg i1)) + (1 : Int32))) (fun I_81 => (some (I_81, L)))) else none) else none)
    else none
set_option maxRecDepth 100000 in
theorem e_255_0 (n dp : Nat) (e : EN) (I : (Nat → Nat → Int32)) (L : (Nat → Nat → Int64)) (i1 : Int32) (i2 : Int32) (i3 : Int32) : g_255 (n + 1) dp e 0 I L i1 i2 i3 = (if 0 ≤ i1 ∧ (Int32.toNatClampNeg i1) < 3 then (if (64 : Int32) ≤ (I 120 (Int32.toNatClampNeg i1)) then (g_255 n dp e 2 I L i1 0 0) else (if 0 ≤ i1 ∧ (Int32.toNatClampNeg i1) < 3 then (stI (((640 : Int32) * i1) + ((10 : Int32) * (I 120 (Int32.toNatClampNeg i1)))) (fun v_26 => (g_255 n dp e 1 I L i1 v_26 (0 : Int32)))) else none)) else none) := by rw [g_255.eq_2, if_pos (show (0 : Nat) = 0 from rfl)]
set_option maxRecDepth 100000 in
theorem e_255_1 (n dp : Nat) (e : EN) (I : (Nat → Nat → Int32)) (L : (Nat → Nat → Int64)) (i1 : Int32) (i2 : Int32) (i3 : Int32) : g_255 (n + 1) dp e 1 I L i1 i2 i3 = (if (10 : Int32) ≤ i3 then (g_255 n dp e 2 I L i1 0 0) else (if 0 ≤ i3 ∧ (Int32.toNatClampNeg i3) < 10 then (if 0 ≤ (i2 + i3) ∧ (Int32.toNatClampNeg (i2 + i3)) < 1920 then (stI (u2 I 121 (Int32.toNatClampNeg (i2 + i3)) (I 123 (Int32.toNatClampNeg i3))) (fun I_48 => (if 0 ≤ ((100 : Int32) + i3) ∧ (Int32.toNatClampNeg ((100 : Int32) + i3)) < 110 then (if 0 ≤ (i2 + i3) ∧ (Int32.toNatClampNeg (i2 + i3)) < 1920 then (stI (u2 I_48 122 (Int32.toNatClampNeg (i2 + i3)) (I_48 124 (Int32.toNatClampNeg ((100 : Int32) + i3)))) (fun I_65 => (g_255 n dp e 1 I_65 L i1 i2 (i3 + Int32.ofInt (1))))) else none) else none))) else none) else none)) := by rw [g_255.eq_2, if_neg (show ¬ ((1 : Nat) = 0) by decide), if_pos (show (1 : Nat) = 1 from rfl)]
set_option maxRecDepth 100000 in
theorem e_255_2 (n dp : Nat) (e : EN) (I : (Nat → Nat → Int32)) (L : (Nat → Nat → Int64)) (i1 : Int32) (i2 : Int32) (i3 : Int32) : g_255 (n + 1) dp e 2 I L i1 i2 i3 = (if 0 ≤ i1 ∧ (Int32.toNatClampNeg i1) < 3 then (if 0 ≤ i1 ∧ (Int32.toNatClampNeg i1) < 3 then (stI (u2 I 120 (Int32.toNatClampNeg i1) ((I 120 (Int32.toNatClampNeg i1)) + (1 : Int32))) (fun I_81 => (some (I_81, L)))) else none) else none) := by rw [g_255.eq_2, if_neg (show ¬ ((2 : Nat) = 0) by decide), if_neg (show ¬ ((2 : Nat) = 1) by decide), if_pos (show (2 : Nat) = 2 from rfl)]
set_option maxHeartbeats 8000000 in
set_option maxRecDepth 100000 in
theorem w_255 (X : GX) {z : Nat} {kd : Nat → Nat × Nat} {Rf : Nat → Nat → Option Nat} (hS : Sh z kd Rf) : ∀ (n dp d : Nat), dp ≤ d → ∀ (I : (Nat → Nat → Int32)) (L : (Nat → Nat → Int64)) (i1 : Int32) (i2 : Int32) (i3 : Int32) (I1 : (Nat → Nat → Int32)) (L1 : (Nat → Nat → Int64)), (g_255 n dp (z, kd, Rf) 0 I L i1 i2 i3 = some (I1, L1) → K X d 255 0 0 (AV (fun τ => τ = (z, kd, I1, L1, Rf))) 0 [some (.ref 105), some (.int i1), none, none] [] (z, kd, I, L, Rf) 0 0) ∧
    (g_255 n dp (z, kd, Rf) 1 I L i1 i2 i3 = some (I1, L1) → K X d 255 0 0 (AV (fun τ => τ = (z, kd, I1, L1, Rf))) 29 [some (.ref 105), some (.int i1), some (.int i2), some (.int i3)] [] (z, kd, I, L, Rf) 0 0) ∧
    (g_255 n dp (z, kd, Rf) 2 I L i1 i2 i3 = some (I1, L1) → K X d 255 0 0 (AV (fun τ => τ = (z, kd, I1, L1, Rf))) 72 [some (.ref 105), some (.int i1), none, none] [] (z, kd, I, L, Rf) 0 0) := by
  intro n
  induction n with
  | zero => intro dp d hdp I L i1 i2 i3 I1 L1; exact ⟨(fun h => by cases h), (fun h => by cases h), (fun h => by cases h)⟩
  | succ n ih =>
    intro dp d hdp I L i1 i2 i3 I1 L1
    refine ⟨?_, ?_, ?_⟩
    · intro h
      rw [e_255_0] at h
      refine K_of b_255_0 h_255_0 ?_
      refine q_aload rfl ?_
      refine q_getRs (c0 := 12) (j := 33) rfl rfl (zl hS 105 (by decide)) (sk hS 105 (by decide) rfl) rfl (by decide) (r_105_33 hS) ?_
      refine q_iload rfl ?_
      obtain ⟨⟨u_5, v_5⟩, h⟩ := ite_some h
      refine q_ialN (Int32.toNatClampNeg i1) (nx u_5) (zl hS 120 (by decide)) (sk hS 120 (by decide) rfl) v_5 (by decide) ?_
      refine q_iconst (64) (by decide) ?_
      refine q_icmp_ge (fun c_8 => ?_) (fun c_8 => ?_)
      · rw [if_pos c_8] at h
        exact (ih dp d hdp _ _ i1 0 0 _ _).2.2 h
      · rw [if_neg c_8] at h
        refine q_iconst (640) (by decide) ?_
        refine q_iload rfl ?_
        refine q_imul ?_
        refine q_iconst (10) (by decide) ?_
        refine q_aload rfl ?_
        refine q_getRs (c0 := 12) (j := 33) rfl rfl (zl hS 105 (by decide)) (sk hS 105 (by decide) rfl) rfl (by decide) (r_105_33 hS) ?_
        refine q_iload rfl ?_
        obtain ⟨⟨u_23, v_23⟩, h⟩ := ite_some h
        refine q_ialN (Int32.toNatClampNeg i1) (nx u_23) (zl hS 120 (by decide)) (sk hS 120 (by decide) rfl) v_23 (by decide) ?_
        refine q_imul ?_
        refine q_iadd ?_
        obtain ⟨v_26, nv_26, h⟩ := stI_some h
        refine q_eqi nv_26.symm ?_
        refine q_istore (ls1 := [some (.ref 105), some (.int i1), some (.int v_26), none]) (Nat.le_of_ble_eq_true rfl) rfl ?_
        refine q_iconst (0) (by decide) ?_
        refine q_istore (ls1 := [some (.ref 105), some (.int i1), some (.int v_26), some (.int (0 : Int32))]) (Nat.le_of_ble_eq_true rfl) rfl ?_
        refine q_end ?_
        exact (ih dp d hdp _ _ i1 v_26 (0 : Int32) _ _).2.1 h
    · intro h
      rw [e_255_1] at h
      refine K_of b_255_29 h_255_29 ?_
      refine q_iload rfl ?_
      refine q_iconst (10) (by decide) ?_
      refine q_icmp_ge (fun c_32 => ?_) (fun c_32 => ?_)
      · rw [if_pos c_32] at h
        refine K_mask [true, true, false, false] (Nat.le_of_ble_eq_true rfl) ?_
        exact (ih dp d hdp _ _ i1 0 0 _ _).2.2 h
      · rw [if_neg c_32] at h
        refine q_aload rfl ?_
        refine q_getRs (c0 := 12) (j := 34) rfl rfl (zl hS 105 (by decide)) (sk hS 105 (by decide) rfl) rfl (by decide) (r_105_34 hS) ?_
        refine q_iload rfl ?_
        refine q_iload rfl ?_
        refine q_iadd ?_
        refine q_aload rfl ?_
        refine q_getRs (c0 := 12) (j := 36) rfl rfl (zl hS 105 (by decide)) (sk hS 105 (by decide) rfl) rfl (by decide) (r_105_36 hS) ?_
        refine q_iload rfl ?_
        obtain ⟨⟨u_47, v_47⟩, h⟩ := ite_some h
        refine q_ialN (Int32.toNatClampNeg i3) (nx u_47) (zl hS 123 (by decide)) (sk hS 123 (by decide) rfl) v_47 (by decide) ?_
        obtain ⟨⟨u_48, v_48⟩, h⟩ := ite_some h
        refine q_iasN (Int32.toNatClampNeg (i2 + i3)) (nx u_48) (zl hS 121 (by decide)) (sk hS 121 (by decide) rfl) v_48 (by decide) ?_
        obtain ⟨I_48, nI_48, h⟩ := stI_some h
        refine q_nI nI_48 ?_
        refine q_aload rfl ?_
        refine q_getRs (c0 := 12) (j := 35) rfl rfl (zl hS 105 (by decide)) (sk hS 105 (by decide) rfl) rfl (by decide) (r_105_35 hS) ?_
        refine q_iload rfl ?_
        refine q_iload rfl ?_
        refine q_iadd ?_
        refine q_aload rfl ?_
        refine q_getRs (c0 := 12) (j := 37) rfl rfl (zl hS 105 (by decide)) (sk hS 105 (by decide) rfl) rfl (by decide) (r_105_37 hS) ?_
        refine q_iconst (100) (by decide) ?_
        refine q_iload rfl ?_
        refine q_iadd ?_
        obtain ⟨⟨u_64, v_64⟩, h⟩ := ite_some h
        refine q_ialN (Int32.toNatClampNeg ((100 : Int32) + i3)) (nx u_64) (zl hS 124 (by decide)) (sk hS 124 (by decide) rfl) v_64 (by decide) ?_
        obtain ⟨⟨u_65, v_65⟩, h⟩ := ite_some h
        refine q_iasN (Int32.toNatClampNeg (i2 + i3)) (nx u_65) (zl hS 122 (by decide)) (sk hS 122 (by decide) rfl) v_65 (by decide) ?_
        obtain ⟨I_65, nI_65, h⟩ := stI_some h
        refine q_nI nI_65 ?_
        refine q_iinc (ls1 := [some (.ref 105), some (.int i1), some (.int i2), some (.int (i3 + Int32.ofInt (1)))]) rfl rfl ?_
        refine q_goto ?_
        exact (ih dp d hdp _ _ i1 i2 (i3 + Int32.ofInt (1)) _ _).2.1 h
    · intro h
      rw [e_255_2] at h
      refine K_of b_255_72 h_255_72 ?_
      refine q_aload rfl ?_
      refine q_getRs (c0 := 12) (j := 33) rfl rfl (zl hS 105 (by decide)) (sk hS 105 (by decide) rfl) rfl (by decide) (r_105_33 hS) ?_
      refine q_iload rfl ?_
      refine q_dup2 rfl rfl ?_
      obtain ⟨⟨u_78, v_78⟩, h⟩ := ite_some h
      refine q_ialN (Int32.toNatClampNeg i1) (nx u_78) (zl hS 120 (by decide)) (sk hS 120 (by decide) rfl) v_78 (by decide) ?_
      refine q_iconst (1) (by decide) ?_
      refine q_iadd ?_
      obtain ⟨⟨u_81, v_81⟩, h⟩ := ite_some h
      refine q_iasN (Int32.toNatClampNeg i1) (nx u_81) (zl hS 120 (by decide)) (sk hS 120 (by decide) rfl) v_81 (by decide) ?_
      obtain ⟨I_81, nI_81, h⟩ := stI_some h
      refine q_nI nI_81 ?_
      cases h
      exact q_vret rfl (Nat.le_refl _) (Nat.le_refl _) rfl
theorem a_255 (X : GX) {z : Nat} {kd : Nat → Nat × Nat} {Rf : Nat → Nat → Option Nat} (hS : Sh z kd Rf) {n dp d : Nat} (hd : dp ≤ d) {I : (Nat → Nat → Int32)} {L : (Nat → Nat → Int64)} {i1 : Int32} {I1 : (Nat → Nat → Int32)} {L1 : (Nat → Nat → Int64)} (h : g_255 n dp (z, kd, Rf) 0 I L i1 0 0 = some (I1, L1)) : Ct X d 255 0 0 [.ref 105, .int i1] (z, kd, I, L, Rf) (AV (fun τ => τ = (z, kd, I1, L1, Rf))) :=
  Ct_of mu_255 (Nat.le_of_ble_eq_true rfl) ((w_255 X hS n dp d hd I L i1 0 0 _ _).1 h)

/-! 256 CutFloorModel.goesOn(II)Z -/
set_option maxHeartbeats 4000000 in
set_option maxRecDepth 100000 in
def g_256 : Nat → Nat → EN → Nat → (Nat → Nat → Int32) → (Nat → Nat → Int64) → Int32 → Int32 → Int32 → Int32 → Int32 → Int32 → Int32 →  Option (Int32 × (Nat → Nat → Int32) × (Nat → Nat → Int64))
  | 0, _, _, _, _, _, _, _, _, _, _, _, _ => none
  | n + 1, dp, e, lab, I, L, i1, i2, i3, i4, i5, i6, i7 =>
    if lab = 0 then (g_256 n dp e 1 I L i1 i2 ((10 : Int32) * i2) (0 : Int32) 0 0 0)
    else if lab = 1 then (if i4 = 0 then (if 0 ≤ i2 ∧ (Int32.toNatClampNeg i2) < 10 then (if (I 107 9) ≤ (I 123 (Int32.toNatClampNeg i2)) then (if i4 = 0 ∨ i4 = 1 then (some (i4, I, L)) else none) else (if 0 ≤ i2 ∧ (Int32.toNatClampNeg i2) < 10 then (if 0 ≤ i2 ∧ (Int32.toNatClampNeg i2) < 10 then (stI (u2 I 123 (Int32.toNatClampNeg i2) ((I 123 (Int32.toNatClampNeg i2)) + (1 : Int32))) (fun I_38 => (if 0 ≤ i2 ∧ (Int32.toNatClampNeg i2) < 10 then (stI (I_38 123 (Int32.toNatClampNeg i2)) (fun v_45 => (if v_45 = (-1 : Int32) then (g_256 n dp e 2 I_38 L i1 i2 i3 i4 v_45 (0 : Int32) 0) else (if (I_38 107 9) ≤ v_45 then (g_256 n dp e 4 I_38 L i1 i2 i3 i4 v_45 0 0) else (if 0 ≤ (i3 + i2) ∧ (Int32.toNatClampNeg (i3 + i2)) < 110 then (if (I_38 124 (Int32.toNatClampNeg (i3 + i2))) ≤ 0 then (g_256 n dp e 4 I_38 L i1 i2 i3 i4 v_45 0 0) else (if 0 ≤ (((16 : Int32) * i1) + v_45) ∧ (Int32.toNatClampNeg (((16 : Int32) * i1) + v_45)) < 48 then (if (I_38 125 (Int32.toNatClampNeg (((16 : Int32) * i1) + v_45))) = 0 then (g_256 n dp e 4 I_38 L i1 i2 i3 i4 v_45 0 0) else (if 1 ≤ dp then (g_240 n (dp - 1) e 0 I_38 L v_45).bind (fun ⟨x0_137, I0_137, L0_137⟩ => (if x0_137 = i2 then (g_256 n dp e 3 I0_137 L0_137 i1 i2 i3 i4 v_45 (0 : Int32) (0 : Int32)) else (g_256 n dp e 4 I0_137 L0_137 i1 i2 i3 i4 v_45 0 0))) else none)) else none)) else none))))) else none))) else none) else none)) else none) else (if i4 = 0 ∨ i4 = 1 then (some (i4, I, L)) else none))
    else if lab = 2 then (if (10 : Int32) ≤ i6 then (g_256 n dp e 4 I L i1 i2 i3 (1 : Int32) i5 0 0) else (if 0 ≤ (i3 + i6) ∧ (Int32.toNatClampNeg (i3 + i6)) < 110 then (if 0 ≤ ((i3 + (10 : Int32)) + i6) ∧ (Int32.toNatClampNeg ((i3 + (10 : Int32)) + i6)) < 110 then (stI (u2 I 124 (Int32.toNatClampNeg ((i3 + (10 : Int32)) + i6)) (I 124 (Int32.toNatClampNeg (i3 + i6)))) (fun I_83 => (g_256 n dp e 2 I_83 L i1 i2 i3 i4 i5 (i6 + Int32.ofInt (1)) 0))) else none) else none))
    else if lab = 3 then (if (10 : Int32) ≤ i7 then (if (200 : Int32) < i6 then (g_256 n dp e 4 I L i1 i2 i3 (0 : Int32) i5 0 0) else (g_256 n dp e 4 I L i1 i2 i3 (1 : Int32) i5 0 0)) else (if i7 = i2 then (if 0 ≤ ((i3 + (10 : Int32)) + i7) ∧ (Int32.toNatClampNeg ((i3 + (10 : Int32)) + i7)) < 110 then (stI (u2 I 124 (Int32.toNatClampNeg ((i3 + (10 : Int32)) + i7)) (0 : Int32)) (fun I_209 => (g_256 n dp e 3 I_209 L i1 i2 i3 i4 i5 (i6 + (0 : Int32)) (i7 + Int32.ofInt (1))))) else none) else (if 0 ≤ (i3 + i7) ∧ (Int32.toNatClampNeg (i3 + i7)) < 110 then (if 0 ≤ (i3 + i2) ∧ (Int32.toNatClampNeg (i3 + i2)) < 110 then (if 1 ≤ dp then (g_241 n (dp - 1) e 0 I L i5 i7).bind (fun ⟨x0_189, I0_189, L0_189⟩ => (stI ((I 124 (Int32.toNatClampNeg (i3 + i7))) + ((I 124 (Int32.toNatClampNeg (i3 + i2))) * x0_189)) (fun v_194 => (if 0 ≤ ((i3 + (10 : Int32)) + i7) ∧ (Int32.toNatClampNeg ((i3 + (10 : Int32)) + i7)) < 110 then (stI (u2 I0_189 124 (Int32.toNatClampNeg ((i3 + (10 : Int32)) + i7)) v_194) (fun I_209 => (g_256 n dp e 3 I_209 L0_189 i1 i2 i3 i4 i5 (i6 + v_194) (i7 + Int32.ofInt (1))))) else none)))) else none) else none) else none)))
    else if lab = 4 then (g_256 n dp e 1 I L i1 i2 i3 i4 0 0 0)
    else none
set_option maxRecDepth 100000 in
theorem e_256_0 (n dp : Nat) (e : EN) (I : (Nat → Nat → Int32)) (L : (Nat → Nat → Int64)) (i1 : Int32) (i2 : Int32) (i3 : Int32) (i4 : Int32) (i5 : Int32) (i6 : Int32) (i7 : Int32) : g_256 (n + 1) dp e 0 I L i1 i2 i3 i4 i5 i6 i7 = (g_256 n dp e 1 I L i1 i2 ((10 : Int32) * i2) (0 : Int32) 0 0 0) := by rw [g_256.eq_2, if_pos (show (0 : Nat) = 0 from rfl)]
set_option maxRecDepth 100000 in
theorem e_256_1 (n dp : Nat) (e : EN) (I : (Nat → Nat → Int32)) (L : (Nat → Nat → Int64)) (i1 : Int32) (i2 : Int32) (i3 : Int32) (i4 : Int32) (i5 : Int32) (i6 : Int32) (i7 : Int32) : g_256 (n + 1) dp e 1 I L i1 i2 i3 i4 i5 i6 i7 = (if i4 = 0 then (if 0 ≤ i2 ∧ (Int32.toNatClampNeg i2) < 10 then (if (I 107 9) ≤ (I 123 (Int32.toNatClampNeg i2)) then (if i4 = 0 ∨ i4 = 1 then (some (i4, I, L)) else none) else (if 0 ≤ i2 ∧ (Int32.toNatClampNeg i2) < 10 then (if 0 ≤ i2 ∧ (Int32.toNatClampNeg i2) < 10 then (stI (u2 I 123 (Int32.toNatClampNeg i2) ((I 123 (Int32.toNatClampNeg i2)) + (1 : Int32))) (fun I_38 => (if 0 ≤ i2 ∧ (Int32.toNatClampNeg i2) < 10 then (stI (I_38 123 (Int32.toNatClampNeg i2)) (fun v_45 => (if v_45 = (-1 : Int32) then (g_256 n dp e 2 I_38 L i1 i2 i3 i4 v_45 (0 : Int32) 0) else (if (I_38 107 9) ≤ v_45 then (g_256 n dp e 4 I_38 L i1 i2 i3 i4 v_45 0 0) else (if 0 ≤ (i3 + i2) ∧ (Int32.toNatClampNeg (i3 + i2)) < 110 then (if (I_38 124 (Int32.toNatClampNeg (i3 + i2))) ≤ 0 then (g_256 n dp e 4 I_38 L i1 i2 i3 i4 v_45 0 0) else (if 0 ≤ (((16 : Int32) * i1) + v_45) ∧ (Int32.toNatClampNeg (((16 : Int32) * i1) + v_45)) < 48 then (if (I_38 125 (Int32.toNatClampNeg (((16 : Int32) * i1) + v_45))) = 0 then (g_256 n dp e 4 I_38 L i1 i2 i3 i4 v_45 0 0) else (if 1 ≤ dp then (g_240 n (dp - 1) e 0 I_38 L v_45).bind (fun ⟨x0_137, I0_137, L0_137⟩ => (if x0_137 = i2 then (g_256 n dp e 3 I0_137 L0_137 i1 i2 i3 i4 v_45 (0 : Int32) (0 : Int32)) else (g_256 n dp e 4 I0_137 L0_137 i1 i2 i3 i4 v_45 0 0))) else none)) else none)) else none))))) else none))) else none) else none)) else none) else (if i4 = 0 ∨ i4 = 1 then (some (i4, I, L)) else none)) := by rw [g_256.eq_2, if_neg (show ¬ ((1 : Nat) = 0) by decide), if_pos (show (1 : Nat) = 1 from rfl)]
set_option maxRecDepth 100000 in
theorem e_256_2 (n dp : Nat) (e : EN) (I : (Nat → Nat → Int32)) (L : (Nat → Nat → Int64)) (i1 : Int32) (i2 : Int32) (i3 : Int32) (i4 : Int32) (i5 : Int32) (i6 : Int32) (i7 : Int32) : g_256 (n + 1) dp e 2 I L i1 i2 i3 i4 i5 i6 i7 = (if (10 : Int32) ≤ i6 then (g_256 n dp e 4 I L i1 i2 i3 (1 : Int32) i5 0 0) else (if 0 ≤ (i3 + i6) ∧ (Int32.toNatClampNeg (i3 + i6)) < 110 then (if 0 ≤ ((i3 + (10 : Int32)) + i6) ∧ (Int32.toNatClampNeg ((i3 + (10 : Int32)) + i6)) < 110 then (stI (u2 I 124 (Int32.toNatClampNeg ((i3 + (10 : Int32)) + i6)) (I 124 (Int32.toNatClampNeg (i3 + i6)))) (fun I_83 => (g_256 n dp e 2 I_83 L i1 i2 i3 i4 i5 (i6 + Int32.ofInt (1)) 0))) else none) else none)) := by rw [g_256.eq_2, if_neg (show ¬ ((2 : Nat) = 0) by decide), if_neg (show ¬ ((2 : Nat) = 1) by decide), if_pos (show (2 : Nat) = 2 from rfl)]
set_option maxRecDepth 100000 in
theorem e_256_3 (n dp : Nat) (e : EN) (I : (Nat → Nat → Int32)) (L : (Nat → Nat → Int64)) (i1 : Int32) (i2 : Int32) (i3 : Int32) (i4 : Int32) (i5 : Int32) (i6 : Int32) (i7 : Int32) : g_256 (n + 1) dp e 3 I L i1 i2 i3 i4 i5 i6 i7 = (if (10 : Int32) ≤ i7 then (if (200 : Int32) < i6 then (g_256 n dp e 4 I L i1 i2 i3 (0 : Int32) i5 0 0) else (g_256 n dp e 4 I L i1 i2 i3 (1 : Int32) i5 0 0)) else (if i7 = i2 then (if 0 ≤ ((i3 + (10 : Int32)) + i7) ∧ (Int32.toNatClampNeg ((i3 + (10 : Int32)) + i7)) < 110 then (stI (u2 I 124 (Int32.toNatClampNeg ((i3 + (10 : Int32)) + i7)) (0 : Int32)) (fun I_209 => (g_256 n dp e 3 I_209 L i1 i2 i3 i4 i5 (i6 + (0 : Int32)) (i7 + Int32.ofInt (1))))) else none) else (if 0 ≤ (i3 + i7) ∧ (Int32.toNatClampNeg (i3 + i7)) < 110 then (if 0 ≤ (i3 + i2) ∧ (Int32.toNatClampNeg (i3 + i2)) < 110 then (if 1 ≤ dp then (g_241 n (dp - 1) e 0 I L i5 i7).bind (fun ⟨x0_189, I0_189, L0_189⟩ => (stI ((I 124 (Int32.toNatClampNeg (i3 + i7))) + ((I 124 (Int32.toNatClampNeg (i3 + i2))) * x0_189)) (fun v_194 => (if 0 ≤ ((i3 + (10 : Int32)) + i7) ∧ (Int32.toNatClampNeg ((i3 + (10 : Int32)) + i7)) < 110 then (stI (u2 I0_189 124 (Int32.toNatClampNeg ((i3 + (10 : Int32)) + i7)) v_194) (fun I_209 => (g_256 n dp e 3 I_209 L0_189 i1 i2 i3 i4 i5 (i6 + v_194) (i7 + Int32.ofInt (1))))) else none)))) else none) else none) else none))) := by rw [g_256.eq_2, if_neg (show ¬ ((3 : Nat) = 0) by decide), if_neg (show ¬ ((3 : Nat) = 1) by decide), if_neg (show ¬ ((3 : Nat) = 2) by decide), if_pos (show (3 : Nat) = 3 from rfl)]
set_option maxRecDepth 100000 in
theorem e_256_4 (n dp : Nat) (e : EN) (I : (Nat → Nat → Int32)) (L : (Nat → Nat → Int64)) (i1 : Int32) (i2 : Int32) (i3 : Int32) (i4 : Int32) (i5 : Int32) (i6 : Int32) (i7 : Int32) : g_256 (n + 1) dp e 4 I L i1 i2 i3 i4 i5 i6 i7 = (g_256 n dp e 1 I L i1 i2 i3 i4 0 0 0) := by rw [g_256.eq_2, if_neg (show ¬ ((4 : Nat) = 0) by decide), if_neg (show ¬ ((4 : Nat) = 1) by decide), if_neg (show ¬ ((4 : Nat) = 2) by decide), if_neg (show ¬ ((4 : Nat) = 3) by decide), if_pos (show (4 : Nat) = 4 from rfl)]
set_option maxHeartbeats 8000000 in
set_option maxRecDepth 100000 in
theorem w_256 (X : GX) {z : Nat} {kd : Nat → Nat × Nat} {Rf : Nat → Nat → Option Nat} (hS : Sh z kd Rf) : ∀ (n dp d : Nat), dp ≤ d → ∀ (I : (Nat → Nat → Int32)) (L : (Nat → Nat → Int64)) (i1 : Int32) (i2 : Int32) (i3 : Int32) (i4 : Int32) (i5 : Int32) (i6 : Int32) (i7 : Int32) (r : Int32) (I1 : (Nat → Nat → Int32)) (L1 : (Nat → Nat → Int64)), (g_256 n dp (z, kd, Rf) 0 I L i1 i2 i3 i4 i5 i6 i7 = some (r, I1, L1) → K X d 256 0 0 (AI (fun x τ => x = r ∧ τ = (z, kd, I1, L1, Rf))) 0 [some (.ref 105), some (.int i1), some (.int i2), none, none, none, none, none, none] [] (z, kd, I, L, Rf) 0 0) ∧
    (g_256 n dp (z, kd, Rf) 1 I L i1 i2 i3 i4 i5 i6 i7 = some (r, I1, L1) → K X d 256 0 0 (AI (fun x τ => x = r ∧ τ = (z, kd, I1, L1, Rf))) 8 [some (.ref 105), some (.int i1), some (.int i2), some (.int i3), some (.int i4), none, none, none, none] [] (z, kd, I, L, Rf) 0 0) ∧
    (g_256 n dp (z, kd, Rf) 2 I L i1 i2 i3 i4 i5 i6 i7 = some (r, I1, L1) → K X d 256 0 0 (AI (fun x τ => x = r ∧ τ = (z, kd, I1, L1, Rf))) 56 [some (.ref 105), some (.int i1), some (.int i2), some (.int i3), some (.int i4), some (.int i5), some (.int i6), none, none] [] (z, kd, I, L, Rf) 0 0) ∧
    (g_256 n dp (z, kd, Rf) 3 I L i1 i2 i3 i4 i5 i6 i7 = some (r, I1, L1) → K X d 256 0 0 (AI (fun x τ => x = r ∧ τ = (z, kd, I1, L1, Rf))) 150 [some (.ref 105), some (.int i1), some (.int i2), some (.int i3), some (.int i4), some (.int i5), some (.int i6), some (.int i7), none] [] (z, kd, I, L, Rf) 0 0) ∧
    (g_256 n dp (z, kd, Rf) 4 I L i1 i2 i3 i4 i5 i6 i7 = some (r, I1, L1) → K X d 256 0 0 (AI (fun x τ => x = r ∧ τ = (z, kd, I1, L1, Rf))) 238 [some (.ref 105), some (.int i1), some (.int i2), some (.int i3), some (.int i4), some (.int i5), none, none, none] [] (z, kd, I, L, Rf) 0 0) := by
  intro n
  induction n with
  | zero => intro dp d hdp I L i1 i2 i3 i4 i5 i6 i7 r I1 L1; exact ⟨(fun h => by cases h), (fun h => by cases h), (fun h => by cases h), (fun h => by cases h), (fun h => by cases h)⟩
  | succ n ih =>
    intro dp d hdp I L i1 i2 i3 i4 i5 i6 i7 r I1 L1
    refine ⟨?_, ?_, ?_, ?_, ?_⟩
    · intro h
      rw [e_256_0] at h
      refine K_of b_256_0 h_256_0 ?_
      refine q_iconst (10) (by decide) ?_
      refine q_iload rfl ?_
      refine q_imul ?_
      refine q_istore (ls1 := [some (.ref 105), some (.int i1), some (.int i2), some (.int ((10 : Int32) * i2)), none, none, none, none, none]) (Nat.le_of_ble_eq_true rfl) rfl ?_
      refine q_iconst (0) (by decide) ?_
      refine q_istore (ls1 := [some (.ref 105), some (.int i1), some (.int i2), some (.int ((10 : Int32) * i2)), some (.int (0 : Int32)), none, none, none, none]) (Nat.le_of_ble_eq_true rfl) rfl ?_
      refine q_end ?_
      exact (ih dp d hdp _ _ i1 i2 ((10 : Int32) * i2) (0 : Int32) 0 0 0 _ _ _).2.1 h
    · intro h
      rw [e_256_1] at h
      refine K_of b_256_8 h_256_8 ?_
      refine q_iload rfl ?_
      refine q_if_ne (fun c_10 => ?_) (fun c_10 => ?_)
      · rw [if_neg c_10] at h
        refine K_of b_256_241 h_256_241 ?_
        refine q_iload rfl ?_
        obtain ⟨w_243, h⟩ := ite_some h
        cases h
        exact q_iret (narB w_243) (Nat.le_refl _) (Nat.le_refl _) ⟨rfl, rfl⟩
      · rw [if_pos c_10] at h
        refine q_aload rfl ?_
        refine q_getRs (c0 := 12) (j := 36) rfl rfl (zl hS 105 (by decide)) (sk hS 105 (by decide) rfl) rfl (by decide) (r_105_36 hS) ?_
        refine q_iload rfl ?_
        obtain ⟨⟨u_18, v_18⟩, h⟩ := ite_some h
        refine q_ialN (Int32.toNatClampNeg i2) (nx u_18) (zl hS 123 (by decide)) (sk hS 123 (by decide) rfl) v_18 (by decide) ?_
        refine q_aload rfl ?_
        refine q_getRs (c0 := 12) (j := 3) rfl rfl (zl hS 105 (by decide)) (sk hS 105 (by decide) rfl) rfl (by decide) (r_105_3 hS) ?_
        refine q_iconst (9) (by decide) ?_
        refine q_ialN (9) rfl (zl hS 107 (by decide)) (sk hS 107 (by decide) rfl) (by decide) (by decide) ?_
        refine q_icmp_ge (fun c_26 => ?_) (fun c_26 => ?_)
        · rw [if_pos c_26] at h
          refine K_of b_256_241 h_256_241 ?_
          refine q_iload rfl ?_
          obtain ⟨w_243, h⟩ := ite_some h
          cases h
          exact q_iret (narB w_243) (Nat.le_refl _) (Nat.le_refl _) ⟨rfl, rfl⟩
        · rw [if_neg c_26] at h
          refine q_aload rfl ?_
          refine q_getRs (c0 := 12) (j := 36) rfl rfl (zl hS 105 (by decide)) (sk hS 105 (by decide) rfl) rfl (by decide) (r_105_36 hS) ?_
          refine q_iload rfl ?_
          refine q_dup2 rfl rfl ?_
          obtain ⟨⟨u_35, v_35⟩, h⟩ := ite_some h
          refine q_ialN (Int32.toNatClampNeg i2) (nx u_35) (zl hS 123 (by decide)) (sk hS 123 (by decide) rfl) v_35 (by decide) ?_
          refine q_iconst (1) (by decide) ?_
          refine q_iadd ?_
          obtain ⟨⟨u_38, v_38⟩, h⟩ := ite_some h
          refine q_iasN (Int32.toNatClampNeg i2) (nx u_38) (zl hS 123 (by decide)) (sk hS 123 (by decide) rfl) v_38 (by decide) ?_
          obtain ⟨I_38, nI_38, h⟩ := stI_some h
          refine q_nI nI_38 ?_
          refine q_aload rfl ?_
          refine q_getRs (c0 := 12) (j := 36) rfl rfl (zl hS 105 (by decide)) (sk hS 105 (by decide) rfl) rfl (by decide) (r_105_36 hS) ?_
          refine q_iload rfl ?_
          obtain ⟨⟨u_44, v_44⟩, h⟩ := ite_some h
          refine q_ialN (Int32.toNatClampNeg i2) (nx u_44) (zl hS 123 (by decide)) (sk hS 123 (by decide) rfl) v_44 (by decide) ?_
          obtain ⟨v_45, nv_45, h⟩ := stI_some h
          refine q_eqi nv_45.symm ?_
          refine q_istore (ls1 := [some (.ref 105), some (.int i1), some (.int i2), some (.int i3), some (.int i4), some (.int v_45), none, none, none]) (Nat.le_of_ble_eq_true rfl) rfl ?_
          refine q_iload rfl ?_
          refine q_iconst (-1) (by decide) ?_
          refine q_icmp_ne (fun c_50 => ?_) (fun c_50 => ?_)
          · rw [if_neg c_50] at h
            refine K_of b_256_96 h_256_96 ?_
            refine q_iload rfl ?_
            refine q_aload rfl ?_
            refine q_getRs (c0 := 12) (j := 3) rfl rfl (zl hS 105 (by decide)) (sk hS 105 (by decide) rfl) rfl (by decide) (r_105_3 hS) ?_
            refine q_iconst (9) (by decide) ?_
            refine q_ialN (9) rfl (zl hS 107 (by decide)) (sk hS 107 (by decide) rfl) (by decide) (by decide) ?_
            refine q_icmp_ge (fun c_105 => ?_) (fun c_105 => ?_)
            · rw [if_pos c_105] at h
              exact (ih dp d hdp _ _ i1 i2 i3 i4 v_45 0 0 _ _ _).2.2.2.2 h
            · rw [if_neg c_105] at h
              refine q_aload rfl ?_
              refine q_getRs (c0 := 12) (j := 37) rfl rfl (zl hS 105 (by decide)) (sk hS 105 (by decide) rfl) rfl (by decide) (r_105_37 hS) ?_
              refine q_iload rfl ?_
              refine q_iload rfl ?_
              refine q_iadd ?_
              obtain ⟨⟨u_115, v_115⟩, h⟩ := ite_some h
              refine q_ialN (Int32.toNatClampNeg (i3 + i2)) (nx u_115) (zl hS 124 (by decide)) (sk hS 124 (by decide) rfl) v_115 (by decide) ?_
              refine q_if_le (fun c_116 => ?_) (fun c_116 => ?_)
              · rw [if_pos c_116] at h
                exact (ih dp d hdp _ _ i1 i2 i3 i4 v_45 0 0 _ _ _).2.2.2.2 h
              · rw [if_neg c_116] at h
                refine q_aload rfl ?_
                refine q_getRs (c0 := 12) (j := 38) rfl rfl (zl hS 105 (by decide)) (sk hS 105 (by decide) rfl) rfl (by decide) (r_105_38 hS) ?_
                refine q_iconst (16) (by decide) ?_
                refine q_iload rfl ?_
                refine q_imul ?_
                refine q_iload rfl ?_
                refine q_iadd ?_
                obtain ⟨⟨u_130, v_130⟩, h⟩ := ite_some h
                refine q_zalN (Int32.toNatClampNeg (((16 : Int32) * i1) + v_45)) (nx u_130) (zl hS 125 (by decide)) (sk hS 125 (by decide) rfl) v_130 (by decide) ?_
                refine q_if_eq (fun c_131 => ?_) (fun c_131 => ?_)
                · rw [if_pos c_131] at h
                  exact (ih dp d hdp _ _ i1 i2 i3 i4 v_45 0 0 _ _ _).2.2.2.2 h
                · rw [if_neg c_131] at h
                  refine q_aload rfl ?_
                  refine q_iload rfl ?_
                  obtain ⟨d_137, h⟩ := ite_some h
                  obtain ⟨⟨x0_137, I0_137, L0_137⟩, e_137, h⟩ := Option.bind_eq_some_iff.mp h
                  dsimp only at h
                  refine q_fv2I (a_240 X hS (d := d - 1) (by omega) e_137) (by omega) (Nat.le_refl _) (Nat.le_refl _) rfl (Nat.le_of_ble_eq_true rfl) ⟨(zl hS 105 (by decide)), congrArg Prod.fst (sk hS 105 (by decide) rfl), by decide⟩ ?_
                  refine q_iload rfl ?_
                  refine q_icmp_ne (fun c_141 => ?_) (fun c_141 => ?_)
                  · rw [if_neg c_141] at h
                    exact (ih dp d hdp _ _ i1 i2 i3 i4 v_45 0 0 _ _ _).2.2.2.2 h
                  · rw [if_pos c_141] at h
                    refine q_iconst (0) (by decide) ?_
                    refine q_istore (ls1 := [some (.ref 105), some (.int i1), some (.int i2), some (.int i3), some (.int i4), some (.int v_45), some (.int (0 : Int32)), none, none]) (Nat.le_of_ble_eq_true rfl) rfl ?_
                    refine q_iconst (0) (by decide) ?_
                    refine q_istore (ls1 := [some (.ref 105), some (.int i1), some (.int i2), some (.int i3), some (.int i4), some (.int v_45), some (.int (0 : Int32)), some (.int (0 : Int32)), none]) (Nat.le_of_ble_eq_true rfl) rfl ?_
                    refine q_end ?_
                    exact (ih dp d hdp _ _ i1 i2 i3 i4 v_45 (0 : Int32) (0 : Int32) _ _ _).2.2.2.1 h
          · rw [if_pos c_50] at h
            refine q_iconst (0) (by decide) ?_
            refine q_istore (ls1 := [some (.ref 105), some (.int i1), some (.int i2), some (.int i3), some (.int i4), some (.int v_45), some (.int (0 : Int32)), none, none]) (Nat.le_of_ble_eq_true rfl) rfl ?_
            refine q_end ?_
            exact (ih dp d hdp _ _ i1 i2 i3 i4 v_45 (0 : Int32) 0 _ _ _).2.2.1 h
    · intro h
      rw [e_256_2] at h
      refine K_of b_256_56 h_256_56 ?_
      refine q_iload rfl ?_
      refine q_iconst (10) (by decide) ?_
      refine q_icmp_ge (fun c_60 => ?_) (fun c_60 => ?_)
      · rw [if_pos c_60] at h
        refine K_of b_256_90 h_256_90 ?_
        refine q_iconst (1) (by decide) ?_
        refine q_istore (ls1 := [some (.ref 105), some (.int i1), some (.int i2), some (.int i3), some (.int (1 : Int32)), some (.int i5), some (.int i6), none, none]) (Nat.le_of_ble_eq_true rfl) rfl ?_
        refine q_goto ?_
        refine K_mask [true, true, true, true, true, true, false, false, false] (Nat.le_of_ble_eq_true rfl) ?_
        exact (ih dp d hdp _ _ i1 i2 i3 (1 : Int32) i5 0 0 _ _ _).2.2.2.2 h
      · rw [if_neg c_60] at h
        refine q_aload rfl ?_
        refine q_getRs (c0 := 12) (j := 37) rfl rfl (zl hS 105 (by decide)) (sk hS 105 (by decide) rfl) rfl (by decide) (r_105_37 hS) ?_
        refine q_iload rfl ?_
        refine q_iconst (10) (by decide) ?_
        refine q_iadd ?_
        refine q_iload rfl ?_
        refine q_iadd ?_
        refine q_aload rfl ?_
        refine q_getRs (c0 := 12) (j := 37) rfl rfl (zl hS 105 (by decide)) (sk hS 105 (by decide) rfl) rfl (by decide) (r_105_37 hS) ?_
        refine q_iload rfl ?_
        refine q_iload rfl ?_
        refine q_iadd ?_
        obtain ⟨⟨u_82, v_82⟩, h⟩ := ite_some h
        refine q_ialN (Int32.toNatClampNeg (i3 + i6)) (nx u_82) (zl hS 124 (by decide)) (sk hS 124 (by decide) rfl) v_82 (by decide) ?_
        obtain ⟨⟨u_83, v_83⟩, h⟩ := ite_some h
        refine q_iasN (Int32.toNatClampNeg ((i3 + (10 : Int32)) + i6)) (nx u_83) (zl hS 124 (by decide)) (sk hS 124 (by decide) rfl) v_83 (by decide) ?_
        obtain ⟨I_83, nI_83, h⟩ := stI_some h
        refine q_nI nI_83 ?_
        refine q_iinc (ls1 := [some (.ref 105), some (.int i1), some (.int i2), some (.int i3), some (.int i4), some (.int i5), some (.int (i6 + Int32.ofInt (1))), none, none]) rfl rfl ?_
        refine q_goto ?_
        exact (ih dp d hdp _ _ i1 i2 i3 i4 i5 (i6 + Int32.ofInt (1)) 0 _ _ _).2.2.1 h
    · intro h
      rw [e_256_3] at h
      refine K_of b_256_150 h_256_150 ?_
      refine q_iload rfl ?_
      refine q_iconst (10) (by decide) ?_
      refine q_icmp_ge (fun c_154 => ?_) (fun c_154 => ?_)
      · rw [if_pos c_154] at h
        refine K_of b_256_223 h_256_223 ?_
        refine q_iload rfl ?_
        refine q_iconst (200) (by decide) ?_
        refine q_icmp_gt (fun c_228 => ?_) (fun c_228 => ?_)
        · rw [if_pos c_228] at h
          refine K_of b_256_235 h_256_235 ?_
          refine q_iconst (0) (by decide) ?_
          refine q_end ?_
          refine K_of b_256_236 h_256_236 ?_
          refine q_istore (ls1 := [some (.ref 105), some (.int i1), some (.int i2), some (.int i3), some (.int (0 : Int32)), some (.int i5), some (.int i6), some (.int i7), none]) (Nat.le_of_ble_eq_true rfl) rfl ?_
          refine q_end ?_
          refine K_mask [true, true, true, true, true, true, false, false, false] (Nat.le_of_ble_eq_true rfl) ?_
          exact (ih dp d hdp _ _ i1 i2 i3 (0 : Int32) i5 0 0 _ _ _).2.2.2.2 h
        · rw [if_neg c_228] at h
          refine q_iconst (1) (by decide) ?_
          refine q_goto ?_
          refine K_of b_256_236 h_256_236 ?_
          refine q_istore (ls1 := [some (.ref 105), some (.int i1), some (.int i2), some (.int i3), some (.int (1 : Int32)), some (.int i5), some (.int i6), some (.int i7), none]) (Nat.le_of_ble_eq_true rfl) rfl ?_
          refine q_end ?_
          refine K_mask [true, true, true, true, true, true, false, false, false] (Nat.le_of_ble_eq_true rfl) ?_
          exact (ih dp d hdp _ _ i1 i2 i3 (1 : Int32) i5 0 0 _ _ _).2.2.2.2 h
      · rw [if_neg c_154] at h
        refine q_iload rfl ?_
        refine q_iload rfl ?_
        refine q_icmp_ne (fun c_160 => ?_) (fun c_160 => ?_)
        · rw [if_neg c_160] at h
          refine K_of b_256_167 h_256_167 ?_
          refine q_aload rfl ?_
          refine q_getRs (c0 := 12) (j := 37) rfl rfl (zl hS 105 (by decide)) (sk hS 105 (by decide) rfl) rfl (by decide) (r_105_37 hS) ?_
          refine q_iload rfl ?_
          refine q_iload rfl ?_
          refine q_iadd ?_
          obtain ⟨⟨u_175, v_175⟩, h⟩ := ite_some h
          refine q_ialN (Int32.toNatClampNeg (i3 + i7)) (nx u_175) (zl hS 124 (by decide)) (sk hS 124 (by decide) rfl) v_175 (by decide) ?_
          refine q_aload rfl ?_
          refine q_getRs (c0 := 12) (j := 37) rfl rfl (zl hS 105 (by decide)) (sk hS 105 (by decide) rfl) rfl (by decide) (r_105_37 hS) ?_
          refine q_iload rfl ?_
          refine q_iload rfl ?_
          refine q_iadd ?_
          obtain ⟨⟨u_183, v_183⟩, h⟩ := ite_some h
          refine q_ialN (Int32.toNatClampNeg (i3 + i2)) (nx u_183) (zl hS 124 (by decide)) (sk hS 124 (by decide) rfl) v_183 (by decide) ?_
          refine q_aload rfl ?_
          refine q_iload rfl ?_
          refine q_iload rfl ?_
          obtain ⟨d_189, h⟩ := ite_some h
          obtain ⟨⟨x0_189, I0_189, L0_189⟩, e_189, h⟩ := Option.bind_eq_some_iff.mp h
          dsimp only at h
          refine q_fv3I (a_241 X hS (d := d - 1) (by omega) e_189) (by omega) (Nat.le_refl _) (Nat.le_refl _) rfl (Nat.le_of_ble_eq_true rfl) ⟨(zl hS 105 (by decide)), congrArg Prod.fst (sk hS 105 (by decide) rfl), by decide⟩ ?_
          refine q_imul ?_
          refine q_iadd ?_
          refine q_end ?_
          refine K_of b_256_194 h_256_194 ?_
          obtain ⟨v_194, nv_194, h⟩ := stI_some h
          refine q_eqi nv_194.symm ?_
          refine q_istore (ls1 := [some (.ref 105), some (.int i1), some (.int i2), some (.int i3), some (.int i4), some (.int i5), some (.int i6), some (.int i7), some (.int v_194)]) (Nat.le_of_ble_eq_true rfl) rfl ?_
          refine q_aload rfl ?_
          refine q_getRs (c0 := 12) (j := 37) rfl rfl (zl hS 105 (by decide)) (sk hS 105 (by decide) rfl) rfl (by decide) (r_105_37 hS) ?_
          refine q_iload rfl ?_
          refine q_iconst (10) (by decide) ?_
          refine q_iadd ?_
          refine q_iload rfl ?_
          refine q_iadd ?_
          refine q_iload rfl ?_
          obtain ⟨⟨u_209, v_209⟩, h⟩ := ite_some h
          refine q_iasN (Int32.toNatClampNeg ((i3 + (10 : Int32)) + i7)) (nx u_209) (zl hS 124 (by decide)) (sk hS 124 (by decide) rfl) v_209 (by decide) ?_
          obtain ⟨I_209, nI_209, h⟩ := stI_some h
          refine q_nI nI_209 ?_
          refine q_iload rfl ?_
          refine q_iload rfl ?_
          refine q_iadd ?_
          refine q_istore (ls1 := [some (.ref 105), some (.int i1), some (.int i2), some (.int i3), some (.int i4), some (.int i5), some (.int (i6 + v_194)), some (.int i7), some (.int v_194)]) (Nat.le_of_ble_eq_true rfl) rfl ?_
          refine q_iinc (ls1 := [some (.ref 105), some (.int i1), some (.int i2), some (.int i3), some (.int i4), some (.int i5), some (.int (i6 + v_194)), some (.int (i7 + Int32.ofInt (1))), some (.int v_194)]) rfl rfl ?_
          refine q_goto ?_
          refine K_mask [true, true, true, true, true, true, true, true, false] (Nat.le_of_ble_eq_true rfl) ?_
          exact (ih dp d hdp _ _ i1 i2 i3 i4 i5 (i6 + v_194) (i7 + Int32.ofInt (1)) _ _ _).2.2.2.1 h
        · rw [if_pos c_160] at h
          refine q_iconst (0) (by decide) ?_
          refine q_goto ?_
          refine K_of b_256_194 h_256_194 ?_
          refine q_istore (ls1 := [some (.ref 105), some (.int i1), some (.int i2), some (.int i3), some (.int i4), some (.int i5), some (.int i6), some (.int i7), some (.int (0 : Int32))]) (Nat.le_of_ble_eq_true rfl) rfl ?_
          refine q_aload rfl ?_
          refine q_getRs (c0 := 12) (j := 37) rfl rfl (zl hS 105 (by decide)) (sk hS 105 (by decide) rfl) rfl (by decide) (r_105_37 hS) ?_
          refine q_iload rfl ?_
          refine q_iconst (10) (by decide) ?_
          refine q_iadd ?_
          refine q_iload rfl ?_
          refine q_iadd ?_
          refine q_iload rfl ?_
          obtain ⟨⟨u_209, v_209⟩, h⟩ := ite_some h
          refine q_iasN (Int32.toNatClampNeg ((i3 + (10 : Int32)) + i7)) (nx u_209) (zl hS 124 (by decide)) (sk hS 124 (by decide) rfl) v_209 (by decide) ?_
          obtain ⟨I_209, nI_209, h⟩ := stI_some h
          refine q_nI nI_209 ?_
          refine q_iload rfl ?_
          refine q_iload rfl ?_
          refine q_iadd ?_
          refine q_istore (ls1 := [some (.ref 105), some (.int i1), some (.int i2), some (.int i3), some (.int i4), some (.int i5), some (.int (i6 + (0 : Int32))), some (.int i7), some (.int (0 : Int32))]) (Nat.le_of_ble_eq_true rfl) rfl ?_
          refine q_iinc (ls1 := [some (.ref 105), some (.int i1), some (.int i2), some (.int i3), some (.int i4), some (.int i5), some (.int (i6 + (0 : Int32))), some (.int (i7 + Int32.ofInt (1))), some (.int (0 : Int32))]) rfl rfl ?_
          refine q_goto ?_
          refine K_mask [true, true, true, true, true, true, true, true, false] (Nat.le_of_ble_eq_true rfl) ?_
          exact (ih dp d hdp _ _ i1 i2 i3 i4 i5 (i6 + (0 : Int32)) (i7 + Int32.ofInt (1)) _ _ _).2.2.2.1 h
    · intro h
      rw [e_256_4] at h
      refine K_of b_256_238 h_256_238 ?_
      refine q_goto ?_
      refine K_mask [true, true, true, true, true, false, false, false, false] (Nat.le_of_ble_eq_true rfl) ?_
      exact (ih dp d hdp _ _ i1 i2 i3 i4 0 0 0 _ _ _).2.1 h
theorem a_256 (X : GX) {z : Nat} {kd : Nat → Nat × Nat} {Rf : Nat → Nat → Option Nat} (hS : Sh z kd Rf) {n dp d : Nat} (hd : dp ≤ d) {I : (Nat → Nat → Int32)} {L : (Nat → Nat → Int64)} {i1 : Int32} {i2 : Int32} {I1 : (Nat → Nat → Int32)} {L1 : (Nat → Nat → Int64)} {r : Int32} (h : g_256 n dp (z, kd, Rf) 0 I L i1 i2 0 0 0 0 0 = some (r, I1, L1)) : Ct X d 256 0 0 [.ref 105, .int i1, .int i2] (z, kd, I, L, Rf) (AI (fun x τ => x = r ∧ τ = (z, kd, I1, L1, Rf))) :=
  Ct_of mu_256 (Nat.le_of_ble_eq_true rfl) ((w_256 X hS n dp d hd I L i1 i2 0 0 0 0 0 _ _ _).1 h)

/-! 254 CutFloorModel.findOf(I)V -/
set_option maxHeartbeats 4000000 in
set_option maxRecDepth 100000 in
def g_254 : Nat → Nat → EN → Nat → (Nat → Nat → Int32) → (Nat → Nat → Int64) → Int32 → Int32 →  Option ((Nat → Nat → Int32) × (Nat → Nat → Int64))
  | 0, _, _, _, _, _, _, _ => none
  | n + 1, dp, e, lab, I, L, i1, i2 =>
    if lab = 0 then (if 0 ≤ i1 ∧ (Int32.toNatClampNeg i1) < 3 then (stI (u2 I 120 (Int32.toNatClampNeg i1) (0 : Int32)) (fun I_6 => (g_254 n dp e 1 I_6 L i1 (0 : Int32)))) else none)
    else if lab = 1 then (if (10 : Int32) ≤ i2 then (stI (u2 I 123 0 (-2 : Int32)) (fun I_45 => (g_254 n dp e 2 I_45 L i1 (0 : Int32)))) else (if i2 = 0 then (if 0 ≤ i2 ∧ (Int32.toNatClampNeg i2) < 110 then (stI (u2 I 124 (Int32.toNatClampNeg i2) (1 : Int32)) (fun I_29 => (g_254 n dp e 1 I_29 L i1 (i2 + Int32.ofInt (1))))) else none) else (if 0 ≤ i2 ∧ (Int32.toNatClampNeg i2) < 110 then (stI (u2 I 124 (Int32.toNatClampNeg i2) (0 : Int32)) (fun I_29 => (g_254 n dp e 1 I_29 L i1 (i2 + Int32.ofInt (1))))) else none)))
    else if lab = 2 then (if i2 < 0 then (some (I, L)) else (if 0 ≤ i1 ∧ (Int32.toNatClampNeg i1) < 3 then (if (65 : Int32) ≤ (I 120 (Int32.toNatClampNeg i1)) then (some (I, L)) else (if i2 = (10 : Int32) then (if 1 ≤ dp then (g_255 n (dp - 1) e 0 I L i1 0 0).bind (fun ⟨I0_69, L0_69⟩ => (g_254 n dp e 2 I0_69 L0_69 i1 (i2 + Int32.ofInt (-1)))) else none) else (if 1 ≤ dp then (g_256 n (dp - 1) e 0 I L i1 i2 0 0 0 0 0).bind (fun ⟨x0_81, I0_81, L0_81⟩ => (if x0_81 = 0 then (g_254 n dp e 2 I0_81 L0_81 i1 (i2 + Int32.ofInt (-1))) else (if (10 : Int32) ≤ (i2 + Int32.ofInt (1)) then (g_254 n dp e 2 I0_81 L0_81 i1 (i2 + Int32.ofInt (1))) else (if 0 ≤ (i2 + Int32.ofInt (1)) ∧ (Int32.toNatClampNeg (i2 + Int32.ofInt (1))) < 10 then (stI (u2 I0_81 123 (Int32.toNatClampNeg (i2 + Int32.ofInt (1))) (-2 : Int32)) (fun I_103 => (g_254 n dp e 2 I_103 L0_81 i1 (i2 + Int32.ofInt (1))))) else none)))) else none))) else none))
    else none
set_option maxRecDepth 100000 in
theorem e_254_0 (n dp : Nat) (e : EN) (I : (Nat → Nat → Int32)) (L : (Nat → Nat → Int64)) (i1 : Int32) (i2 : Int32) : g_254 (n + 1) dp e 0 I L i1 i2 = (if 0 ≤ i1 ∧ (Int32.toNatClampNeg i1) < 3 then (stI (u2 I 120 (Int32.toNatClampNeg i1) (0 : Int32)) (fun I_6 => (g_254 n dp e 1 I_6 L i1 (0 : Int32)))) else none) := by rw [g_254.eq_2, if_pos (show (0 : Nat) = 0 from rfl)]
set_option maxRecDepth 100000 in
theorem e_254_1 (n dp : Nat) (e : EN) (I : (Nat → Nat → Int32)) (L : (Nat → Nat → Int64)) (i1 : Int32) (i2 : Int32) : g_254 (n + 1) dp e 1 I L i1 i2 = (if (10 : Int32) ≤ i2 then (stI (u2 I 123 0 (-2 : Int32)) (fun I_45 => (g_254 n dp e 2 I_45 L i1 (0 : Int32)))) else (if i2 = 0 then (if 0 ≤ i2 ∧ (Int32.toNatClampNeg i2) < 110 then (stI (u2 I 124 (Int32.toNatClampNeg i2) (1 : Int32)) (fun I_29 => (g_254 n dp e 1 I_29 L i1 (i2 + Int32.ofInt (1))))) else none) else (if 0 ≤ i2 ∧ (Int32.toNatClampNeg i2) < 110 then (stI (u2 I 124 (Int32.toNatClampNeg i2) (0 : Int32)) (fun I_29 => (g_254 n dp e 1 I_29 L i1 (i2 + Int32.ofInt (1))))) else none))) := by rw [g_254.eq_2, if_neg (show ¬ ((1 : Nat) = 0) by decide), if_pos (show (1 : Nat) = 1 from rfl)]
set_option maxRecDepth 100000 in
theorem e_254_2 (n dp : Nat) (e : EN) (I : (Nat → Nat → Int32)) (L : (Nat → Nat → Int64)) (i1 : Int32) (i2 : Int32) : g_254 (n + 1) dp e 2 I L i1 i2 = (if i2 < 0 then (some (I, L)) else (if 0 ≤ i1 ∧ (Int32.toNatClampNeg i1) < 3 then (if (65 : Int32) ≤ (I 120 (Int32.toNatClampNeg i1)) then (some (I, L)) else (if i2 = (10 : Int32) then (if 1 ≤ dp then (g_255 n (dp - 1) e 0 I L i1 0 0).bind (fun ⟨I0_69, L0_69⟩ => (g_254 n dp e 2 I0_69 L0_69 i1 (i2 + Int32.ofInt (-1)))) else none) else (if 1 ≤ dp then (g_256 n (dp - 1) e 0 I L i1 i2 0 0 0 0 0).bind (fun ⟨x0_81, I0_81, L0_81⟩ => (if x0_81 = 0 then (g_254 n dp e 2 I0_81 L0_81 i1 (i2 + Int32.ofInt (-1))) else (if (10 : Int32) ≤ (i2 + Int32.ofInt (1)) then (g_254 n dp e 2 I0_81 L0_81 i1 (i2 + Int32.ofInt (1))) else (if 0 ≤ (i2 + Int32.ofInt (1)) ∧ (Int32.toNatClampNeg (i2 + Int32.ofInt (1))) < 10 then (stI (u2 I0_81 123 (Int32.toNatClampNeg (i2 + Int32.ofInt (1))) (-2 : Int32)) (fun I_103 => (g_254 n dp e 2 I_103 L0_81 i1 (i2 + Int32.ofInt (1))))) else none)))) else none))) else none)) := by rw [g_254.eq_2, if_neg (show ¬ ((2 : Nat) = 0) by decide), if_neg (show ¬ ((2 : Nat) = 1) by decide), if_pos (show (2 : Nat) = 2 from rfl)]
set_option maxHeartbeats 8000000 in
set_option maxRecDepth 100000 in
theorem w_254 (X : GX) {z : Nat} {kd : Nat → Nat × Nat} {Rf : Nat → Nat → Option Nat} (hS : Sh z kd Rf) : ∀ (n dp d : Nat), dp ≤ d → ∀ (I : (Nat → Nat → Int32)) (L : (Nat → Nat → Int64)) (i1 : Int32) (i2 : Int32) (I1 : (Nat → Nat → Int32)) (L1 : (Nat → Nat → Int64)), (g_254 n dp (z, kd, Rf) 0 I L i1 i2 = some (I1, L1) → K X d 254 0 0 (AV (fun τ => τ = (z, kd, I1, L1, Rf))) 0 [some (.ref 105), some (.int i1), none] [] (z, kd, I, L, Rf) 0 0) ∧
    (g_254 n dp (z, kd, Rf) 1 I L i1 i2 = some (I1, L1) → K X d 254 0 0 (AV (fun τ => τ = (z, kd, I1, L1, Rf))) 9 [some (.ref 105), some (.int i1), some (.int i2)] [] (z, kd, I, L, Rf) 0 0) ∧
    (g_254 n dp (z, kd, Rf) 2 I L i1 i2 = some (I1, L1) → K X d 254 0 0 (AV (fun τ => τ = (z, kd, I1, L1, Rf))) 46 [some (.ref 105), some (.int i1), some (.int i2)] [] (z, kd, I, L, Rf) 0 0) := by
  intro n
  induction n with
  | zero => intro dp d hdp I L i1 i2 I1 L1; exact ⟨(fun h => by cases h), (fun h => by cases h), (fun h => by cases h)⟩
  | succ n ih =>
    intro dp d hdp I L i1 i2 I1 L1
    refine ⟨?_, ?_, ?_⟩
    · intro h
      rw [e_254_0] at h
      refine K_of b_254_0 h_254_0 ?_
      refine q_aload rfl ?_
      refine q_getRs (c0 := 12) (j := 33) rfl rfl (zl hS 105 (by decide)) (sk hS 105 (by decide) rfl) rfl (by decide) (r_105_33 hS) ?_
      refine q_iload rfl ?_
      refine q_iconst (0) (by decide) ?_
      obtain ⟨⟨u_6, v_6⟩, h⟩ := ite_some h
      refine q_iasN (Int32.toNatClampNeg i1) (nx u_6) (zl hS 120 (by decide)) (sk hS 120 (by decide) rfl) v_6 (by decide) ?_
      obtain ⟨I_6, nI_6, h⟩ := stI_some h
      refine q_nI nI_6 ?_
      refine q_iconst (0) (by decide) ?_
      refine q_istore (ls1 := [some (.ref 105), some (.int i1), some (.int (0 : Int32))]) (Nat.le_of_ble_eq_true rfl) rfl ?_
      refine q_end ?_
      exact (ih dp d hdp _ _ i1 (0 : Int32) _ _).2.1 h
    · intro h
      rw [e_254_1] at h
      refine K_of b_254_9 h_254_9 ?_
      refine q_iload rfl ?_
      refine q_iconst (10) (by decide) ?_
      refine q_icmp_ge (fun c_12 => ?_) (fun c_12 => ?_)
      · rw [if_pos c_12] at h
        refine K_of b_254_36 h_254_36 ?_
        refine q_iconst (0) (by decide) ?_
        refine q_istore (ls1 := [some (.ref 105), some (.int i1), some (.int (0 : Int32))]) (Nat.le_of_ble_eq_true rfl) rfl ?_
        refine q_aload rfl ?_
        refine q_getRs (c0 := 12) (j := 36) rfl rfl (zl hS 105 (by decide)) (sk hS 105 (by decide) rfl) rfl (by decide) (r_105_36 hS) ?_
        refine q_iconst (0) (by decide) ?_
        refine q_iconst (-2) (by decide) ?_
        refine q_iasN (0) rfl (zl hS 123 (by decide)) (sk hS 123 (by decide) rfl) (by decide) (by decide) ?_
        obtain ⟨I_45, nI_45, h⟩ := stI_some h
        refine q_nI nI_45 ?_
        refine q_end ?_
        exact (ih dp d hdp _ _ i1 (0 : Int32) _ _).2.2 h
      · rw [if_neg c_12] at h
        refine q_aload rfl ?_
        refine q_getRs (c0 := 12) (j := 37) rfl rfl (zl hS 105 (by decide)) (sk hS 105 (by decide) rfl) rfl (by decide) (r_105_37 hS) ?_
        refine q_iload rfl ?_
        refine q_iload rfl ?_
        refine q_if_ne (fun c_21 => ?_) (fun c_21 => ?_)
        · rw [if_neg c_21] at h
          refine K_of b_254_28 h_254_28 ?_
          refine q_iconst (0) (by decide) ?_
          refine q_end ?_
          refine K_of b_254_29 h_254_29 ?_
          obtain ⟨⟨u_29, v_29⟩, h⟩ := ite_some h
          refine q_iasN (Int32.toNatClampNeg i2) (nx u_29) (zl hS 124 (by decide)) (sk hS 124 (by decide) rfl) v_29 (by decide) ?_
          obtain ⟨I_29, nI_29, h⟩ := stI_some h
          refine q_nI nI_29 ?_
          refine q_iinc (ls1 := [some (.ref 105), some (.int i1), some (.int (i2 + Int32.ofInt (1)))]) rfl rfl ?_
          refine q_goto ?_
          exact (ih dp d hdp _ _ i1 (i2 + Int32.ofInt (1)) _ _).2.1 h
        · rw [if_pos c_21] at h
          refine q_iconst (1) (by decide) ?_
          refine q_goto ?_
          refine K_of b_254_29 h_254_29 ?_
          obtain ⟨⟨u_29, v_29⟩, h⟩ := ite_some h
          refine q_iasN (Int32.toNatClampNeg i2) (nx u_29) (zl hS 124 (by decide)) (sk hS 124 (by decide) rfl) v_29 (by decide) ?_
          obtain ⟨I_29, nI_29, h⟩ := stI_some h
          refine q_nI nI_29 ?_
          refine q_iinc (ls1 := [some (.ref 105), some (.int i1), some (.int (i2 + Int32.ofInt (1)))]) rfl rfl ?_
          refine q_goto ?_
          exact (ih dp d hdp _ _ i1 (i2 + Int32.ofInt (1)) _ _).2.1 h
    · intro h
      rw [e_254_2] at h
      refine K_of b_254_46 h_254_46 ?_
      refine q_iload rfl ?_
      refine q_if_lt (fun c_47 => ?_) (fun c_47 => ?_)
      · rw [if_pos c_47] at h
        refine K_of b_254_113 h_254_113 ?_
        cases h
        exact q_vret rfl (Nat.le_refl _) (Nat.le_refl _) rfl
      · rw [if_neg c_47] at h
        refine q_aload rfl ?_
        refine q_getRs (c0 := 12) (j := 33) rfl rfl (zl hS 105 (by decide)) (sk hS 105 (by decide) rfl) rfl (by decide) (r_105_33 hS) ?_
        refine q_iload rfl ?_
        obtain ⟨⟨u_55, v_55⟩, h⟩ := ite_some h
        refine q_ialN (Int32.toNatClampNeg i1) (nx u_55) (zl hS 120 (by decide)) (sk hS 120 (by decide) rfl) v_55 (by decide) ?_
        refine q_iconst (65) (by decide) ?_
        refine q_icmp_ge (fun c_58 => ?_) (fun c_58 => ?_)
        · rw [if_pos c_58] at h
          refine K_of b_254_113 h_254_113 ?_
          cases h
          exact q_vret rfl (Nat.le_refl _) (Nat.le_refl _) rfl
        · rw [if_neg c_58] at h
          refine q_iload rfl ?_
          refine q_iconst (10) (by decide) ?_
          refine q_icmp_ne (fun c_64 => ?_) (fun c_64 => ?_)
          · rw [if_neg c_64] at h
            refine K_of b_254_78 h_254_78 ?_
            refine q_aload rfl ?_
            refine q_iload rfl ?_
            refine q_iload rfl ?_
            obtain ⟨d_81, h⟩ := ite_some h
            obtain ⟨⟨x0_81, I0_81, L0_81⟩, e_81, h⟩ := Option.bind_eq_some_iff.mp h
            dsimp only at h
            refine q_fv3I (a_256 X hS (d := d - 1) (by omega) e_81) (by omega) (Nat.le_refl _) (Nat.le_refl _) rfl (Nat.le_of_ble_eq_true rfl) ⟨(zl hS 105 (by decide)), congrArg Prod.fst (sk hS 105 (by decide) rfl), by decide⟩ ?_
            refine q_if_eq (fun c_84 => ?_) (fun c_84 => ?_)
            · rw [if_pos c_84] at h
              refine K_of b_254_107 h_254_107 ?_
              refine q_iinc (ls1 := [some (.ref 105), some (.int i1), some (.int (i2 + Int32.ofInt (-1)))]) rfl rfl ?_
              refine q_goto ?_
              exact (ih dp d hdp _ _ i1 (i2 + Int32.ofInt (-1)) _ _).2.2 h
            · rw [if_neg c_84] at h
              refine q_iinc (ls1 := [some (.ref 105), some (.int i1), some (.int (i2 + Int32.ofInt (1)))]) rfl rfl ?_
              refine q_iload rfl ?_
              refine q_iconst (10) (by decide) ?_
              refine q_icmp_ge (fun c_93 => ?_) (fun c_93 => ?_)
              · rw [if_pos c_93] at h
                exact (ih dp d hdp _ _ i1 (i2 + Int32.ofInt (1)) _ _).2.2 h
              · rw [if_neg c_93] at h
                refine q_aload rfl ?_
                refine q_getRs (c0 := 12) (j := 36) rfl rfl (zl hS 105 (by decide)) (sk hS 105 (by decide) rfl) rfl (by decide) (r_105_36 hS) ?_
                refine q_iload rfl ?_
                refine q_iconst (-2) (by decide) ?_
                obtain ⟨⟨u_103, v_103⟩, h⟩ := ite_some h
                refine q_iasN (Int32.toNatClampNeg (i2 + Int32.ofInt (1))) (nx u_103) (zl hS 123 (by decide)) (sk hS 123 (by decide) rfl) v_103 (by decide) ?_
                obtain ⟨I_103, nI_103, h⟩ := stI_some h
                refine q_nI nI_103 ?_
                refine q_goto ?_
                exact (ih dp d hdp _ _ i1 (i2 + Int32.ofInt (1)) _ _).2.2 h
          · rw [if_pos c_64] at h
            refine q_aload rfl ?_
            refine q_iload rfl ?_
            obtain ⟨d_69, h⟩ := ite_some h
            obtain ⟨⟨I0_69, L0_69⟩, e_69, h⟩ := Option.bind_eq_some_iff.mp h
            dsimp only at h
            refine q_fv2V (a_255 X hS (d := d - 1) (by omega) e_69) (by omega) (Nat.le_refl _) (Nat.le_refl _) rfl (Nat.le_of_ble_eq_true rfl) ⟨(zl hS 105 (by decide)), congrArg Prod.fst (sk hS 105 (by decide) rfl), by decide⟩ ?_
            refine q_iinc (ls1 := [some (.ref 105), some (.int i1), some (.int (i2 + Int32.ofInt (-1)))]) rfl rfl ?_
            refine q_goto ?_
            exact (ih dp d hdp _ _ i1 (i2 + Int32.ofInt (-1)) _ _).2.2 h
theorem a_254 (X : GX) {z : Nat} {kd : Nat → Nat × Nat} {Rf : Nat → Nat → Option Nat} (hS : Sh z kd Rf) {n dp d : Nat} (hd : dp ≤ d) {I : (Nat → Nat → Int32)} {L : (Nat → Nat → Int64)} {i1 : Int32} {I1 : (Nat → Nat → Int32)} {L1 : (Nat → Nat → Int64)} (h : g_254 n dp (z, kd, Rf) 0 I L i1 0 = some (I1, L1)) : Ct X d 254 0 0 [.ref 105, .int i1] (z, kd, I, L, Rf) (AV (fun τ => τ = (z, kd, I1, L1, Rf))) :=
  Ct_of mu_254 (Nat.le_of_ble_eq_true rfl) ((w_254 X hS n dp d hd I L i1 0 _ _).1 h)

/-! 253 CutFloorModel.findCuttings()V -/
set_option maxHeartbeats 4000000 in
set_option maxRecDepth 100000 in
def g_253 : Nat → Nat → EN → Nat → (Nat → Nat → Int32) → (Nat → Nat → Int64) → Int32 → Int32 →  Option ((Nat → Nat → Int32) × (Nat → Nat → Int64))
  | 0, _, _, _, _, _, _, _ => none
  | n + 1, dp, e, lab, I, L, i1, i2 =>
    if lab = 0 then (if (I 105 32) = 0 then (stI (u2 I 105 32 (1 : Int32)) (fun I_10 => (g_253 n dp e 1 I_10 L (0 : Int32) 0))) else (some (I, L)))
    else if lab = 1 then (if (3 : Int32) ≤ i1 then (some (I, L)) else (g_253 n dp e 2 I L i1 (0 : Int32)))
    else if lab = 2 then (if (I 107 9) ≤ i2 then (if 1 ≤ dp then (g_254 n (dp - 1) e 0 I L i1 0).bind (fun ⟨I0_58, L0_58⟩ => (g_253 n dp e 1 I0_58 L0_58 (i1 + Int32.ofInt (1)) 0)) else none) else (if 1 ≤ dp then (g_245 n (dp - 1) e 0 I L i2 i1).bind (fun ⟨x0_46, I0_46, L0_46⟩ => (if 0 ≤ (((16 : Int32) * i1) + i2) ∧ (Int32.toNatClampNeg (((16 : Int32) * i1) + i2)) < 48 then (if x0_46 = 0 ∨ x0_46 = 1 then (stI (u2 I0_46 125 (Int32.toNatClampNeg (((16 : Int32) * i1) + i2)) x0_46) (fun I_49 => (g_253 n dp e 2 I_49 L0_46 i1 (i2 + Int32.ofInt (1))))) else none) else none)) else none))
    else none
set_option maxRecDepth 100000 in
theorem e_253_0 (n dp : Nat) (e : EN) (I : (Nat → Nat → Int32)) (L : (Nat → Nat → Int64)) (i1 : Int32) (i2 : Int32) : g_253 (n + 1) dp e 0 I L i1 i2 = (if (I 105 32) = 0 then (stI (u2 I 105 32 (1 : Int32)) (fun I_10 => (g_253 n dp e 1 I_10 L (0 : Int32) 0))) else (some (I, L))) := by rw [g_253.eq_2, if_pos (show (0 : Nat) = 0 from rfl)]
set_option maxRecDepth 100000 in
theorem e_253_1 (n dp : Nat) (e : EN) (I : (Nat → Nat → Int32)) (L : (Nat → Nat → Int64)) (i1 : Int32) (i2 : Int32) : g_253 (n + 1) dp e 1 I L i1 i2 = (if (3 : Int32) ≤ i1 then (some (I, L)) else (g_253 n dp e 2 I L i1 (0 : Int32))) := by rw [g_253.eq_2, if_neg (show ¬ ((1 : Nat) = 0) by decide), if_pos (show (1 : Nat) = 1 from rfl)]
set_option maxRecDepth 100000 in
theorem e_253_2 (n dp : Nat) (e : EN) (I : (Nat → Nat → Int32)) (L : (Nat → Nat → Int64)) (i1 : Int32) (i2 : Int32) : g_253 (n + 1) dp e 2 I L i1 i2 = (if (I 107 9) ≤ i2 then (if 1 ≤ dp then (g_254 n (dp - 1) e 0 I L i1 0).bind (fun ⟨I0_58, L0_58⟩ => (g_253 n dp e 1 I0_58 L0_58 (i1 + Int32.ofInt (1)) 0)) else none) else (if 1 ≤ dp then (g_245 n (dp - 1) e 0 I L i2 i1).bind (fun ⟨x0_46, I0_46, L0_46⟩ => (if 0 ≤ (((16 : Int32) * i1) + i2) ∧ (Int32.toNatClampNeg (((16 : Int32) * i1) + i2)) < 48 then (if x0_46 = 0 ∨ x0_46 = 1 then (stI (u2 I0_46 125 (Int32.toNatClampNeg (((16 : Int32) * i1) + i2)) x0_46) (fun I_49 => (g_253 n dp e 2 I_49 L0_46 i1 (i2 + Int32.ofInt (1))))) else none) else none)) else none)) := by rw [g_253.eq_2, if_neg (show ¬ ((2 : Nat) = 0) by decide), if_neg (show ¬ ((2 : Nat) = 1) by decide), if_pos (show (2 : Nat) = 2 from rfl)]
set_option maxHeartbeats 8000000 in
set_option maxRecDepth 100000 in
theorem w_253 (X : GX) {z : Nat} {kd : Nat → Nat × Nat} {Rf : Nat → Nat → Option Nat} (hS : Sh z kd Rf) : ∀ (n dp d : Nat), dp ≤ d → ∀ (I : (Nat → Nat → Int32)) (L : (Nat → Nat → Int64)) (i1 : Int32) (i2 : Int32) (I1 : (Nat → Nat → Int32)) (L1 : (Nat → Nat → Int64)), (g_253 n dp (z, kd, Rf) 0 I L i1 i2 = some (I1, L1) → K X d 253 0 0 (AV (fun τ => τ = (z, kd, I1, L1, Rf))) 0 [some (.ref 105), none, none] [] (z, kd, I, L, Rf) 0 0) ∧
    (g_253 n dp (z, kd, Rf) 1 I L i1 i2 = some (I1, L1) → K X d 253 0 0 (AV (fun τ => τ = (z, kd, I1, L1, Rf))) 15 [some (.ref 105), some (.int i1), none] [] (z, kd, I, L, Rf) 0 0) ∧
    (g_253 n dp (z, kd, Rf) 2 I L i1 i2 = some (I1, L1) → K X d 253 0 0 (AV (fun τ => τ = (z, kd, I1, L1, Rf))) 22 [some (.ref 105), some (.int i1), some (.int i2)] [] (z, kd, I, L, Rf) 0 0) := by
  intro n
  induction n with
  | zero => intro dp d hdp I L i1 i2 I1 L1; exact ⟨(fun h => by cases h), (fun h => by cases h), (fun h => by cases h)⟩
  | succ n ih =>
    intro dp d hdp I L i1 i2 I1 L1
    refine ⟨?_, ?_, ?_⟩
    · intro h
      rw [e_253_0] at h
      refine K_of b_253_0 h_253_0 ?_
      refine q_aload rfl ?_
      refine q_getI (c0 := 12) (j := 32) rfl rfl (zl hS 105 (by decide)) (sk hS 105 (by decide) rfl) (Or.inr rfl) (by decide) ?_
      refine q_if_eq (fun c_4 => ?_) (fun c_4 => ?_)
      · rw [if_pos c_4] at h
        refine K_of b_253_8 h_253_8 ?_
        refine q_aload rfl ?_
        refine q_iconst (1) (by decide) ?_
        refine q_putZ (c0 := 12) (j := 32) rfl rfl (zl hS 105 (by decide)) (sk hS 105 (by decide) rfl) rfl (Or.inr rfl) ?_
        obtain ⟨I_10, nI_10, h⟩ := stI_some h
        refine q_nI nI_10 ?_
        refine q_iconst (0) (by decide) ?_
        refine q_istore (ls1 := [some (.ref 105), some (.int (0 : Int32)), none]) (Nat.le_of_ble_eq_true rfl) rfl ?_
        refine q_end ?_
        exact (ih dp d hdp _ _ (0 : Int32) 0 _ _).2.1 h
      · rw [if_neg c_4] at h
        cases h
        exact q_vret rfl (Nat.le_refl _) (Nat.le_refl _) rfl
    · intro h
      rw [e_253_1] at h
      refine K_of b_253_15 h_253_15 ?_
      refine q_iload rfl ?_
      refine q_iconst (3) (by decide) ?_
      refine q_icmp_ge (fun c_17 => ?_) (fun c_17 => ?_)
      · rw [if_pos c_17] at h
        refine K_of b_253_67 h_253_67 ?_
        cases h
        exact q_vret rfl (Nat.le_refl _) (Nat.le_refl _) rfl
      · rw [if_neg c_17] at h
        refine q_iconst (0) (by decide) ?_
        refine q_istore (ls1 := [some (.ref 105), some (.int i1), some (.int (0 : Int32))]) (Nat.le_of_ble_eq_true rfl) rfl ?_
        refine q_end ?_
        exact (ih dp d hdp _ _ i1 (0 : Int32) _ _).2.2 h
    · intro h
      rw [e_253_2] at h
      refine K_of b_253_22 h_253_22 ?_
      refine q_iload rfl ?_
      refine q_aload rfl ?_
      refine q_getRs (c0 := 12) (j := 3) rfl rfl (zl hS 105 (by decide)) (sk hS 105 (by decide) rfl) rfl (by decide) (r_105_3 hS) ?_
      refine q_iconst (9) (by decide) ?_
      refine q_ialN (9) rfl (zl hS 107 (by decide)) (sk hS 107 (by decide) rfl) (by decide) (by decide) ?_
      refine q_icmp_ge (fun c_30 => ?_) (fun c_30 => ?_)
      · rw [if_pos c_30] at h
        refine K_of b_253_56 h_253_56 ?_
        refine q_aload rfl ?_
        refine q_iload rfl ?_
        obtain ⟨d_58, h⟩ := ite_some h
        obtain ⟨⟨I0_58, L0_58⟩, e_58, h⟩ := Option.bind_eq_some_iff.mp h
        dsimp only at h
        refine q_fv2V (a_254 X hS (d := d - 1) (by omega) e_58) (by omega) (Nat.le_refl _) (Nat.le_refl _) rfl (Nat.le_of_ble_eq_true rfl) ⟨(zl hS 105 (by decide)), congrArg Prod.fst (sk hS 105 (by decide) rfl), by decide⟩ ?_
        refine q_iinc (ls1 := [some (.ref 105), some (.int (i1 + Int32.ofInt (1))), some (.int i2)]) rfl rfl ?_
        refine q_goto ?_
        refine K_mask [true, true, false] (Nat.le_of_ble_eq_true rfl) ?_
        exact (ih dp d hdp _ _ (i1 + Int32.ofInt (1)) 0 _ _).2.1 h
      · rw [if_neg c_30] at h
        refine q_aload rfl ?_
        refine q_getRs (c0 := 12) (j := 38) rfl rfl (zl hS 105 (by decide)) (sk hS 105 (by decide) rfl) rfl (by decide) (r_105_38 hS) ?_
        refine q_iconst (16) (by decide) ?_
        refine q_iload rfl ?_
        refine q_imul ?_
        refine q_iload rfl ?_
        refine q_iadd ?_
        refine q_aload rfl ?_
        refine q_iload rfl ?_
        refine q_iload rfl ?_
        obtain ⟨d_46, h⟩ := ite_some h
        obtain ⟨⟨x0_46, I0_46, L0_46⟩, e_46, h⟩ := Option.bind_eq_some_iff.mp h
        dsimp only at h
        refine q_fv3I (a_245 X hS (d := d - 1) (by omega) e_46) (by omega) (Nat.le_refl _) (Nat.le_refl _) rfl (Nat.le_of_ble_eq_true rfl) ⟨(zl hS 105 (by decide)), congrArg Prod.fst (sk hS 105 (by decide) rfl), by decide⟩ ?_
        obtain ⟨⟨u_49, v_49⟩, h⟩ := ite_some h
        obtain ⟨w_49, h⟩ := ite_some h
        refine q_zasN (Int32.toNatClampNeg (((16 : Int32) * i1) + i2)) (nx u_49) (zl hS 125 (by decide)) (sk hS 125 (by decide) rfl) v_49 (by decide) w_49 ?_
        obtain ⟨I_49, nI_49, h⟩ := stI_some h
        refine q_nI nI_49 ?_
        refine q_iinc (ls1 := [some (.ref 105), some (.int i1), some (.int (i2 + Int32.ofInt (1)))]) rfl rfl ?_
        refine q_goto ?_
        exact (ih dp d hdp _ _ i1 (i2 + Int32.ofInt (1)) _ _).2.2 h
theorem a_253 (X : GX) {z : Nat} {kd : Nat → Nat × Nat} {Rf : Nat → Nat → Option Nat} (hS : Sh z kd Rf) {n dp d : Nat} (hd : dp ≤ d) {I : (Nat → Nat → Int32)} {L : (Nat → Nat → Int64)} {I1 : (Nat → Nat → Int32)} {L1 : (Nat → Nat → Int64)} (h : g_253 n dp (z, kd, Rf) 0 I L 0 0 = some (I1, L1)) : Ct X d 253 0 0 [.ref 105] (z, kd, I, L, Rf) (AV (fun τ => τ = (z, kd, I1, L1, Rf))) :=
  Ct_of mu_253 (Nat.le_of_ble_eq_true rfl) ((w_253 X hS n dp d hd I L 0 0 _ _).1 h)

/-! 252 CutFloorModel.cuttings(I)I -/
set_option maxHeartbeats 4000000 in
set_option maxRecDepth 100000 in
def g_252 : Nat → Nat → EN → Nat → (Nat → Nat → Int32) → (Nat → Nat → Int64) → Int32 →  Option (Int32 × (Nat → Nat → Int32) × (Nat → Nat → Int64))
  | 0, _, _, _, _, _, _ => none
  | n + 1, dp, e, lab, I, L, i1 =>
    if lab = 0 then (stI (u2 I 105 0 (0 : Int32)) (fun I_2 => (if 1 ≤ dp then (g_197 n (dp - 1) e 0 I_2 L i1).bind (fun ⟨x0_6, I0_6, L0_6⟩ => (if x0_6 = 0 then (some ((-1 : Int32), I0_6, L0_6)) else (if 1 ≤ dp then (g_253 n (dp - 1) e 0 I0_6 L0_6 0 0).bind (fun ⟨I1_15, L1_15⟩ => (if 0 ≤ i1 ∧ (Int32.toNatClampNeg i1) < 3 then (some ((I1_15 120 (Int32.toNatClampNeg i1)), I1_15, L1_15)) else none)) else none))) else none)))
    else none
set_option maxRecDepth 100000 in
theorem e_252_0 (n dp : Nat) (e : EN) (I : (Nat → Nat → Int32)) (L : (Nat → Nat → Int64)) (i1 : Int32) : g_252 (n + 1) dp e 0 I L i1 = (stI (u2 I 105 0 (0 : Int32)) (fun I_2 => (if 1 ≤ dp then (g_197 n (dp - 1) e 0 I_2 L i1).bind (fun ⟨x0_6, I0_6, L0_6⟩ => (if x0_6 = 0 then (some ((-1 : Int32), I0_6, L0_6)) else (if 1 ≤ dp then (g_253 n (dp - 1) e 0 I0_6 L0_6 0 0).bind (fun ⟨I1_15, L1_15⟩ => (if 0 ≤ i1 ∧ (Int32.toNatClampNeg i1) < 3 then (some ((I1_15 120 (Int32.toNatClampNeg i1)), I1_15, L1_15)) else none)) else none))) else none))) := by rw [g_252.eq_2, if_pos (show (0 : Nat) = 0 from rfl)]
set_option maxHeartbeats 8000000 in
set_option maxRecDepth 100000 in
theorem w_252 (X : GX) {z : Nat} {kd : Nat → Nat × Nat} {Rf : Nat → Nat → Option Nat} (hS : Sh z kd Rf) : ∀ (n dp d : Nat), dp ≤ d → ∀ (I : (Nat → Nat → Int32)) (L : (Nat → Nat → Int64)) (i1 : Int32) (r : Int32) (I1 : (Nat → Nat → Int32)) (L1 : (Nat → Nat → Int64)), (g_252 n dp (z, kd, Rf) 0 I L i1 = some (r, I1, L1) → K X d 252 0 0 (AI (fun x τ => x = r ∧ τ = (z, kd, I1, L1, Rf))) 0 [some (.ref 105), some (.int i1)] [] (z, kd, I, L, Rf) 0 0) := by
  intro n
  induction n with
  | zero => intro dp d hdp I L i1 r I1 L1; exact fun h => by cases h
  | succ n ih =>
    intro dp d hdp I L i1 r I1 L1
    · intro h
      rw [e_252_0] at h
      refine K_of b_252_0 h_252_0 ?_
      refine q_aload rfl ?_
      refine q_iconst (0) (by decide) ?_
      refine q_putI (c0 := 12) (j := 0) rfl rfl (zl hS 105 (by decide)) (sk hS 105 (by decide) rfl) rfl ?_
      obtain ⟨I_2, nI_2, h⟩ := stI_some h
      refine q_nI nI_2 ?_
      refine q_iload rfl ?_
      obtain ⟨d_6, h⟩ := ite_some h
      obtain ⟨⟨x0_6, I0_6, L0_6⟩, e_6, h⟩ := Option.bind_eq_some_iff.mp h
      dsimp only at h
      refine q_fs1I (a_197 X hS (d := d - 1) (by omega) e_6) (by omega) (Nat.le_refl _) (Nat.le_refl _) rfl (Nat.le_of_ble_eq_true rfl) ?_
      refine q_if_ne (fun c_9 => ?_) (fun c_9 => ?_)
      · rw [if_neg c_9] at h
        refine K_of b_252_14 h_252_14 ?_
        refine q_aload rfl ?_
        obtain ⟨d_15, h⟩ := ite_some h
        obtain ⟨⟨I1_15, L1_15⟩, e_15, h⟩ := Option.bind_eq_some_iff.mp h
        dsimp only at h
        refine q_fv1V (a_253 X hS (d := d - 1) (by omega) e_15) (by omega) (Nat.le_refl _) (Nat.le_refl _) rfl (Nat.le_of_ble_eq_true rfl) ⟨(zl hS 105 (by decide)), congrArg Prod.fst (sk hS 105 (by decide) rfl), by decide⟩ ?_
        refine q_aload rfl ?_
        refine q_getRs (c0 := 12) (j := 33) rfl rfl (zl hS 105 (by decide)) (sk hS 105 (by decide) rfl) rfl (by decide) (r_105_33 hS) ?_
        refine q_iload rfl ?_
        obtain ⟨⟨u_23, v_23⟩, h⟩ := ite_some h
        refine q_ialN (Int32.toNatClampNeg i1) (nx u_23) (zl hS 120 (by decide)) (sk hS 120 (by decide) rfl) v_23 (by decide) ?_
        cases h
        exact q_iret rfl (Nat.le_refl _) (Nat.le_refl _) ⟨rfl, rfl⟩
      · rw [if_pos c_9] at h
        refine q_iconst (-1) (by decide) ?_
        cases h
        exact q_iret rfl (Nat.le_refl _) (Nat.le_refl _) ⟨rfl, rfl⟩
theorem a_252 (X : GX) {z : Nat} {kd : Nat → Nat × Nat} {Rf : Nat → Nat → Option Nat} (hS : Sh z kd Rf) {n dp d : Nat} (hd : dp ≤ d) {I : (Nat → Nat → Int32)} {L : (Nat → Nat → Int64)} {i1 : Int32} {I1 : (Nat → Nat → Int32)} {L1 : (Nat → Nat → Int64)} {r : Int32} (h : g_252 n dp (z, kd, Rf) 0 I L i1 = some (r, I1, L1)) : Ct X d 252 0 0 [.ref 105, .int i1] (z, kd, I, L, Rf) (AI (fun x τ => x = r ∧ τ = (z, kd, I1, L1, Rf))) :=
  Ct_of mu_252 (Nat.le_of_ble_eq_true rfl) ((w_252 X hS n dp d hd I L i1 _ _ _) h)

/-! 258 CutFloorModel.isCutting(II)Z -/
set_option maxHeartbeats 4000000 in
set_option maxRecDepth 100000 in
def g_258 : Nat → Nat → EN → Nat → (Nat → Nat → Int32) → (Nat → Nat → Int64) → Int32 → Int32 →  Option (Int32 × (Nat → Nat → Int32) × (Nat → Nat → Int64))
  | 0, _, _, _, _, _, _, _ => none
  | n + 1, dp, e, lab, I, L, i1, i2 =>
    if lab = 0 then (if 1 ≤ dp then (g_197 n (dp - 1) e 0 I L i1).bind (fun ⟨x0_1, I0_1, L0_1⟩ => (if x0_1 = 0 then (some ((0 : Int32), I0_1, L0_1)) else (if 1 ≤ dp then (g_197 n (dp - 1) e 0 I0_1 L0_1 i1).bind (fun ⟨x1_12, I1_12, L1_12⟩ => (if x1_12 = 0 then (if (65 : Int32) ≤ (I1_12 120 0) then (some ((0 : Int32), I1_12, L1_12)) else (if 1 ≤ dp then (g_197 n (dp - 1) e 0 I1_12 L1_12 i1).bind (fun ⟨x2_37, I2_37, L2_37⟩ => (if x2_37 = 0 then (if 1 ≤ dp then (g_193 n (dp - 1) e 0 I2_37 L2_37 (Int32.toInt64 i2) (0 : Int64) ((Int32.toInt64 (I2_37 120 0)) - (1 : Int64))).bind (fun ⟨x3_52, I3_52, L3_52⟩ => (if x3_52 = 0 then (some ((0 : Int32), I3_52, L3_52)) else (some ((1 : Int32), I3_52, L3_52)))) else none) else (if 0 ≤ i1 ∧ (Int32.toNatClampNeg i1) < 3 then (if 1 ≤ dp then (g_193 n (dp - 1) e 0 I2_37 L2_37 (Int32.toInt64 i2) (0 : Int64) ((Int32.toInt64 (I2_37 120 (Int32.toNatClampNeg i1))) - (1 : Int64))).bind (fun ⟨x3_52, I3_52, L3_52⟩ => (if x3_52 = 0 then (some ((0 : Int32), I3_52, L3_52)) else (some ((1 : Int32), I3_52, L3_52)))) else none) else none))) else none)) else (if 0 ≤ i1 ∧ (Int32.toNatClampNeg i1) < 3 then (if (65 : Int32) ≤ (I1_12 120 (Int32.toNatClampNeg i1)) then (some ((0 : Int32), I1_12, L1_12)) else (if 1 ≤ dp then (g_197 n (dp - 1) e 0 I1_12 L1_12 i1).bind (fun ⟨x2_37, I2_37, L2_37⟩ => (if x2_37 = 0 then (if 1 ≤ dp then (g_193 n (dp - 1) e 0 I2_37 L2_37 (Int32.toInt64 i2) (0 : Int64) ((Int32.toInt64 (I2_37 120 0)) - (1 : Int64))).bind (fun ⟨x3_52, I3_52, L3_52⟩ => (if x3_52 = 0 then (some ((0 : Int32), I3_52, L3_52)) else (some ((1 : Int32), I3_52, L3_52)))) else none) else (if 0 ≤ i1 ∧ (Int32.toNatClampNeg i1) < 3 then (if 1 ≤ dp then (g_193 n (dp - 1) e 0 I2_37 L2_37 (Int32.toInt64 i2) (0 : Int64) ((Int32.toInt64 (I2_37 120 (Int32.toNatClampNeg i1))) - (1 : Int64))).bind (fun ⟨x3_52, I3_52, L3_52⟩ => (if x3_52 = 0 then (some ((0 : Int32), I3_52, L3_52)) else (some ((1 : Int32), I3_52, L3_52)))) else none) else none))) else none)) else none))) else none))) else none)
    else none
set_option maxRecDepth 100000 in
theorem e_258_0 (n dp : Nat) (e : EN) (I : (Nat → Nat → Int32)) (L : (Nat → Nat → Int64)) (i1 : Int32) (i2 : Int32) : g_258 (n + 1) dp e 0 I L i1 i2 = (if 1 ≤ dp then (g_197 n (dp - 1) e 0 I L i1).bind (fun ⟨x0_1, I0_1, L0_1⟩ => (if x0_1 = 0 then (some ((0 : Int32), I0_1, L0_1)) else (if 1 ≤ dp then (g_197 n (dp - 1) e 0 I0_1 L0_1 i1).bind (fun ⟨x1_12, I1_12, L1_12⟩ => (if x1_12 = 0 then (if (65 : Int32) ≤ (I1_12 120 0) then (some ((0 : Int32), I1_12, L1_12)) else (if 1 ≤ dp then (g_197 n (dp - 1) e 0 I1_12 L1_12 i1).bind (fun ⟨x2_37, I2_37, L2_37⟩ => (if x2_37 = 0 then (if 1 ≤ dp then (g_193 n (dp - 1) e 0 I2_37 L2_37 (Int32.toInt64 i2) (0 : Int64) ((Int32.toInt64 (I2_37 120 0)) - (1 : Int64))).bind (fun ⟨x3_52, I3_52, L3_52⟩ => (if x3_52 = 0 then (some ((0 : Int32), I3_52, L3_52)) else (some ((1 : Int32), I3_52, L3_52)))) else none) else (if 0 ≤ i1 ∧ (Int32.toNatClampNeg i1) < 3 then (if 1 ≤ dp then (g_193 n (dp - 1) e 0 I2_37 L2_37 (Int32.toInt64 i2) (0 : Int64) ((Int32.toInt64 (I2_37 120 (Int32.toNatClampNeg i1))) - (1 : Int64))).bind (fun ⟨x3_52, I3_52, L3_52⟩ => (if x3_52 = 0 then (some ((0 : Int32), I3_52, L3_52)) else (some ((1 : Int32), I3_52, L3_52)))) else none) else none))) else none)) else (if 0 ≤ i1 ∧ (Int32.toNatClampNeg i1) < 3 then (if (65 : Int32) ≤ (I1_12 120 (Int32.toNatClampNeg i1)) then (some ((0 : Int32), I1_12, L1_12)) else (if 1 ≤ dp then (g_197 n (dp - 1) e 0 I1_12 L1_12 i1).bind (fun ⟨x2_37, I2_37, L2_37⟩ => (if x2_37 = 0 then (if 1 ≤ dp then (g_193 n (dp - 1) e 0 I2_37 L2_37 (Int32.toInt64 i2) (0 : Int64) ((Int32.toInt64 (I2_37 120 0)) - (1 : Int64))).bind (fun ⟨x3_52, I3_52, L3_52⟩ => (if x3_52 = 0 then (some ((0 : Int32), I3_52, L3_52)) else (some ((1 : Int32), I3_52, L3_52)))) else none) else (if 0 ≤ i1 ∧ (Int32.toNatClampNeg i1) < 3 then (if 1 ≤ dp then (g_193 n (dp - 1) e 0 I2_37 L2_37 (Int32.toInt64 i2) (0 : Int64) ((Int32.toInt64 (I2_37 120 (Int32.toNatClampNeg i1))) - (1 : Int64))).bind (fun ⟨x3_52, I3_52, L3_52⟩ => (if x3_52 = 0 then (some ((0 : Int32), I3_52, L3_52)) else (some ((1 : Int32), I3_52, L3_52)))) else none) else none))) else none)) else none))) else none))) else none) := by rw [g_258.eq_2, if_pos (show (0 : Nat) = 0 from rfl)]
set_option maxHeartbeats 8000000 in
set_option maxRecDepth 100000 in
theorem w_258 (X : GX) {z : Nat} {kd : Nat → Nat × Nat} {Rf : Nat → Nat → Option Nat} (hS : Sh z kd Rf) : ∀ (n dp d : Nat), dp ≤ d → ∀ (I : (Nat → Nat → Int32)) (L : (Nat → Nat → Int64)) (i1 : Int32) (i2 : Int32) (r : Int32) (I1 : (Nat → Nat → Int32)) (L1 : (Nat → Nat → Int64)), (g_258 n dp (z, kd, Rf) 0 I L i1 i2 = some (r, I1, L1) → K X d 258 0 0 (AI (fun x τ => x = r ∧ τ = (z, kd, I1, L1, Rf))) 0 [some (.ref 105), some (.int i1), some (.int i2)] [] (z, kd, I, L, Rf) 0 0) := by
  intro n
  induction n with
  | zero => intro dp d hdp I L i1 i2 r I1 L1; exact fun h => by cases h
  | succ n ih =>
    intro dp d hdp I L i1 i2 r I1 L1
    · intro h
      rw [e_258_0] at h
      refine K_of b_258_0 h_258_0 ?_
      refine q_iload rfl ?_
      obtain ⟨d_1, h⟩ := ite_some h
      obtain ⟨⟨x0_1, I0_1, L0_1⟩, e_1, h⟩ := Option.bind_eq_some_iff.mp h
      dsimp only at h
      refine q_fs1I (a_197 X hS (d := d - 1) (by omega) e_1) (by omega) (Nat.le_refl _) (Nat.le_refl _) rfl (Nat.le_of_ble_eq_true rfl) ?_
      refine q_if_eq (fun c_4 => ?_) (fun c_4 => ?_)
      · rw [if_pos c_4] at h
        refine K_of b_258_62 h_258_62 ?_
        refine q_iconst (0) (by decide) ?_
        refine q_end ?_
        refine K_of b_258_63 h_258_63 ?_
        cases h
        exact q_iret rfl (Nat.le_refl _) (Nat.le_refl _) ⟨rfl, rfl⟩
      · rw [if_neg c_4] at h
        refine q_aload rfl ?_
        refine q_getRs (c0 := 12) (j := 33) rfl rfl (zl hS 105 (by decide)) (sk hS 105 (by decide) rfl) rfl (by decide) (r_105_33 hS) ?_
        refine q_iload rfl ?_
        obtain ⟨d_12, h⟩ := ite_some h
        obtain ⟨⟨x1_12, I1_12, L1_12⟩, e_12, h⟩ := Option.bind_eq_some_iff.mp h
        dsimp only at h
        refine q_fs1I (a_197 X hS (d := d - 1) (by omega) e_12) (by omega) (Nat.le_refl _) (Nat.le_refl _) rfl (Nat.le_of_ble_eq_true rfl) ?_
        refine q_if_eq (fun c_15 => ?_) (fun c_15 => ?_)
        · rw [if_pos c_15] at h
          refine K_of b_258_22 h_258_22 ?_
          refine q_iconst (0) (by decide) ?_
          refine q_end ?_
          refine K_of b_258_23 h_258_23 ?_
          refine q_ialN (0) rfl (zl hS 120 (by decide)) (sk hS 120 (by decide) rfl) (by decide) (by decide) ?_
          refine q_iconst (65) (by decide) ?_
          refine q_icmp_ge (fun c_26 => ?_) (fun c_26 => ?_)
          · rw [if_pos c_26] at h
            refine K_of b_258_62 h_258_62 ?_
            refine q_iconst (0) (by decide) ?_
            refine q_end ?_
            refine K_of b_258_63 h_258_63 ?_
            cases h
            exact q_iret rfl (Nat.le_refl _) (Nat.le_refl _) ⟨rfl, rfl⟩
          · rw [if_neg c_26] at h
            refine q_iload rfl ?_
            refine q_i2l ?_
            refine q_lconst (0) (by decide) ?_
            refine q_aload rfl ?_
            refine q_getRs (c0 := 12) (j := 33) rfl rfl (zl hS 105 (by decide)) (sk hS 105 (by decide) rfl) rfl (by decide) (r_105_33 hS) ?_
            refine q_iload rfl ?_
            obtain ⟨d_37, h⟩ := ite_some h
            obtain ⟨⟨x2_37, I2_37, L2_37⟩, e_37, h⟩ := Option.bind_eq_some_iff.mp h
            dsimp only at h
            refine q_fs1I (a_197 X hS (d := d - 1) (by omega) e_37) (by omega) (Nat.le_refl _) (Nat.le_refl _) rfl (Nat.le_of_ble_eq_true rfl) ?_
            refine q_if_eq (fun c_40 => ?_) (fun c_40 => ?_)
            · rw [if_pos c_40] at h
              refine K_of b_258_47 h_258_47 ?_
              refine q_iconst (0) (by decide) ?_
              refine q_end ?_
              refine K_of b_258_48 h_258_48 ?_
              refine q_ialN (0) rfl (zl hS 120 (by decide)) (sk hS 120 (by decide) rfl) (by decide) (by decide) ?_
              refine q_i2l ?_
              refine q_lconst (1) (by decide) ?_
              refine q_lsub ?_
              obtain ⟨d_52, h⟩ := ite_some h
              obtain ⟨⟨x3_52, I3_52, L3_52⟩, e_52, h⟩ := Option.bind_eq_some_iff.mp h
              dsimp only at h
              refine q_fs3I (a_193 X hS (d := d - 1) (by omega) e_52) (by omega) (Nat.le_refl _) (Nat.le_refl _) rfl (Nat.le_of_ble_eq_true rfl) ?_
              refine q_if_eq (fun c_55 => ?_) (fun c_55 => ?_)
              · rw [if_pos c_55] at h
                refine K_of b_258_62 h_258_62 ?_
                refine q_iconst (0) (by decide) ?_
                refine q_end ?_
                refine K_of b_258_63 h_258_63 ?_
                cases h
                exact q_iret rfl (Nat.le_refl _) (Nat.le_refl _) ⟨rfl, rfl⟩
              · rw [if_neg c_55] at h
                refine q_iconst (1) (by decide) ?_
                refine q_goto ?_
                refine K_of b_258_63 h_258_63 ?_
                cases h
                exact q_iret rfl (Nat.le_refl _) (Nat.le_refl _) ⟨rfl, rfl⟩
            · rw [if_neg c_40] at h
              refine q_iload rfl ?_
              refine q_goto ?_
              refine K_of b_258_48 h_258_48 ?_
              obtain ⟨⟨u_48, v_48⟩, h⟩ := ite_some h
              refine q_ialN (Int32.toNatClampNeg i1) (nx u_48) (zl hS 120 (by decide)) (sk hS 120 (by decide) rfl) v_48 (by decide) ?_
              refine q_i2l ?_
              refine q_lconst (1) (by decide) ?_
              refine q_lsub ?_
              obtain ⟨d_52, h⟩ := ite_some h
              obtain ⟨⟨x3_52, I3_52, L3_52⟩, e_52, h⟩ := Option.bind_eq_some_iff.mp h
              dsimp only at h
              refine q_fs3I (a_193 X hS (d := d - 1) (by omega) e_52) (by omega) (Nat.le_refl _) (Nat.le_refl _) rfl (Nat.le_of_ble_eq_true rfl) ?_
              refine q_if_eq (fun c_55 => ?_) (fun c_55 => ?_)
              · rw [if_pos c_55] at h
                refine K_of b_258_62 h_258_62 ?_
                refine q_iconst (0) (by decide) ?_
                refine q_end ?_
                refine K_of b_258_63 h_258_63 ?_
                cases h
                exact q_iret rfl (Nat.le_refl _) (Nat.le_refl _) ⟨rfl, rfl⟩
              · rw [if_neg c_55] at h
                refine q_iconst (1) (by decide) ?_
                refine q_goto ?_
                refine K_of b_258_63 h_258_63 ?_
                cases h
                exact q_iret rfl (Nat.le_refl _) (Nat.le_refl _) ⟨rfl, rfl⟩
        · rw [if_neg c_15] at h
          refine q_iload rfl ?_
          refine q_goto ?_
          refine K_of b_258_23 h_258_23 ?_
          obtain ⟨⟨u_23, v_23⟩, h⟩ := ite_some h
          refine q_ialN (Int32.toNatClampNeg i1) (nx u_23) (zl hS 120 (by decide)) (sk hS 120 (by decide) rfl) v_23 (by decide) ?_
          refine q_iconst (65) (by decide) ?_
          refine q_icmp_ge (fun c_26 => ?_) (fun c_26 => ?_)
          · rw [if_pos c_26] at h
            refine K_of b_258_62 h_258_62 ?_
            refine q_iconst (0) (by decide) ?_
            refine q_end ?_
            refine K_of b_258_63 h_258_63 ?_
            cases h
            exact q_iret rfl (Nat.le_refl _) (Nat.le_refl _) ⟨rfl, rfl⟩
          · rw [if_neg c_26] at h
            refine q_iload rfl ?_
            refine q_i2l ?_
            refine q_lconst (0) (by decide) ?_
            refine q_aload rfl ?_
            refine q_getRs (c0 := 12) (j := 33) rfl rfl (zl hS 105 (by decide)) (sk hS 105 (by decide) rfl) rfl (by decide) (r_105_33 hS) ?_
            refine q_iload rfl ?_
            obtain ⟨d_37, h⟩ := ite_some h
            obtain ⟨⟨x2_37, I2_37, L2_37⟩, e_37, h⟩ := Option.bind_eq_some_iff.mp h
            dsimp only at h
            refine q_fs1I (a_197 X hS (d := d - 1) (by omega) e_37) (by omega) (Nat.le_refl _) (Nat.le_refl _) rfl (Nat.le_of_ble_eq_true rfl) ?_
            refine q_if_eq (fun c_40 => ?_) (fun c_40 => ?_)
            · rw [if_pos c_40] at h
              refine K_of b_258_47 h_258_47 ?_
              refine q_iconst (0) (by decide) ?_
              refine q_end ?_
              refine K_of b_258_48 h_258_48 ?_
              refine q_ialN (0) rfl (zl hS 120 (by decide)) (sk hS 120 (by decide) rfl) (by decide) (by decide) ?_
              refine q_i2l ?_
              refine q_lconst (1) (by decide) ?_
              refine q_lsub ?_
              obtain ⟨d_52, h⟩ := ite_some h
              obtain ⟨⟨x3_52, I3_52, L3_52⟩, e_52, h⟩ := Option.bind_eq_some_iff.mp h
              dsimp only at h
              refine q_fs3I (a_193 X hS (d := d - 1) (by omega) e_52) (by omega) (Nat.le_refl _) (Nat.le_refl _) rfl (Nat.le_of_ble_eq_true rfl) ?_
              refine q_if_eq (fun c_55 => ?_) (fun c_55 => ?_)
              · rw [if_pos c_55] at h
                refine K_of b_258_62 h_258_62 ?_
                refine q_iconst (0) (by decide) ?_
                refine q_end ?_
                refine K_of b_258_63 h_258_63 ?_
                cases h
                exact q_iret rfl (Nat.le_refl _) (Nat.le_refl _) ⟨rfl, rfl⟩
              · rw [if_neg c_55] at h
                refine q_iconst (1) (by decide) ?_
                refine q_goto ?_
                refine K_of b_258_63 h_258_63 ?_
                cases h
                exact q_iret rfl (Nat.le_refl _) (Nat.le_refl _) ⟨rfl, rfl⟩
            · rw [if_neg c_40] at h
              refine q_iload rfl ?_
              refine q_goto ?_
              refine K_of b_258_48 h_258_48 ?_
              obtain ⟨⟨u_48, v_48⟩, h⟩ := ite_some h
              refine q_ialN (Int32.toNatClampNeg i1) (nx u_48) (zl hS 120 (by decide)) (sk hS 120 (by decide) rfl) v_48 (by decide) ?_
              refine q_i2l ?_
              refine q_lconst (1) (by decide) ?_
              refine q_lsub ?_
              obtain ⟨d_52, h⟩ := ite_some h
              obtain ⟨⟨x3_52, I3_52, L3_52⟩, e_52, h⟩ := Option.bind_eq_some_iff.mp h
              dsimp only at h
              refine q_fs3I (a_193 X hS (d := d - 1) (by omega) e_52) (by omega) (Nat.le_refl _) (Nat.le_refl _) rfl (Nat.le_of_ble_eq_true rfl) ?_
              refine q_if_eq (fun c_55 => ?_) (fun c_55 => ?_)
              · rw [if_pos c_55] at h
                refine K_of b_258_62 h_258_62 ?_
                refine q_iconst (0) (by decide) ?_
                refine q_end ?_
                refine K_of b_258_63 h_258_63 ?_
                cases h
                exact q_iret rfl (Nat.le_refl _) (Nat.le_refl _) ⟨rfl, rfl⟩
              · rw [if_neg c_55] at h
                refine q_iconst (1) (by decide) ?_
                refine q_goto ?_
                refine K_of b_258_63 h_258_63 ?_
                cases h
                exact q_iret rfl (Nat.le_refl _) (Nat.le_refl _) ⟨rfl, rfl⟩
theorem a_258 (X : GX) {z : Nat} {kd : Nat → Nat × Nat} {Rf : Nat → Nat → Option Nat} (hS : Sh z kd Rf) {n dp d : Nat} (hd : dp ≤ d) {I : (Nat → Nat → Int32)} {L : (Nat → Nat → Int64)} {i1 : Int32} {i2 : Int32} {I1 : (Nat → Nat → Int32)} {L1 : (Nat → Nat → Int64)} {r : Int32} (h : g_258 n dp (z, kd, Rf) 0 I L i1 i2 = some (r, I1, L1)) : Ct X d 258 0 0 [.ref 105, .int i1, .int i2] (z, kd, I, L, Rf) (AI (fun x τ => x = r ∧ τ = (z, kd, I1, L1, Rf))) :=
  Ct_of mu_258 (Nat.le_of_ble_eq_true rfl) ((w_258 X hS n dp d hd I L i1 i2 _ _ _) h)

/-! 257 CutFloorModel.choice(III)I -/
set_option maxHeartbeats 4000000 in
set_option maxRecDepth 100000 in
def g_257 : Nat → Nat → EN → Nat → (Nat → Nat → Int32) → (Nat → Nat → Int64) → Int32 → Int32 → Int32 →  Option (Int32 × (Nat → Nat → Int32) × (Nat → Nat → Int64))
  | 0, _, _, _, _, _, _, _, _ => none
  | n + 1, dp, e, lab, I, L, i1, i2, i3 =>
    if lab = 0 then (stI (u2 I 105 0 (0 : Int32)) (fun I_2 => (if 1 ≤ dp then (g_253 n (dp - 1) e 0 I_2 L 0 0).bind (fun ⟨I0_6, L0_6⟩ => (if 1 ≤ dp then (g_258 n (dp - 1) e 0 I0_6 L0_6 i1 i2).bind (fun ⟨x1_12, I1_12, L1_12⟩ => (if x1_12 = 0 then (some ((-100000 : Int32), I1_12, L1_12)) else (if 1 ≤ dp then (g_202 n (dp - 1) e 0 I1_12 L1_12 i3).bind (fun ⟨x2_19, I2_19, L2_19⟩ => (if x2_19 = 0 then (some ((-100000 : Int32), I2_19, L2_19)) else (if 0 ≤ ((((640 : Int32) * i1) + ((10 : Int32) * i2)) + i3) ∧ (Int32.toNatClampNeg ((((640 : Int32) * i1) + ((10 : Int32) * i2)) + i3)) < 1920 then (some ((I2_19 121 (Int32.toNatClampNeg ((((640 : Int32) * i1) + ((10 : Int32) * i2)) + i3))), I2_19, L2_19)) else none))) else none))) else none)) else none)))
    else none
set_option maxRecDepth 100000 in
theorem e_257_0 (n dp : Nat) (e : EN) (I : (Nat → Nat → Int32)) (L : (Nat → Nat → Int64)) (i1 : Int32) (i2 : Int32) (i3 : Int32) : g_257 (n + 1) dp e 0 I L i1 i2 i3 = (stI (u2 I 105 0 (0 : Int32)) (fun I_2 => (if 1 ≤ dp then (g_253 n (dp - 1) e 0 I_2 L 0 0).bind (fun ⟨I0_6, L0_6⟩ => (if 1 ≤ dp then (g_258 n (dp - 1) e 0 I0_6 L0_6 i1 i2).bind (fun ⟨x1_12, I1_12, L1_12⟩ => (if x1_12 = 0 then (some ((-100000 : Int32), I1_12, L1_12)) else (if 1 ≤ dp then (g_202 n (dp - 1) e 0 I1_12 L1_12 i3).bind (fun ⟨x2_19, I2_19, L2_19⟩ => (if x2_19 = 0 then (some ((-100000 : Int32), I2_19, L2_19)) else (if 0 ≤ ((((640 : Int32) * i1) + ((10 : Int32) * i2)) + i3) ∧ (Int32.toNatClampNeg ((((640 : Int32) * i1) + ((10 : Int32) * i2)) + i3)) < 1920 then (some ((I2_19 121 (Int32.toNatClampNeg ((((640 : Int32) * i1) + ((10 : Int32) * i2)) + i3))), I2_19, L2_19)) else none))) else none))) else none)) else none))) := by rw [g_257.eq_2, if_pos (show (0 : Nat) = 0 from rfl)]
set_option maxHeartbeats 8000000 in
set_option maxRecDepth 100000 in
theorem w_257 (X : GX) {z : Nat} {kd : Nat → Nat × Nat} {Rf : Nat → Nat → Option Nat} (hS : Sh z kd Rf) : ∀ (n dp d : Nat), dp ≤ d → ∀ (I : (Nat → Nat → Int32)) (L : (Nat → Nat → Int64)) (i1 : Int32) (i2 : Int32) (i3 : Int32) (r : Int32) (I1 : (Nat → Nat → Int32)) (L1 : (Nat → Nat → Int64)), (g_257 n dp (z, kd, Rf) 0 I L i1 i2 i3 = some (r, I1, L1) → K X d 257 0 0 (AI (fun x τ => x = r ∧ τ = (z, kd, I1, L1, Rf))) 0 [some (.ref 105), some (.int i1), some (.int i2), some (.int i3)] [] (z, kd, I, L, Rf) 0 0) := by
  intro n
  induction n with
  | zero => intro dp d hdp I L i1 i2 i3 r I1 L1; exact fun h => by cases h
  | succ n ih =>
    intro dp d hdp I L i1 i2 i3 r I1 L1
    · intro h
      rw [e_257_0] at h
      refine K_of b_257_0 h_257_0 ?_
      refine q_aload rfl ?_
      refine q_iconst (0) (by decide) ?_
      refine q_putI (c0 := 12) (j := 0) rfl rfl (zl hS 105 (by decide)) (sk hS 105 (by decide) rfl) rfl ?_
      obtain ⟨I_2, nI_2, h⟩ := stI_some h
      refine q_nI nI_2 ?_
      refine q_aload rfl ?_
      obtain ⟨d_6, h⟩ := ite_some h
      obtain ⟨⟨I0_6, L0_6⟩, e_6, h⟩ := Option.bind_eq_some_iff.mp h
      dsimp only at h
      refine q_fv1V (a_253 X hS (d := d - 1) (by omega) e_6) (by omega) (Nat.le_refl _) (Nat.le_refl _) rfl (Nat.le_of_ble_eq_true rfl) ⟨(zl hS 105 (by decide)), congrArg Prod.fst (sk hS 105 (by decide) rfl), by decide⟩ ?_
      refine q_aload rfl ?_
      refine q_iload rfl ?_
      refine q_iload rfl ?_
      obtain ⟨d_12, h⟩ := ite_some h
      obtain ⟨⟨x1_12, I1_12, L1_12⟩, e_12, h⟩ := Option.bind_eq_some_iff.mp h
      dsimp only at h
      refine q_fv3I (a_258 X hS (d := d - 1) (by omega) e_12) (by omega) (Nat.le_refl _) (Nat.le_refl _) rfl (Nat.le_of_ble_eq_true rfl) ⟨(zl hS 105 (by decide)), congrArg Prod.fst (sk hS 105 (by decide) rfl), by decide⟩ ?_
      refine q_if_eq (fun c_15 => ?_) (fun c_15 => ?_)
      · rw [if_pos c_15] at h
        refine K_of b_257_45 h_257_45 ?_
        refine q_iconst (-100000) (by decide) ?_
        refine q_end ?_
        refine K_of b_257_48 h_257_48 ?_
        cases h
        exact q_iret rfl (Nat.le_refl _) (Nat.le_refl _) ⟨rfl, rfl⟩
      · rw [if_neg c_15] at h
        refine q_iload rfl ?_
        obtain ⟨d_19, h⟩ := ite_some h
        obtain ⟨⟨x2_19, I2_19, L2_19⟩, e_19, h⟩ := Option.bind_eq_some_iff.mp h
        dsimp only at h
        refine q_fs1I (a_202 X hS (d := d - 1) (by omega) e_19) (by omega) (Nat.le_refl _) (Nat.le_refl _) rfl (Nat.le_of_ble_eq_true rfl) ?_
        refine q_if_eq (fun c_22 => ?_) (fun c_22 => ?_)
        · rw [if_pos c_22] at h
          refine K_of b_257_45 h_257_45 ?_
          refine q_iconst (-100000) (by decide) ?_
          refine q_end ?_
          refine K_of b_257_48 h_257_48 ?_
          cases h
          exact q_iret rfl (Nat.le_refl _) (Nat.le_refl _) ⟨rfl, rfl⟩
        · rw [if_neg c_22] at h
          refine q_aload rfl ?_
          refine q_getRs (c0 := 12) (j := 34) rfl rfl (zl hS 105 (by decide)) (sk hS 105 (by decide) rfl) rfl (by decide) (r_105_34 hS) ?_
          refine q_iconst (640) (by decide) ?_
          refine q_iload rfl ?_
          refine q_imul ?_
          refine q_iconst (10) (by decide) ?_
          refine q_iload rfl ?_
          refine q_imul ?_
          refine q_iadd ?_
          refine q_iload rfl ?_
          refine q_iadd ?_
          obtain ⟨⟨u_41, v_41⟩, h⟩ := ite_some h
          refine q_ialN (Int32.toNatClampNeg ((((640 : Int32) * i1) + ((10 : Int32) * i2)) + i3)) (nx u_41) (zl hS 121 (by decide)) (sk hS 121 (by decide) rfl) v_41 (by decide) ?_
          refine q_goto ?_
          refine K_of b_257_48 h_257_48 ?_
          cases h
          exact q_iret rfl (Nat.le_refl _) (Nat.le_refl _) ⟨rfl, rfl⟩
theorem a_257 (X : GX) {z : Nat} {kd : Nat → Nat × Nat} {Rf : Nat → Nat → Option Nat} (hS : Sh z kd Rf) {n dp d : Nat} (hd : dp ≤ d) {I : (Nat → Nat → Int32)} {L : (Nat → Nat → Int64)} {i1 : Int32} {i2 : Int32} {i3 : Int32} {I1 : (Nat → Nat → Int32)} {L1 : (Nat → Nat → Int64)} {r : Int32} (h : g_257 n dp (z, kd, Rf) 0 I L i1 i2 i3 = some (r, I1, L1)) : Ct X d 257 0 0 [.ref 105, .int i1, .int i2, .int i3] (z, kd, I, L, Rf) (AI (fun x τ => x = r ∧ τ = (z, kd, I1, L1, Rf))) :=
  Ct_of mu_257 (Nat.le_of_ble_eq_true rfl) ((w_257 X hS n dp d hd I L i1 i2 i3 _ _ _) h)

/-! 259 CutFloorModel.left(III)I -/
set_option maxHeartbeats 4000000 in
set_option maxRecDepth 100000 in
def g_259 : Nat → Nat → EN → Nat → (Nat → Nat → Int32) → (Nat → Nat → Int64) → Int32 → Int32 → Int32 →  Option (Int32 × (Nat → Nat → Int32) × (Nat → Nat → Int64))
  | 0, _, _, _, _, _, _, _, _ => none
  | n + 1, dp, e, lab, I, L, i1, i2, i3 =>
    if lab = 0 then (stI (u2 I 105 0 (0 : Int32)) (fun I_2 => (if 1 ≤ dp then (g_253 n (dp - 1) e 0 I_2 L 0 0).bind (fun ⟨I0_6, L0_6⟩ => (if 1 ≤ dp then (g_258 n (dp - 1) e 0 I0_6 L0_6 i1 i2).bind (fun ⟨x1_12, I1_12, L1_12⟩ => (if x1_12 = 0 then (some ((-1 : Int32), I1_12, L1_12)) else (if 1 ≤ dp then (g_202 n (dp - 1) e 0 I1_12 L1_12 i3).bind (fun ⟨x2_19, I2_19, L2_19⟩ => (if x2_19 = 0 then (some ((-1 : Int32), I2_19, L2_19)) else (if 0 ≤ ((((640 : Int32) * i1) + ((10 : Int32) * i2)) + i3) ∧ (Int32.toNatClampNeg ((((640 : Int32) * i1) + ((10 : Int32) * i2)) + i3)) < 1920 then (some ((I2_19 122 (Int32.toNatClampNeg ((((640 : Int32) * i1) + ((10 : Int32) * i2)) + i3))), I2_19, L2_19)) else none))) else none))) else none)) else none)))
    else none
set_option maxRecDepth 100000 in
theorem e_259_0 (n dp : Nat) (e : EN) (I : (Nat → Nat → Int32)) (L : (Nat → Nat → Int64)) (i1 : Int32) (i2 : Int32) (i3 : Int32) : g_259 (n + 1) dp e 0 I L i1 i2 i3 = (stI (u2 I 105 0 (0 : Int32)) (fun I_2 => (if 1 ≤ dp then (g_253 n (dp - 1) e 0 I_2 L 0 0).bind (fun ⟨I0_6, L0_6⟩ => (if 1 ≤ dp then (g_258 n (dp - 1) e 0 I0_6 L0_6 i1 i2).bind (fun ⟨x1_12, I1_12, L1_12⟩ => (if x1_12 = 0 then (some ((-1 : Int32), I1_12, L1_12)) else (if 1 ≤ dp then (g_202 n (dp - 1) e 0 I1_12 L1_12 i3).bind (fun ⟨x2_19, I2_19, L2_19⟩ => (if x2_19 = 0 then (some ((-1 : Int32), I2_19, L2_19)) else (if 0 ≤ ((((640 : Int32) * i1) + ((10 : Int32) * i2)) + i3) ∧ (Int32.toNatClampNeg ((((640 : Int32) * i1) + ((10 : Int32) * i2)) + i3)) < 1920 then (some ((I2_19 122 (Int32.toNatClampNeg ((((640 : Int32) * i1) + ((10 : Int32) * i2)) + i3))), I2_19, L2_19)) else none))) else none))) else none)) else none))) := by rw [g_259.eq_2, if_pos (show (0 : Nat) = 0 from rfl)]
set_option maxHeartbeats 8000000 in
set_option maxRecDepth 100000 in
theorem w_259 (X : GX) {z : Nat} {kd : Nat → Nat × Nat} {Rf : Nat → Nat → Option Nat} (hS : Sh z kd Rf) : ∀ (n dp d : Nat), dp ≤ d → ∀ (I : (Nat → Nat → Int32)) (L : (Nat → Nat → Int64)) (i1 : Int32) (i2 : Int32) (i3 : Int32) (r : Int32) (I1 : (Nat → Nat → Int32)) (L1 : (Nat → Nat → Int64)), (g_259 n dp (z, kd, Rf) 0 I L i1 i2 i3 = some (r, I1, L1) → K X d 259 0 0 (AI (fun x τ => x = r ∧ τ = (z, kd, I1, L1, Rf))) 0 [some (.ref 105), some (.int i1), some (.int i2), some (.int i3)] [] (z, kd, I, L, Rf) 0 0) := by
  intro n
  induction n with
  | zero => intro dp d hdp I L i1 i2 i3 r I1 L1; exact fun h => by cases h
  | succ n ih =>
    intro dp d hdp I L i1 i2 i3 r I1 L1
    · intro h
      rw [e_259_0] at h
      refine K_of b_259_0 h_259_0 ?_
      refine q_aload rfl ?_
      refine q_iconst (0) (by decide) ?_
      refine q_putI (c0 := 12) (j := 0) rfl rfl (zl hS 105 (by decide)) (sk hS 105 (by decide) rfl) rfl ?_
      obtain ⟨I_2, nI_2, h⟩ := stI_some h
      refine q_nI nI_2 ?_
      refine q_aload rfl ?_
      obtain ⟨d_6, h⟩ := ite_some h
      obtain ⟨⟨I0_6, L0_6⟩, e_6, h⟩ := Option.bind_eq_some_iff.mp h
      dsimp only at h
      refine q_fv1V (a_253 X hS (d := d - 1) (by omega) e_6) (by omega) (Nat.le_refl _) (Nat.le_refl _) rfl (Nat.le_of_ble_eq_true rfl) ⟨(zl hS 105 (by decide)), congrArg Prod.fst (sk hS 105 (by decide) rfl), by decide⟩ ?_
      refine q_aload rfl ?_
      refine q_iload rfl ?_
      refine q_iload rfl ?_
      obtain ⟨d_12, h⟩ := ite_some h
      obtain ⟨⟨x1_12, I1_12, L1_12⟩, e_12, h⟩ := Option.bind_eq_some_iff.mp h
      dsimp only at h
      refine q_fv3I (a_258 X hS (d := d - 1) (by omega) e_12) (by omega) (Nat.le_refl _) (Nat.le_refl _) rfl (Nat.le_of_ble_eq_true rfl) ⟨(zl hS 105 (by decide)), congrArg Prod.fst (sk hS 105 (by decide) rfl), by decide⟩ ?_
      refine q_if_eq (fun c_15 => ?_) (fun c_15 => ?_)
      · rw [if_pos c_15] at h
        refine K_of b_259_45 h_259_45 ?_
        refine q_iconst (-1) (by decide) ?_
        refine q_end ?_
        refine K_of b_259_46 h_259_46 ?_
        cases h
        exact q_iret rfl (Nat.le_refl _) (Nat.le_refl _) ⟨rfl, rfl⟩
      · rw [if_neg c_15] at h
        refine q_iload rfl ?_
        obtain ⟨d_19, h⟩ := ite_some h
        obtain ⟨⟨x2_19, I2_19, L2_19⟩, e_19, h⟩ := Option.bind_eq_some_iff.mp h
        dsimp only at h
        refine q_fs1I (a_202 X hS (d := d - 1) (by omega) e_19) (by omega) (Nat.le_refl _) (Nat.le_refl _) rfl (Nat.le_of_ble_eq_true rfl) ?_
        refine q_if_eq (fun c_22 => ?_) (fun c_22 => ?_)
        · rw [if_pos c_22] at h
          refine K_of b_259_45 h_259_45 ?_
          refine q_iconst (-1) (by decide) ?_
          refine q_end ?_
          refine K_of b_259_46 h_259_46 ?_
          cases h
          exact q_iret rfl (Nat.le_refl _) (Nat.le_refl _) ⟨rfl, rfl⟩
        · rw [if_neg c_22] at h
          refine q_aload rfl ?_
          refine q_getRs (c0 := 12) (j := 35) rfl rfl (zl hS 105 (by decide)) (sk hS 105 (by decide) rfl) rfl (by decide) (r_105_35 hS) ?_
          refine q_iconst (640) (by decide) ?_
          refine q_iload rfl ?_
          refine q_imul ?_
          refine q_iconst (10) (by decide) ?_
          refine q_iload rfl ?_
          refine q_imul ?_
          refine q_iadd ?_
          refine q_iload rfl ?_
          refine q_iadd ?_
          obtain ⟨⟨u_41, v_41⟩, h⟩ := ite_some h
          refine q_ialN (Int32.toNatClampNeg ((((640 : Int32) * i1) + ((10 : Int32) * i2)) + i3)) (nx u_41) (zl hS 122 (by decide)) (sk hS 122 (by decide) rfl) v_41 (by decide) ?_
          refine q_goto ?_
          refine K_of b_259_46 h_259_46 ?_
          cases h
          exact q_iret rfl (Nat.le_refl _) (Nat.le_refl _) ⟨rfl, rfl⟩
theorem a_259 (X : GX) {z : Nat} {kd : Nat → Nat × Nat} {Rf : Nat → Nat → Option Nat} (hS : Sh z kd Rf) {n dp d : Nat} (hd : dp ≤ d) {I : (Nat → Nat → Int32)} {L : (Nat → Nat → Int64)} {i1 : Int32} {i2 : Int32} {i3 : Int32} {I1 : (Nat → Nat → Int32)} {L1 : (Nat → Nat → Int64)} {r : Int32} (h : g_259 n dp (z, kd, Rf) 0 I L i1 i2 i3 = some (r, I1, L1)) : Ct X d 259 0 0 [.ref 105, .int i1, .int i2, .int i3] (z, kd, I, L, Rf) (AI (fun x τ => x = r ∧ τ = (z, kd, I1, L1, Rf))) :=
  Ct_of mu_259 (Nat.le_of_ble_eq_true rfl) ((w_259 X hS n dp d hd I L i1 i2 i3 _ _ _) h)

