/-! 289 CutFloorModel.isBox(IIIIII)Z -/
set_option maxHeartbeats 4000000 in
set_option maxRecDepth 100000 in
def g_289 : Nat → Nat → EN → Nat → (Nat → Nat → Int32) → (Nat → Nat → Int64) → Int32 → Int32 → Int32 → Int32 → Int32 → Int32 →  Option (Int32 × (Nat → Nat → Int32) × (Nat → Nat → Int64))
  | 0, _, _, _, _, _, _, _, _, _, _, _ => none
  | n + 1, dp, e, lab, I, L, i0, i1, i2, i3, i4, i5 =>
    if lab = 0 then (if 1 ≤ dp then (g_193 n (dp - 1) e 0 I L (Int32.toInt64 i0) (1 : Int64) (99 : Int64)).bind (fun ⟨x0_6, I0_6, L0_6⟩ => (if x0_6 = 0 then (some ((0 : Int32), I0_6, L0_6)) else (if 1 ≤ dp then (g_193 n (dp - 1) e 0 I0_6 L0_6 (Int32.toInt64 i1) (0 : Int64) (100 : Int64)).bind (fun ⟨x1_18, I1_18, L1_18⟩ => (if x1_18 = 0 then (some ((0 : Int32), I1_18, L1_18)) else (if 1 ≤ dp then (g_193 n (dp - 1) e 0 I1_18 L1_18 (Int32.toInt64 i2) (0 : Int64) (99 : Int64)).bind (fun ⟨x2_30, I2_30, L2_30⟩ => (if x2_30 = 0 then (some ((0 : Int32), I2_30, L2_30)) else (if 1 ≤ dp then (g_193 n (dp - 1) e 0 I2_30 L2_30 (Int32.toInt64 i3) (0 : Int64) (3 : Int64)).bind (fun ⟨x3_42, I3_42, L3_42⟩ => (if x3_42 = 0 then (some ((0 : Int32), I3_42, L3_42)) else (if 1 ≤ dp then (g_193 n (dp - 1) e 0 I3_42 L3_42 (Int32.toInt64 i4) (0 : Int64) (23 : Int64)).bind (fun ⟨x4_55, I4_55, L4_55⟩ => (if x4_55 = 0 then (some ((0 : Int32), I4_55, L4_55)) else (if 1 ≤ dp then (g_193 n (dp - 1) e 0 I4_55 L4_55 (Int32.toInt64 i5) (0 : Int64) (255 : Int64)).bind (fun ⟨x5_68, I5_68, L5_68⟩ => (if x5_68 = 0 then (some ((0 : Int32), I5_68, L5_68)) else (some ((1 : Int32), I5_68, L5_68)))) else none))) else none))) else none))) else none))) else none))) else none)
    else none
set_option maxRecDepth 100000 in
theorem e_289_0 (n dp : Nat) (e : EN) (I : (Nat → Nat → Int32)) (L : (Nat → Nat → Int64)) (i0 : Int32) (i1 : Int32) (i2 : Int32) (i3 : Int32) (i4 : Int32) (i5 : Int32) : g_289 (n + 1) dp e 0 I L i0 i1 i2 i3 i4 i5 = (if 1 ≤ dp then (g_193 n (dp - 1) e 0 I L (Int32.toInt64 i0) (1 : Int64) (99 : Int64)).bind (fun ⟨x0_6, I0_6, L0_6⟩ => (if x0_6 = 0 then (some ((0 : Int32), I0_6, L0_6)) else (if 1 ≤ dp then (g_193 n (dp - 1) e 0 I0_6 L0_6 (Int32.toInt64 i1) (0 : Int64) (100 : Int64)).bind (fun ⟨x1_18, I1_18, L1_18⟩ => (if x1_18 = 0 then (some ((0 : Int32), I1_18, L1_18)) else (if 1 ≤ dp then (g_193 n (dp - 1) e 0 I1_18 L1_18 (Int32.toInt64 i2) (0 : Int64) (99 : Int64)).bind (fun ⟨x2_30, I2_30, L2_30⟩ => (if x2_30 = 0 then (some ((0 : Int32), I2_30, L2_30)) else (if 1 ≤ dp then (g_193 n (dp - 1) e 0 I2_30 L2_30 (Int32.toInt64 i3) (0 : Int64) (3 : Int64)).bind (fun ⟨x3_42, I3_42, L3_42⟩ => (if x3_42 = 0 then (some ((0 : Int32), I3_42, L3_42)) else (if 1 ≤ dp then (g_193 n (dp - 1) e 0 I3_42 L3_42 (Int32.toInt64 i4) (0 : Int64) (23 : Int64)).bind (fun ⟨x4_55, I4_55, L4_55⟩ => (if x4_55 = 0 then (some ((0 : Int32), I4_55, L4_55)) else (if 1 ≤ dp then (g_193 n (dp - 1) e 0 I4_55 L4_55 (Int32.toInt64 i5) (0 : Int64) (255 : Int64)).bind (fun ⟨x5_68, I5_68, L5_68⟩ => (if x5_68 = 0 then (some ((0 : Int32), I5_68, L5_68)) else (some ((1 : Int32), I5_68, L5_68)))) else none))) else none))) else none))) else none))) else none))) else none) := by rw [g_289.eq_2, if_pos (show (0 : Nat) = 0 from rfl)]
set_option maxHeartbeats 8000000 in
set_option maxRecDepth 100000 in
theorem w_289 (X : GX) {z : Nat} {kd : Nat → Nat × Nat} {Rf : Nat → Nat → Option Nat} (hS : Sh z kd Rf) : ∀ (n dp d : Nat), dp ≤ d → ∀ (I : (Nat → Nat → Int32)) (L : (Nat → Nat → Int64)) (i0 : Int32) (i1 : Int32) (i2 : Int32) (i3 : Int32) (i4 : Int32) (i5 : Int32) (r : Int32) (I1 : (Nat → Nat → Int32)) (L1 : (Nat → Nat → Int64)), (g_289 n dp (z, kd, Rf) 0 I L i0 i1 i2 i3 i4 i5 = some (r, I1, L1) → K X d 289 0 0 (AI (fun x τ => x = r ∧ τ = (z, kd, I1, L1, Rf))) 0 [some (.int i0), some (.int i1), some (.int i2), some (.int i3), some (.int i4), some (.int i5)] [] (z, kd, I, L, Rf) 0 0) := by
  intro n
  induction n with
  | zero => intro dp d hdp I L i0 i1 i2 i3 i4 i5 r I1 L1; exact fun h => by cases h
  | succ n ih =>
    intro dp d hdp I L i0 i1 i2 i3 i4 i5 r I1 L1
    · intro h
      rw [e_289_0] at h
      refine K_of b_289_0 h_289_0 ?_
      refine q_iload rfl ?_
      refine q_i2l ?_
      refine q_lconst (1) (by decide) ?_
      refine q_lconst (99) (by decide) ?_
      obtain ⟨d_6, h⟩ := ite_some h
      obtain ⟨⟨x0_6, I0_6, L0_6⟩, e_6, h⟩ := Option.bind_eq_some_iff.mp h
      dsimp only at h
      refine q_fs3I (a_193 X hS (d := d - 1) (by omega) e_6) (by omega) (Nat.le_refl _) (Nat.le_refl _) rfl (Nat.le_of_ble_eq_true rfl) ?_
      refine q_if_eq (fun c_9 => ?_) (fun c_9 => ?_)
      · rw [if_pos c_9] at h
        refine K_of b_289_78 h_289_78 ?_
        refine q_iconst (0) (by decide) ?_
        refine q_end ?_
        refine K_of b_289_79 h_289_79 ?_
        cases h
        exact q_iret rfl (Nat.le_refl _) (Nat.le_refl _) ⟨rfl, rfl⟩
      · rw [if_neg c_9] at h
        refine q_iload rfl ?_
        refine q_i2l ?_
        refine q_lconst (0) (by decide) ?_
        refine q_lconst (100) (by decide) ?_
        obtain ⟨d_18, h⟩ := ite_some h
        obtain ⟨⟨x1_18, I1_18, L1_18⟩, e_18, h⟩ := Option.bind_eq_some_iff.mp h
        dsimp only at h
        refine q_fs3I (a_193 X hS (d := d - 1) (by omega) e_18) (by omega) (Nat.le_refl _) (Nat.le_refl _) rfl (Nat.le_of_ble_eq_true rfl) ?_
        refine q_if_eq (fun c_21 => ?_) (fun c_21 => ?_)
        · rw [if_pos c_21] at h
          refine K_of b_289_78 h_289_78 ?_
          refine q_iconst (0) (by decide) ?_
          refine q_end ?_
          refine K_of b_289_79 h_289_79 ?_
          cases h
          exact q_iret rfl (Nat.le_refl _) (Nat.le_refl _) ⟨rfl, rfl⟩
        · rw [if_neg c_21] at h
          refine q_iload rfl ?_
          refine q_i2l ?_
          refine q_lconst (0) (by decide) ?_
          refine q_lconst (99) (by decide) ?_
          obtain ⟨d_30, h⟩ := ite_some h
          obtain ⟨⟨x2_30, I2_30, L2_30⟩, e_30, h⟩ := Option.bind_eq_some_iff.mp h
          dsimp only at h
          refine q_fs3I (a_193 X hS (d := d - 1) (by omega) e_30) (by omega) (Nat.le_refl _) (Nat.le_refl _) rfl (Nat.le_of_ble_eq_true rfl) ?_
          refine q_if_eq (fun c_33 => ?_) (fun c_33 => ?_)
          · rw [if_pos c_33] at h
            refine K_of b_289_78 h_289_78 ?_
            refine q_iconst (0) (by decide) ?_
            refine q_end ?_
            refine K_of b_289_79 h_289_79 ?_
            cases h
            exact q_iret rfl (Nat.le_refl _) (Nat.le_refl _) ⟨rfl, rfl⟩
          · rw [if_neg c_33] at h
            refine q_iload rfl ?_
            refine q_i2l ?_
            refine q_lconst (0) (by decide) ?_
            refine q_lconst (3) (by decide) ?_
            obtain ⟨d_42, h⟩ := ite_some h
            obtain ⟨⟨x3_42, I3_42, L3_42⟩, e_42, h⟩ := Option.bind_eq_some_iff.mp h
            dsimp only at h
            refine q_fs3I (a_193 X hS (d := d - 1) (by omega) e_42) (by omega) (Nat.le_refl _) (Nat.le_refl _) rfl (Nat.le_of_ble_eq_true rfl) ?_
            refine q_if_eq (fun c_45 => ?_) (fun c_45 => ?_)
            · rw [if_pos c_45] at h
              refine K_of b_289_78 h_289_78 ?_
              refine q_iconst (0) (by decide) ?_
              refine q_end ?_
              refine K_of b_289_79 h_289_79 ?_
              cases h
              exact q_iret rfl (Nat.le_refl _) (Nat.le_refl _) ⟨rfl, rfl⟩
            · rw [if_neg c_45] at h
              refine q_iload rfl ?_
              refine q_i2l ?_
              refine q_lconst (0) (by decide) ?_
              refine q_lconst (23) (by decide) ?_
              obtain ⟨d_55, h⟩ := ite_some h
              obtain ⟨⟨x4_55, I4_55, L4_55⟩, e_55, h⟩ := Option.bind_eq_some_iff.mp h
              dsimp only at h
              refine q_fs3I (a_193 X hS (d := d - 1) (by omega) e_55) (by omega) (Nat.le_refl _) (Nat.le_refl _) rfl (Nat.le_of_ble_eq_true rfl) ?_
              refine q_if_eq (fun c_58 => ?_) (fun c_58 => ?_)
              · rw [if_pos c_58] at h
                refine K_of b_289_78 h_289_78 ?_
                refine q_iconst (0) (by decide) ?_
                refine q_end ?_
                refine K_of b_289_79 h_289_79 ?_
                cases h
                exact q_iret rfl (Nat.le_refl _) (Nat.le_refl _) ⟨rfl, rfl⟩
              · rw [if_neg c_58] at h
                refine q_iload rfl ?_
                refine q_i2l ?_
                refine q_lconst (0) (by decide) ?_
                refine q_lconst (255) (by decide) ?_
                obtain ⟨d_68, h⟩ := ite_some h
                obtain ⟨⟨x5_68, I5_68, L5_68⟩, e_68, h⟩ := Option.bind_eq_some_iff.mp h
                dsimp only at h
                refine q_fs3I (a_193 X hS (d := d - 1) (by omega) e_68) (by omega) (Nat.le_refl _) (Nat.le_refl _) rfl (Nat.le_of_ble_eq_true rfl) ?_
                refine q_if_eq (fun c_71 => ?_) (fun c_71 => ?_)
                · rw [if_pos c_71] at h
                  refine K_of b_289_78 h_289_78 ?_
                  refine q_iconst (0) (by decide) ?_
                  refine q_end ?_
                  refine K_of b_289_79 h_289_79 ?_
                  cases h
                  exact q_iret rfl (Nat.le_refl _) (Nat.le_refl _) ⟨rfl, rfl⟩
                · rw [if_neg c_71] at h
                  refine q_iconst (1) (by decide) ?_
                  refine q_goto ?_
                  refine K_of b_289_79 h_289_79 ?_
                  cases h
                  exact q_iret rfl (Nat.le_refl _) (Nat.le_refl _) ⟨rfl, rfl⟩
theorem a_289 (X : GX) {z : Nat} {kd : Nat → Nat × Nat} {Rf : Nat → Nat → Option Nat} (hS : Sh z kd Rf) {n dp d : Nat} (hd : dp ≤ d) {I : (Nat → Nat → Int32)} {L : (Nat → Nat → Int64)} {i0 : Int32} {i1 : Int32} {i2 : Int32} {i3 : Int32} {i4 : Int32} {i5 : Int32} {I1 : (Nat → Nat → Int32)} {L1 : (Nat → Nat → Int64)} {r : Int32} (h : g_289 n dp (z, kd, Rf) 0 I L i0 i1 i2 i3 i4 i5 = some (r, I1, L1)) : Ct X d 289 0 0 [.int i0, .int i1, .int i2, .int i3, .int i4, .int i5] (z, kd, I, L, Rf) (AI (fun x τ => x = r ∧ τ = (z, kd, I1, L1, Rf))) :=
  Ct_of mu_289 (Nat.le_of_ble_eq_true rfl) ((w_289 X hS n dp d hd I L i0 i1 i2 i3 i4 i5 _ _ _) h)

/-! 290 CutFloorModel.addBox(IIIIII)V -/
set_option maxHeartbeats 4000000 in
set_option maxRecDepth 100000 in
def g_290 : Nat → Nat → EN → Nat → (Nat → Nat → Int32) → (Nat → Nat → Int64) → Int32 → Int32 → Int32 → Int32 → Int32 → Int32 →  Option ((Nat → Nat → Int32) × (Nat → Nat → Int64))
  | 0, _, _, _, _, _, _, _, _, _, _, _ => none
  | n + 1, dp, e, lab, I, L, i1, i2, i3, i4, i5, i6 =>
    if lab = 0 then (stI ((90 : Int32) + ((7 : Int32) * (I 107 6))) (fun v_13 => (if 0 ≤ v_13 ∧ (Int32.toNatClampNeg v_13) < 1570 then (stI (u2 I 107 (Int32.toNatClampNeg v_13) i1) (fun I_22 => (if 0 ≤ (v_13 + (1 : Int32)) ∧ (Int32.toNatClampNeg (v_13 + (1 : Int32))) < 1570 then (stI (u2 I_22 107 (Int32.toNatClampNeg (v_13 + (1 : Int32))) i2) (fun I_32 => (if 0 ≤ (v_13 + (2 : Int32)) ∧ (Int32.toNatClampNeg (v_13 + (2 : Int32))) < 1570 then (stI (u2 I_32 107 (Int32.toNatClampNeg (v_13 + (2 : Int32))) i3) (fun I_42 => (if 0 ≤ (v_13 + (3 : Int32)) ∧ (Int32.toNatClampNeg (v_13 + (3 : Int32))) < 1570 then (stI (u2 I_42 107 (Int32.toNatClampNeg (v_13 + (3 : Int32))) i4) (fun I_53 => (if 0 ≤ (v_13 + (4 : Int32)) ∧ (Int32.toNatClampNeg (v_13 + (4 : Int32))) < 1570 then (stI (u2 I_53 107 (Int32.toNatClampNeg (v_13 + (4 : Int32))) i5) (fun I_64 => (if 0 ≤ (v_13 + (5 : Int32)) ∧ (Int32.toNatClampNeg (v_13 + (5 : Int32))) < 1570 then (stI (u2 I_64 107 (Int32.toNatClampNeg (v_13 + (5 : Int32))) i6) (fun I_75 => (if 0 ≤ (v_13 + (6 : Int32)) ∧ (Int32.toNatClampNeg (v_13 + (6 : Int32))) < 1570 then (stI (u2 I_75 107 (Int32.toNatClampNeg (v_13 + (6 : Int32))) (1 : Int32)) (fun I_86 => (stI (u2 I_86 107 6 ((I_86 107 6) + (1 : Int32))) (fun I_97 => (some (I_97, L)))))) else none))) else none))) else none))) else none))) else none))) else none))) else none)))
    else none
set_option maxRecDepth 100000 in
theorem e_290_0 (n dp : Nat) (e : EN) (I : (Nat → Nat → Int32)) (L : (Nat → Nat → Int64)) (i1 : Int32) (i2 : Int32) (i3 : Int32) (i4 : Int32) (i5 : Int32) (i6 : Int32) : g_290 (n + 1) dp e 0 I L i1 i2 i3 i4 i5 i6 = (stI ((90 : Int32) + ((7 : Int32) * (I 107 6))) (fun v_13 => (if 0 ≤ v_13 ∧ (Int32.toNatClampNeg v_13) < 1570 then (stI (u2 I 107 (Int32.toNatClampNeg v_13) i1) (fun I_22 => (if 0 ≤ (v_13 + (1 : Int32)) ∧ (Int32.toNatClampNeg (v_13 + (1 : Int32))) < 1570 then (stI (u2 I_22 107 (Int32.toNatClampNeg (v_13 + (1 : Int32))) i2) (fun I_32 => (if 0 ≤ (v_13 + (2 : Int32)) ∧ (Int32.toNatClampNeg (v_13 + (2 : Int32))) < 1570 then (stI (u2 I_32 107 (Int32.toNatClampNeg (v_13 + (2 : Int32))) i3) (fun I_42 => (if 0 ≤ (v_13 + (3 : Int32)) ∧ (Int32.toNatClampNeg (v_13 + (3 : Int32))) < 1570 then (stI (u2 I_42 107 (Int32.toNatClampNeg (v_13 + (3 : Int32))) i4) (fun I_53 => (if 0 ≤ (v_13 + (4 : Int32)) ∧ (Int32.toNatClampNeg (v_13 + (4 : Int32))) < 1570 then (stI (u2 I_53 107 (Int32.toNatClampNeg (v_13 + (4 : Int32))) i5) (fun I_64 => (if 0 ≤ (v_13 + (5 : Int32)) ∧ (Int32.toNatClampNeg (v_13 + (5 : Int32))) < 1570 then (stI (u2 I_64 107 (Int32.toNatClampNeg (v_13 + (5 : Int32))) i6) (fun I_75 => (if 0 ≤ (v_13 + (6 : Int32)) ∧ (Int32.toNatClampNeg (v_13 + (6 : Int32))) < 1570 then (stI (u2 I_75 107 (Int32.toNatClampNeg (v_13 + (6 : Int32))) (1 : Int32)) (fun I_86 => (stI (u2 I_86 107 6 ((I_86 107 6) + (1 : Int32))) (fun I_97 => (some (I_97, L)))))) else none))) else none))) else none))) else none))) else none))) else none))) else none))) := by rw [g_290.eq_2, if_pos (show (0 : Nat) = 0 from rfl)]
set_option maxHeartbeats 8000000 in
set_option maxRecDepth 100000 in
theorem w_290 (X : GX) {z : Nat} {kd : Nat → Nat × Nat} {Rf : Nat → Nat → Option Nat} (hS : Sh z kd Rf) : ∀ (n dp d : Nat), dp ≤ d → ∀ (I : (Nat → Nat → Int32)) (L : (Nat → Nat → Int64)) (i1 : Int32) (i2 : Int32) (i3 : Int32) (i4 : Int32) (i5 : Int32) (i6 : Int32) (I1 : (Nat → Nat → Int32)) (L1 : (Nat → Nat → Int64)), (g_290 n dp (z, kd, Rf) 0 I L i1 i2 i3 i4 i5 i6 = some (I1, L1) → K X d 290 0 0 (AV (fun τ => τ = (z, kd, I1, L1, Rf))) 0 [some (.ref 105), some (.int i1), some (.int i2), some (.int i3), some (.int i4), some (.int i5), some (.int i6), none] [] (z, kd, I, L, Rf) 0 0) := by
  intro n
  induction n with
  | zero => intro dp d hdp I L i1 i2 i3 i4 i5 i6 I1 L1; exact fun h => by cases h
  | succ n ih =>
    intro dp d hdp I L i1 i2 i3 i4 i5 i6 I1 L1
    · intro h
      rw [e_290_0] at h
      refine K_of b_290_0 h_290_0 ?_
      refine q_iconst (90) (by decide) ?_
      refine q_iconst (7) (by decide) ?_
      refine q_aload rfl ?_
      refine q_getRs (c0 := 12) (j := 3) rfl rfl (zl hS 105 (by decide)) (sk hS 105 (by decide) rfl) rfl (by decide) (r_105_3 hS) ?_
      refine q_iconst (6) (by decide) ?_
      refine q_ialN (6) rfl (zl hS 107 (by decide)) (sk hS 107 (by decide) rfl) (by decide) (by decide) ?_
      refine q_imul ?_
      refine q_iadd ?_
      obtain ⟨v_13, nv_13, h⟩ := stI_some h
      refine q_eqi nv_13.symm ?_
      refine q_istore (ls1 := [some (.ref 105), some (.int i1), some (.int i2), some (.int i3), some (.int i4), some (.int i5), some (.int i6), some (.int v_13)]) (Nat.le_of_ble_eq_true rfl) rfl ?_
      refine q_aload rfl ?_
      refine q_getRs (c0 := 12) (j := 3) rfl rfl (zl hS 105 (by decide)) (sk hS 105 (by decide) rfl) rfl (by decide) (r_105_3 hS) ?_
      refine q_iload rfl ?_
      refine q_iload rfl ?_
      obtain ⟨⟨u_22, v_22⟩, h⟩ := ite_some h
      refine q_iasN (Int32.toNatClampNeg v_13) (nx u_22) (zl hS 107 (by decide)) (sk hS 107 (by decide) rfl) v_22 (by decide) ?_
      obtain ⟨I_22, nI_22, h⟩ := stI_some h
      refine q_nI nI_22 ?_
      refine q_aload rfl ?_
      refine q_getRs (c0 := 12) (j := 3) rfl rfl (zl hS 105 (by decide)) (sk hS 105 (by decide) rfl) rfl (by decide) (r_105_3 hS) ?_
      refine q_iload rfl ?_
      refine q_iconst (1) (by decide) ?_
      refine q_iadd ?_
      refine q_iload rfl ?_
      obtain ⟨⟨u_32, v_32⟩, h⟩ := ite_some h
      refine q_iasN (Int32.toNatClampNeg (v_13 + (1 : Int32))) (nx u_32) (zl hS 107 (by decide)) (sk hS 107 (by decide) rfl) v_32 (by decide) ?_
      obtain ⟨I_32, nI_32, h⟩ := stI_some h
      refine q_nI nI_32 ?_
      refine q_aload rfl ?_
      refine q_getRs (c0 := 12) (j := 3) rfl rfl (zl hS 105 (by decide)) (sk hS 105 (by decide) rfl) rfl (by decide) (r_105_3 hS) ?_
      refine q_iload rfl ?_
      refine q_iconst (2) (by decide) ?_
      refine q_iadd ?_
      refine q_iload rfl ?_
      obtain ⟨⟨u_42, v_42⟩, h⟩ := ite_some h
      refine q_iasN (Int32.toNatClampNeg (v_13 + (2 : Int32))) (nx u_42) (zl hS 107 (by decide)) (sk hS 107 (by decide) rfl) v_42 (by decide) ?_
      obtain ⟨I_42, nI_42, h⟩ := stI_some h
      refine q_nI nI_42 ?_
      refine q_aload rfl ?_
      refine q_getRs (c0 := 12) (j := 3) rfl rfl (zl hS 105 (by decide)) (sk hS 105 (by decide) rfl) rfl (by decide) (r_105_3 hS) ?_
      refine q_iload rfl ?_
      refine q_iconst (3) (by decide) ?_
      refine q_iadd ?_
      refine q_iload rfl ?_
      obtain ⟨⟨u_53, v_53⟩, h⟩ := ite_some h
      refine q_iasN (Int32.toNatClampNeg (v_13 + (3 : Int32))) (nx u_53) (zl hS 107 (by decide)) (sk hS 107 (by decide) rfl) v_53 (by decide) ?_
      obtain ⟨I_53, nI_53, h⟩ := stI_some h
      refine q_nI nI_53 ?_
      refine q_aload rfl ?_
      refine q_getRs (c0 := 12) (j := 3) rfl rfl (zl hS 105 (by decide)) (sk hS 105 (by decide) rfl) rfl (by decide) (r_105_3 hS) ?_
      refine q_iload rfl ?_
      refine q_iconst (4) (by decide) ?_
      refine q_iadd ?_
      refine q_iload rfl ?_
      obtain ⟨⟨u_64, v_64⟩, h⟩ := ite_some h
      refine q_iasN (Int32.toNatClampNeg (v_13 + (4 : Int32))) (nx u_64) (zl hS 107 (by decide)) (sk hS 107 (by decide) rfl) v_64 (by decide) ?_
      obtain ⟨I_64, nI_64, h⟩ := stI_some h
      refine q_nI nI_64 ?_
      refine q_aload rfl ?_
      refine q_getRs (c0 := 12) (j := 3) rfl rfl (zl hS 105 (by decide)) (sk hS 105 (by decide) rfl) rfl (by decide) (r_105_3 hS) ?_
      refine q_iload rfl ?_
      refine q_iconst (5) (by decide) ?_
      refine q_iadd ?_
      refine q_iload rfl ?_
      obtain ⟨⟨u_75, v_75⟩, h⟩ := ite_some h
      refine q_iasN (Int32.toNatClampNeg (v_13 + (5 : Int32))) (nx u_75) (zl hS 107 (by decide)) (sk hS 107 (by decide) rfl) v_75 (by decide) ?_
      obtain ⟨I_75, nI_75, h⟩ := stI_some h
      refine q_nI nI_75 ?_
      refine q_aload rfl ?_
      refine q_getRs (c0 := 12) (j := 3) rfl rfl (zl hS 105 (by decide)) (sk hS 105 (by decide) rfl) rfl (by decide) (r_105_3 hS) ?_
      refine q_iload rfl ?_
      refine q_iconst (6) (by decide) ?_
      refine q_iadd ?_
      refine q_iconst (1) (by decide) ?_
      obtain ⟨⟨u_86, v_86⟩, h⟩ := ite_some h
      refine q_iasN (Int32.toNatClampNeg (v_13 + (6 : Int32))) (nx u_86) (zl hS 107 (by decide)) (sk hS 107 (by decide) rfl) v_86 (by decide) ?_
      obtain ⟨I_86, nI_86, h⟩ := stI_some h
      refine q_nI nI_86 ?_
      refine q_aload rfl ?_
      refine q_getRs (c0 := 12) (j := 3) rfl rfl (zl hS 105 (by decide)) (sk hS 105 (by decide) rfl) rfl (by decide) (r_105_3 hS) ?_
      refine q_iconst (6) (by decide) ?_
      refine q_dup2 rfl rfl ?_
      refine q_ialN (6) rfl (zl hS 107 (by decide)) (sk hS 107 (by decide) rfl) (by decide) (by decide) ?_
      refine q_iconst (1) (by decide) ?_
      refine q_iadd ?_
      refine q_iasN (6) rfl (zl hS 107 (by decide)) (sk hS 107 (by decide) rfl) (by decide) (by decide) ?_
      obtain ⟨I_97, nI_97, h⟩ := stI_some h
      refine q_nI nI_97 ?_
      cases h
      exact q_vret rfl (Nat.le_refl _) (Nat.le_refl _) rfl
theorem a_290 (X : GX) {z : Nat} {kd : Nat → Nat × Nat} {Rf : Nat → Nat → Option Nat} (hS : Sh z kd Rf) {n dp d : Nat} (hd : dp ≤ d) {I : (Nat → Nat → Int32)} {L : (Nat → Nat → Int64)} {i1 : Int32} {i2 : Int32} {i3 : Int32} {i4 : Int32} {i5 : Int32} {i6 : Int32} {I1 : (Nat → Nat → Int32)} {L1 : (Nat → Nat → Int64)} (h : g_290 n dp (z, kd, Rf) 0 I L i1 i2 i3 i4 i5 i6 = some (I1, L1)) : Ct X d 290 0 0 [.ref 105, .int i1, .int i2, .int i3, .int i4, .int i5, .int i6] (z, kd, I, L, Rf) (AV (fun τ => τ = (z, kd, I1, L1, Rf))) :=
  Ct_of mu_290 (Nat.le_of_ble_eq_true rfl) ((w_290 X hS n dp d hd I L i1 i2 i3 i4 i5 i6 _ _) h)

/-! 288 CutFloorModel.box(IIIIII)I -/
set_option maxHeartbeats 4000000 in
set_option maxRecDepth 100000 in
def g_288 : Nat → Nat → EN → Nat → (Nat → Nat → Int32) → (Nat → Nat → Int64) → Int32 → Int32 → Int32 → Int32 → Int32 → Int32 →  Option (Int32 × (Nat → Nat → Int32) × (Nat → Nat → Int64))
  | 0, _, _, _, _, _, _, _, _, _, _, _ => none
  | n + 1, dp, e, lab, I, L, i1, i2, i3, i4, i5, i6 =>
    if lab = 0 then (stI (u2 I 105 0 (0 : Int32)) (fun I_2 => (if 1 ≤ dp then (g_289 n (dp - 1) e 0 I_2 L i1 i2 i3 i4 i5 i6).bind (fun ⟨x0_14, I0_14, L0_14⟩ => (if x0_14 = 0 then (if 1 ≤ dp then (g_194 n (dp - 1) e 0 I0_14 L0_14 (-1 : Int32)).bind (fun ⟨x1_22, I1_22, L1_22⟩ => (some (x1_22, I1_22, L1_22))) else none) else (if (I0_14 107 6) = (16 : Int32) then (if 1 ≤ dp then (g_194 n (dp - 1) e 0 I0_14 L0_14 (-5 : Int32)).bind (fun ⟨x1_41, I1_41, L1_41⟩ => (some (x1_41, I1_41, L1_41))) else none) else (if 1 ≤ dp then (g_290 n (dp - 1) e 0 I0_14 L0_14 i1 i2 i3 i4 i5 i6).bind (fun ⟨I1_55, L1_55⟩ => (if 1 ≤ dp then (g_194 n (dp - 1) e 0 I1_55 L1_55 ((I1_55 107 6) - (1 : Int32))).bind (fun ⟨x2_68, I2_68, L2_68⟩ => (some (x2_68, I2_68, L2_68))) else none)) else none)))) else none)))
    else none
set_option maxRecDepth 100000 in
theorem e_288_0 (n dp : Nat) (e : EN) (I : (Nat → Nat → Int32)) (L : (Nat → Nat → Int64)) (i1 : Int32) (i2 : Int32) (i3 : Int32) (i4 : Int32) (i5 : Int32) (i6 : Int32) : g_288 (n + 1) dp e 0 I L i1 i2 i3 i4 i5 i6 = (stI (u2 I 105 0 (0 : Int32)) (fun I_2 => (if 1 ≤ dp then (g_289 n (dp - 1) e 0 I_2 L i1 i2 i3 i4 i5 i6).bind (fun ⟨x0_14, I0_14, L0_14⟩ => (if x0_14 = 0 then (if 1 ≤ dp then (g_194 n (dp - 1) e 0 I0_14 L0_14 (-1 : Int32)).bind (fun ⟨x1_22, I1_22, L1_22⟩ => (some (x1_22, I1_22, L1_22))) else none) else (if (I0_14 107 6) = (16 : Int32) then (if 1 ≤ dp then (g_194 n (dp - 1) e 0 I0_14 L0_14 (-5 : Int32)).bind (fun ⟨x1_41, I1_41, L1_41⟩ => (some (x1_41, I1_41, L1_41))) else none) else (if 1 ≤ dp then (g_290 n (dp - 1) e 0 I0_14 L0_14 i1 i2 i3 i4 i5 i6).bind (fun ⟨I1_55, L1_55⟩ => (if 1 ≤ dp then (g_194 n (dp - 1) e 0 I1_55 L1_55 ((I1_55 107 6) - (1 : Int32))).bind (fun ⟨x2_68, I2_68, L2_68⟩ => (some (x2_68, I2_68, L2_68))) else none)) else none)))) else none))) := by rw [g_288.eq_2, if_pos (show (0 : Nat) = 0 from rfl)]
set_option maxHeartbeats 8000000 in
set_option maxRecDepth 100000 in
theorem w_288 (X : GX) {z : Nat} {kd : Nat → Nat × Nat} {Rf : Nat → Nat → Option Nat} (hS : Sh z kd Rf) : ∀ (n dp d : Nat), dp ≤ d → ∀ (I : (Nat → Nat → Int32)) (L : (Nat → Nat → Int64)) (i1 : Int32) (i2 : Int32) (i3 : Int32) (i4 : Int32) (i5 : Int32) (i6 : Int32) (r : Int32) (I1 : (Nat → Nat → Int32)) (L1 : (Nat → Nat → Int64)), (g_288 n dp (z, kd, Rf) 0 I L i1 i2 i3 i4 i5 i6 = some (r, I1, L1) → K X d 288 0 0 (AI (fun x τ => x = r ∧ τ = (z, kd, I1, L1, Rf))) 0 [some (.ref 105), some (.int i1), some (.int i2), some (.int i3), some (.int i4), some (.int i5), some (.int i6)] [] (z, kd, I, L, Rf) 0 0) := by
  intro n
  induction n with
  | zero => intro dp d hdp I L i1 i2 i3 i4 i5 i6 r I1 L1; exact fun h => by cases h
  | succ n ih =>
    intro dp d hdp I L i1 i2 i3 i4 i5 i6 r I1 L1
    · intro h
      rw [e_288_0] at h
      refine K_of b_288_0 h_288_0 ?_
      refine q_aload rfl ?_
      refine q_iconst (0) (by decide) ?_
      refine q_putI (c0 := 12) (j := 0) rfl rfl (zl hS 105 (by decide)) (sk hS 105 (by decide) rfl) rfl ?_
      obtain ⟨I_2, nI_2, h⟩ := stI_some h
      refine q_nI nI_2 ?_
      refine q_iload rfl ?_
      refine q_iload rfl ?_
      refine q_iload rfl ?_
      refine q_iload rfl ?_
      refine q_iload rfl ?_
      refine q_iload rfl ?_
      obtain ⟨d_14, h⟩ := ite_some h
      obtain ⟨⟨x0_14, I0_14, L0_14⟩, e_14, h⟩ := Option.bind_eq_some_iff.mp h
      dsimp only at h
      refine q_fs6I (a_289 X hS (d := d - 1) (by omega) e_14) (by omega) (Nat.le_refl _) (Nat.le_refl _) rfl (Nat.le_of_ble_eq_true rfl) ?_
      refine q_if_ne (fun c_17 => ?_) (fun c_17 => ?_)
      · rw [if_neg c_17] at h
        refine K_of b_288_26 h_288_26 ?_
        refine q_aload rfl ?_
        refine q_getRs (c0 := 12) (j := 3) rfl rfl (zl hS 105 (by decide)) (sk hS 105 (by decide) rfl) rfl (by decide) (r_105_3 hS) ?_
        refine q_iconst (6) (by decide) ?_
        refine q_ialN (6) rfl (zl hS 107 (by decide)) (sk hS 107 (by decide) rfl) (by decide) (by decide) ?_
        refine q_iconst (16) (by decide) ?_
        refine q_icmp_ne (fun c_35 => ?_) (fun c_35 => ?_)
        · rw [if_neg c_35] at h
          refine K_of b_288_45 h_288_45 ?_
          refine q_aload rfl ?_
          refine q_iload rfl ?_
          refine q_iload rfl ?_
          refine q_iload rfl ?_
          refine q_iload rfl ?_
          refine q_iload rfl ?_
          refine q_iload rfl ?_
          obtain ⟨d_55, h⟩ := ite_some h
          obtain ⟨⟨I1_55, L1_55⟩, e_55, h⟩ := Option.bind_eq_some_iff.mp h
          dsimp only at h
          refine q_fv7V (a_290 X hS (d := d - 1) (by omega) e_55) (by omega) (Nat.le_refl _) (Nat.le_refl _) rfl (Nat.le_of_ble_eq_true rfl) ⟨(zl hS 105 (by decide)), congrArg Prod.fst (sk hS 105 (by decide) rfl), by decide⟩ ?_
          refine q_aload rfl ?_
          refine q_aload rfl ?_
          refine q_getRs (c0 := 12) (j := 3) rfl rfl (zl hS 105 (by decide)) (sk hS 105 (by decide) rfl) rfl (by decide) (r_105_3 hS) ?_
          refine q_iconst (6) (by decide) ?_
          refine q_ialN (6) rfl (zl hS 107 (by decide)) (sk hS 107 (by decide) rfl) (by decide) (by decide) ?_
          refine q_iconst (1) (by decide) ?_
          refine q_isub ?_
          obtain ⟨d_68, h⟩ := ite_some h
          obtain ⟨⟨x2_68, I2_68, L2_68⟩, e_68, h⟩ := Option.bind_eq_some_iff.mp h
          dsimp only at h
          refine q_fv2I (a_194 X hS (d := d - 1) (by omega) e_68) (by omega) (Nat.le_refl _) (Nat.le_refl _) rfl (Nat.le_of_ble_eq_true rfl) ⟨(zl hS 105 (by decide)), congrArg Prod.fst (sk hS 105 (by decide) rfl), by decide⟩ ?_
          cases h
          exact q_iret rfl (Nat.le_refl _) (Nat.le_refl _) ⟨rfl, rfl⟩
        · rw [if_pos c_35] at h
          refine q_aload rfl ?_
          refine q_iconst (-5) (by decide) ?_
          obtain ⟨d_41, h⟩ := ite_some h
          obtain ⟨⟨x1_41, I1_41, L1_41⟩, e_41, h⟩ := Option.bind_eq_some_iff.mp h
          dsimp only at h
          refine q_fv2I (a_194 X hS (d := d - 1) (by omega) e_41) (by omega) (Nat.le_refl _) (Nat.le_refl _) rfl (Nat.le_of_ble_eq_true rfl) ⟨(zl hS 105 (by decide)), congrArg Prod.fst (sk hS 105 (by decide) rfl), by decide⟩ ?_
          cases h
          exact q_iret rfl (Nat.le_refl _) (Nat.le_refl _) ⟨rfl, rfl⟩
      · rw [if_pos c_17] at h
        refine q_aload rfl ?_
        refine q_iconst (-1) (by decide) ?_
        obtain ⟨d_22, h⟩ := ite_some h
        obtain ⟨⟨x1_22, I1_22, L1_22⟩, e_22, h⟩ := Option.bind_eq_some_iff.mp h
        dsimp only at h
        refine q_fv2I (a_194 X hS (d := d - 1) (by omega) e_22) (by omega) (Nat.le_refl _) (Nat.le_refl _) rfl (Nat.le_of_ble_eq_true rfl) ⟨(zl hS 105 (by decide)), congrArg Prod.fst (sk hS 105 (by decide) rfl), by decide⟩ ?_
        cases h
        exact q_iret rfl (Nat.le_refl _) (Nat.le_refl _) ⟨rfl, rfl⟩
theorem a_288 (X : GX) {z : Nat} {kd : Nat → Nat × Nat} {Rf : Nat → Nat → Option Nat} (hS : Sh z kd Rf) {n dp d : Nat} (hd : dp ≤ d) {I : (Nat → Nat → Int32)} {L : (Nat → Nat → Int64)} {i1 : Int32} {i2 : Int32} {i3 : Int32} {i4 : Int32} {i5 : Int32} {i6 : Int32} {I1 : (Nat → Nat → Int32)} {L1 : (Nat → Nat → Int64)} {r : Int32} (h : g_288 n dp (z, kd, Rf) 0 I L i1 i2 i3 i4 i5 i6 = some (r, I1, L1)) : Ct X d 288 0 0 [.ref 105, .int i1, .int i2, .int i3, .int i4, .int i5, .int i6] (z, kd, I, L, Rf) (AI (fun x τ => x = r ∧ τ = (z, kd, I1, L1, Rf))) :=
  Ct_of mu_288 (Nat.le_of_ble_eq_true rfl) ((w_288 X hS n dp d hd I L i1 i2 i3 i4 i5 i6 _ _ _) h)

/-! 292 CutFloorModel.ofBox(II)I -/
set_option maxHeartbeats 4000000 in
set_option maxRecDepth 100000 in
def g_292 : Nat → Nat → EN → Nat → (Nat → Nat → Int32) → (Nat → Nat → Int64) → Int32 → Int32 →  Option (Int32 × (Nat → Nat → Int32) × (Nat → Nat → Int64))
  | 0, _, _, _, _, _, _, _ => none
  | n + 1, dp, e, lab, I, L, i1, i2 =>
    if lab = 0 then (if 0 ≤ (((90 : Int32) + ((7 : Int32) * i1)) + i2) ∧ (Int32.toNatClampNeg (((90 : Int32) + ((7 : Int32) * i1)) + i2)) < 1570 then (some ((I 107 (Int32.toNatClampNeg (((90 : Int32) + ((7 : Int32) * i1)) + i2))), I, L)) else none)
    else none
set_option maxRecDepth 100000 in
theorem e_292_0 (n dp : Nat) (e : EN) (I : (Nat → Nat → Int32)) (L : (Nat → Nat → Int64)) (i1 : Int32) (i2 : Int32) : g_292 (n + 1) dp e 0 I L i1 i2 = (if 0 ≤ (((90 : Int32) + ((7 : Int32) * i1)) + i2) ∧ (Int32.toNatClampNeg (((90 : Int32) + ((7 : Int32) * i1)) + i2)) < 1570 then (some ((I 107 (Int32.toNatClampNeg (((90 : Int32) + ((7 : Int32) * i1)) + i2))), I, L)) else none) := by rw [g_292.eq_2, if_pos (show (0 : Nat) = 0 from rfl)]
set_option maxHeartbeats 8000000 in
set_option maxRecDepth 100000 in
theorem w_292 (X : GX) {z : Nat} {kd : Nat → Nat × Nat} {Rf : Nat → Nat → Option Nat} (hS : Sh z kd Rf) : ∀ (n dp d : Nat), dp ≤ d → ∀ (I : (Nat → Nat → Int32)) (L : (Nat → Nat → Int64)) (i1 : Int32) (i2 : Int32) (r : Int32) (I1 : (Nat → Nat → Int32)) (L1 : (Nat → Nat → Int64)), (g_292 n dp (z, kd, Rf) 0 I L i1 i2 = some (r, I1, L1) → K X d 292 0 0 (AI (fun x τ => x = r ∧ τ = (z, kd, I1, L1, Rf))) 0 [some (.ref 105), some (.int i1), some (.int i2)] [] (z, kd, I, L, Rf) 0 0) := by
  intro n
  induction n with
  | zero => intro dp d hdp I L i1 i2 r I1 L1; exact fun h => by cases h
  | succ n ih =>
    intro dp d hdp I L i1 i2 r I1 L1
    · intro h
      rw [e_292_0] at h
      refine K_of b_292_0 h_292_0 ?_
      refine q_aload rfl ?_
      refine q_getRs (c0 := 12) (j := 3) rfl rfl (zl hS 105 (by decide)) (sk hS 105 (by decide) rfl) rfl (by decide) (r_105_3 hS) ?_
      refine q_iconst (90) (by decide) ?_
      refine q_iconst (7) (by decide) ?_
      refine q_iload rfl ?_
      refine q_imul ?_
      refine q_iadd ?_
      refine q_iload rfl ?_
      refine q_iadd ?_
      obtain ⟨⟨u_13, v_13⟩, h⟩ := ite_some h
      refine q_ialN (Int32.toNatClampNeg (((90 : Int32) + ((7 : Int32) * i1)) + i2)) (nx u_13) (zl hS 107 (by decide)) (sk hS 107 (by decide) rfl) v_13 (by decide) ?_
      cases h
      exact q_iret rfl (Nat.le_refl _) (Nat.le_refl _) ⟨rfl, rfl⟩
theorem a_292 (X : GX) {z : Nat} {kd : Nat → Nat × Nat} {Rf : Nat → Nat → Option Nat} (hS : Sh z kd Rf) {n dp d : Nat} (hd : dp ≤ d) {I : (Nat → Nat → Int32)} {L : (Nat → Nat → Int64)} {i1 : Int32} {i2 : Int32} {I1 : (Nat → Nat → Int32)} {L1 : (Nat → Nat → Int64)} {r : Int32} (h : g_292 n dp (z, kd, Rf) 0 I L i1 i2 = some (r, I1, L1)) : Ct X d 292 0 0 [.ref 105, .int i1, .int i2] (z, kd, I, L, Rf) (AI (fun x τ => x = r ∧ τ = (z, kd, I1, L1, Rf))) :=
  Ct_of mu_292 (Nat.le_of_ble_eq_true rfl) ((w_292 X hS n dp d hd I L i1 i2 _ _ _) h)

/-! 291 CutFloorModel.of(II)I -/
set_option maxHeartbeats 4000000 in
set_option maxRecDepth 100000 in
def g_291 : Nat → Nat → EN → Nat → (Nat → Nat → Int32) → (Nat → Nat → Int64) → Int32 → Int32 →  Option (Int32 × (Nat → Nat → Int32) × (Nat → Nat → Int64))
  | 0, _, _, _, _, _, _, _ => none
  | n + 1, dp, e, lab, I, L, i1, i2 =>
    if lab = 0 then (stI (u2 I 105 0 (0 : Int32)) (fun I_2 => (if 1 ≤ dp then (g_193 n (dp - 1) e 0 I_2 L (Int32.toInt64 i1) (0 : Int64) ((Int32.toInt64 (I_2 107 6)) - (1 : Int64))).bind (fun ⟨x0_18, I0_18, L0_18⟩ => (if x0_18 = 0 then (some ((-1 : Int32), I0_18, L0_18)) else (if 1 ≤ dp then (g_193 n (dp - 1) e 0 I0_18 L0_18 (Int32.toInt64 i2) (0 : Int64) (6 : Int64)).bind (fun ⟨x1_30, I1_30, L1_30⟩ => (if x1_30 = 0 then (some ((-1 : Int32), I1_30, L1_30)) else (if 1 ≤ dp then (g_292 n (dp - 1) e 0 I1_30 L1_30 i1 i2).bind (fun ⟨x2_39, I2_39, L2_39⟩ => (some (x2_39, I2_39, L2_39))) else none))) else none))) else none)))
    else none
set_option maxRecDepth 100000 in
theorem e_291_0 (n dp : Nat) (e : EN) (I : (Nat → Nat → Int32)) (L : (Nat → Nat → Int64)) (i1 : Int32) (i2 : Int32) : g_291 (n + 1) dp e 0 I L i1 i2 = (stI (u2 I 105 0 (0 : Int32)) (fun I_2 => (if 1 ≤ dp then (g_193 n (dp - 1) e 0 I_2 L (Int32.toInt64 i1) (0 : Int64) ((Int32.toInt64 (I_2 107 6)) - (1 : Int64))).bind (fun ⟨x0_18, I0_18, L0_18⟩ => (if x0_18 = 0 then (some ((-1 : Int32), I0_18, L0_18)) else (if 1 ≤ dp then (g_193 n (dp - 1) e 0 I0_18 L0_18 (Int32.toInt64 i2) (0 : Int64) (6 : Int64)).bind (fun ⟨x1_30, I1_30, L1_30⟩ => (if x1_30 = 0 then (some ((-1 : Int32), I1_30, L1_30)) else (if 1 ≤ dp then (g_292 n (dp - 1) e 0 I1_30 L1_30 i1 i2).bind (fun ⟨x2_39, I2_39, L2_39⟩ => (some (x2_39, I2_39, L2_39))) else none))) else none))) else none))) := by rw [g_291.eq_2, if_pos (show (0 : Nat) = 0 from rfl)]
set_option maxHeartbeats 8000000 in
set_option maxRecDepth 100000 in
theorem w_291 (X : GX) {z : Nat} {kd : Nat → Nat × Nat} {Rf : Nat → Nat → Option Nat} (hS : Sh z kd Rf) : ∀ (n dp d : Nat), dp ≤ d → ∀ (I : (Nat → Nat → Int32)) (L : (Nat → Nat → Int64)) (i1 : Int32) (i2 : Int32) (r : Int32) (I1 : (Nat → Nat → Int32)) (L1 : (Nat → Nat → Int64)), (g_291 n dp (z, kd, Rf) 0 I L i1 i2 = some (r, I1, L1) → K X d 291 0 0 (AI (fun x τ => x = r ∧ τ = (z, kd, I1, L1, Rf))) 0 [some (.ref 105), some (.int i1), some (.int i2)] [] (z, kd, I, L, Rf) 0 0) := by
  intro n
  induction n with
  | zero => intro dp d hdp I L i1 i2 r I1 L1; exact fun h => by cases h
  | succ n ih =>
    intro dp d hdp I L i1 i2 r I1 L1
    · intro h
      rw [e_291_0] at h
      refine K_of b_291_0 h_291_0 ?_
      refine q_aload rfl ?_
      refine q_iconst (0) (by decide) ?_
      refine q_putI (c0 := 12) (j := 0) rfl rfl (zl hS 105 (by decide)) (sk hS 105 (by decide) rfl) rfl ?_
      obtain ⟨I_2, nI_2, h⟩ := stI_some h
      refine q_nI nI_2 ?_
      refine q_iload rfl ?_
      refine q_i2l ?_
      refine q_lconst (0) (by decide) ?_
      refine q_aload rfl ?_
      refine q_getRs (c0 := 12) (j := 3) rfl rfl (zl hS 105 (by decide)) (sk hS 105 (by decide) rfl) rfl (by decide) (r_105_3 hS) ?_
      refine q_iconst (6) (by decide) ?_
      refine q_ialN (6) rfl (zl hS 107 (by decide)) (sk hS 107 (by decide) rfl) (by decide) (by decide) ?_
      refine q_i2l ?_
      refine q_lconst (1) (by decide) ?_
      refine q_lsub ?_
      obtain ⟨d_18, h⟩ := ite_some h
      obtain ⟨⟨x0_18, I0_18, L0_18⟩, e_18, h⟩ := Option.bind_eq_some_iff.mp h
      dsimp only at h
      refine q_fs3I (a_193 X hS (d := d - 1) (by omega) e_18) (by omega) (Nat.le_refl _) (Nat.le_refl _) rfl (Nat.le_of_ble_eq_true rfl) ?_
      refine q_if_eq (fun c_21 => ?_) (fun c_21 => ?_)
      · rw [if_pos c_21] at h
        refine K_of b_291_45 h_291_45 ?_
        refine q_iconst (-1) (by decide) ?_
        refine q_end ?_
        refine K_of b_291_46 h_291_46 ?_
        cases h
        exact q_iret rfl (Nat.le_refl _) (Nat.le_refl _) ⟨rfl, rfl⟩
      · rw [if_neg c_21] at h
        refine q_iload rfl ?_
        refine q_i2l ?_
        refine q_lconst (0) (by decide) ?_
        refine q_lconst (6) (by decide) ?_
        obtain ⟨d_30, h⟩ := ite_some h
        obtain ⟨⟨x1_30, I1_30, L1_30⟩, e_30, h⟩ := Option.bind_eq_some_iff.mp h
        dsimp only at h
        refine q_fs3I (a_193 X hS (d := d - 1) (by omega) e_30) (by omega) (Nat.le_refl _) (Nat.le_refl _) rfl (Nat.le_of_ble_eq_true rfl) ?_
        refine q_if_eq (fun c_33 => ?_) (fun c_33 => ?_)
        · rw [if_pos c_33] at h
          refine K_of b_291_45 h_291_45 ?_
          refine q_iconst (-1) (by decide) ?_
          refine q_end ?_
          refine K_of b_291_46 h_291_46 ?_
          cases h
          exact q_iret rfl (Nat.le_refl _) (Nat.le_refl _) ⟨rfl, rfl⟩
        · rw [if_neg c_33] at h
          refine q_aload rfl ?_
          refine q_iload rfl ?_
          refine q_iload rfl ?_
          obtain ⟨d_39, h⟩ := ite_some h
          obtain ⟨⟨x2_39, I2_39, L2_39⟩, e_39, h⟩ := Option.bind_eq_some_iff.mp h
          dsimp only at h
          refine q_fv3I (a_292 X hS (d := d - 1) (by omega) e_39) (by omega) (Nat.le_refl _) (Nat.le_refl _) rfl (Nat.le_of_ble_eq_true rfl) ⟨(zl hS 105 (by decide)), congrArg Prod.fst (sk hS 105 (by decide) rfl), by decide⟩ ?_
          refine q_goto ?_
          refine K_of b_291_46 h_291_46 ?_
          cases h
          exact q_iret rfl (Nat.le_refl _) (Nat.le_refl _) ⟨rfl, rfl⟩
theorem a_291 (X : GX) {z : Nat} {kd : Nat → Nat × Nat} {Rf : Nat → Nat → Option Nat} (hS : Sh z kd Rf) {n dp d : Nat} (hd : dp ≤ d) {I : (Nat → Nat → Int32)} {L : (Nat → Nat → Int64)} {i1 : Int32} {i2 : Int32} {I1 : (Nat → Nat → Int32)} {L1 : (Nat → Nat → Int64)} {r : Int32} (h : g_291 n dp (z, kd, Rf) 0 I L i1 i2 = some (r, I1, L1)) : Ct X d 291 0 0 [.ref 105, .int i1, .int i2] (z, kd, I, L, Rf) (AI (fun x τ => x = r ∧ τ = (z, kd, I1, L1, Rf))) :=
  Ct_of mu_291 (Nat.le_of_ble_eq_true rfl) ((w_291 X hS n dp d hd I L i1 i2 _ _ _) h)

/-! 293 CutFloorModel.row()I -/
set_option maxHeartbeats 4000000 in
set_option maxRecDepth 100000 in
def g_293 : Nat → Nat → EN → Nat → (Nat → Nat → Int32) → (Nat → Nat → Int64) → Int32 → Int32 → Int32 → Int32 →  Option (Int32 × (Nat → Nat → Int32) × (Nat → Nat → Int64))
  | 0, _, _, _, _, _, _, _, _, _ => none
  | n + 1, dp, e, lab, I, L, i1, i2, i3, i4 =>
    if lab = 0 then (stI (u2 I 105 0 (0 : Int32)) (fun I_2 => (stI (u2 I_2 105 7 (0 : Int32)) (fun I_12 => (if (I_2 105 7) = 0 then (if 1 ≤ dp then (g_194 n (dp - 1) e 0 I_12 L (-6 : Int32)).bind (fun ⟨x0_22, I0_22, L0_22⟩ => (some (x0_22, I0_22, L0_22))) else none) else (stI (u2 I_12 105 63 (0 : Int32)) (fun I_28 => (g_293 n dp e 1 I_28 L (I_2 105 7) (0 : Int32) (0 : Int32) 0))))))))
    else if lab = 1 then (if i1 ≤ i3 then (if 1 ≤ dp then (g_194 n (dp - 1) e 0 I L i2).bind (fun ⟨x0_209, I0_209, L0_209⟩ => (some (x0_209, I0_209, L0_209))) else none) else (if i1 ≤ (i3 + (5 : Int32)) then (g_293 n dp e 2 I L i1 i2 i3 0) else (if (16 : Int32) ≤ (I 107 6) then (g_293 n dp e 2 I L i1 i2 i3 0) else (if (1 : Int32) = 0 then (g_293 n dp e 3 I L i1 i2 i3 (1 : Int32)) else (if 0 ≤ i3 ∧ (Int32.toNatClampNeg i3) < 400 then (if 0 ≤ (i3 + (1 : Int32)) ∧ (Int32.toNatClampNeg (i3 + (1 : Int32))) < 400 then (if 0 ≤ (i3 + (2 : Int32)) ∧ (Int32.toNatClampNeg (i3 + (2 : Int32))) < 400 then (if 0 ≤ (i3 + (3 : Int32)) ∧ (Int32.toNatClampNeg (i3 + (3 : Int32))) < 400 then (if 0 ≤ (i3 + (4 : Int32)) ∧ (Int32.toNatClampNeg (i3 + (4 : Int32))) < 400 then (if 0 ≤ (i3 + (5 : Int32)) ∧ (Int32.toNatClampNeg (i3 + (5 : Int32))) < 400 then (if 1 ≤ dp then (g_289 n (dp - 1) e 0 I L (I 110 (Int32.toNatClampNeg i3)) (I 110 (Int32.toNatClampNeg (i3 + (1 : Int32)))) (I 110 (Int32.toNatClampNeg (i3 + (2 : Int32)))) (I 110 (Int32.toNatClampNeg (i3 + (3 : Int32)))) (I 110 (Int32.toNatClampNeg (i3 + (4 : Int32)))) (I 110 (Int32.toNatClampNeg (i3 + (5 : Int32))))).bind (fun ⟨x0_117, I0_117, L0_117⟩ => (if x0_117 = 0 then (g_293 n dp e 3 I0_117 L0_117 i1 i2 i3 (1 : Int32)) else (if (1 : Int32) = 0 then (stI (u2 I0_117 105 63 ((I0_117 105 63) + (1 : Int32))) (fun I_198 => (g_293 n dp e 4 I_198 L0_117 i1 i2 i3 (1 : Int32)))) else (if 0 ≤ i3 ∧ (Int32.toNatClampNeg i3) < 400 then (if 0 ≤ (i3 + (1 : Int32)) ∧ (Int32.toNatClampNeg (i3 + (1 : Int32))) < 400 then (if 0 ≤ (i3 + (2 : Int32)) ∧ (Int32.toNatClampNeg (i3 + (2 : Int32))) < 400 then (if 0 ≤ (i3 + (3 : Int32)) ∧ (Int32.toNatClampNeg (i3 + (3 : Int32))) < 400 then (if 0 ≤ (i3 + (4 : Int32)) ∧ (Int32.toNatClampNeg (i3 + (4 : Int32))) < 400 then (if 0 ≤ (i3 + (5 : Int32)) ∧ (Int32.toNatClampNeg (i3 + (5 : Int32))) < 400 then (if 1 ≤ dp then (g_290 n (dp - 1) e 0 I0_117 L0_117 (I0_117 110 (Int32.toNatClampNeg i3)) (I0_117 110 (Int32.toNatClampNeg (i3 + (1 : Int32)))) (I0_117 110 (Int32.toNatClampNeg (i3 + (2 : Int32)))) (I0_117 110 (Int32.toNatClampNeg (i3 + (3 : Int32)))) (I0_117 110 (Int32.toNatClampNeg (i3 + (4 : Int32)))) (I0_117 110 (Int32.toNatClampNeg (i3 + (5 : Int32))))).bind (fun ⟨I1_182, L1_182⟩ => (g_293 n dp e 4 I1_182 L1_182 i1 (i2 + Int32.ofInt (1)) i3 (1 : Int32))) else none) else none) else none) else none) else none) else none) else none)))) else none) else none) else none) else none) else none) else none) else none)))))
    else if lab = 2 then (if (0 : Int32) = 0 then (g_293 n dp e 3 I L i1 i2 i3 (0 : Int32)) else (if 0 ≤ i3 ∧ (Int32.toNatClampNeg i3) < 400 then (if 0 ≤ (i3 + (1 : Int32)) ∧ (Int32.toNatClampNeg (i3 + (1 : Int32))) < 400 then (if 0 ≤ (i3 + (2 : Int32)) ∧ (Int32.toNatClampNeg (i3 + (2 : Int32))) < 400 then (if 0 ≤ (i3 + (3 : Int32)) ∧ (Int32.toNatClampNeg (i3 + (3 : Int32))) < 400 then (if 0 ≤ (i3 + (4 : Int32)) ∧ (Int32.toNatClampNeg (i3 + (4 : Int32))) < 400 then (if 0 ≤ (i3 + (5 : Int32)) ∧ (Int32.toNatClampNeg (i3 + (5 : Int32))) < 400 then (if 1 ≤ dp then (g_289 n (dp - 1) e 0 I L (I 110 (Int32.toNatClampNeg i3)) (I 110 (Int32.toNatClampNeg (i3 + (1 : Int32)))) (I 110 (Int32.toNatClampNeg (i3 + (2 : Int32)))) (I 110 (Int32.toNatClampNeg (i3 + (3 : Int32)))) (I 110 (Int32.toNatClampNeg (i3 + (4 : Int32)))) (I 110 (Int32.toNatClampNeg (i3 + (5 : Int32))))).bind (fun ⟨x0_117, I0_117, L0_117⟩ => (if x0_117 = 0 then (g_293 n dp e 3 I0_117 L0_117 i1 i2 i3 (0 : Int32)) else (if (1 : Int32) = 0 then (stI (u2 I0_117 105 63 ((I0_117 105 63) + (1 : Int32))) (fun I_198 => (g_293 n dp e 4 I_198 L0_117 i1 i2 i3 (1 : Int32)))) else (if 0 ≤ i3 ∧ (Int32.toNatClampNeg i3) < 400 then (if 0 ≤ (i3 + (1 : Int32)) ∧ (Int32.toNatClampNeg (i3 + (1 : Int32))) < 400 then (if 0 ≤ (i3 + (2 : Int32)) ∧ (Int32.toNatClampNeg (i3 + (2 : Int32))) < 400 then (if 0 ≤ (i3 + (3 : Int32)) ∧ (Int32.toNatClampNeg (i3 + (3 : Int32))) < 400 then (if 0 ≤ (i3 + (4 : Int32)) ∧ (Int32.toNatClampNeg (i3 + (4 : Int32))) < 400 then (if 0 ≤ (i3 + (5 : Int32)) ∧ (Int32.toNatClampNeg (i3 + (5 : Int32))) < 400 then (if 1 ≤ dp then (g_290 n (dp - 1) e 0 I0_117 L0_117 (I0_117 110 (Int32.toNatClampNeg i3)) (I0_117 110 (Int32.toNatClampNeg (i3 + (1 : Int32)))) (I0_117 110 (Int32.toNatClampNeg (i3 + (2 : Int32)))) (I0_117 110 (Int32.toNatClampNeg (i3 + (3 : Int32)))) (I0_117 110 (Int32.toNatClampNeg (i3 + (4 : Int32)))) (I0_117 110 (Int32.toNatClampNeg (i3 + (5 : Int32))))).bind (fun ⟨I1_182, L1_182⟩ => (g_293 n dp e 4 I1_182 L1_182 i1 (i2 + Int32.ofInt (1)) i3 (1 : Int32))) else none) else none) else none) else none) else none) else none) else none)))) else none) else none) else none) else none) else none) else none) else none))
    else if lab = 3 then (if (0 : Int32) = 0 then (stI (u2 I 105 63 ((I 105 63) + (1 : Int32))) (fun I_198 => (g_293 n dp e 4 I_198 L i1 i2 i3 (0 : Int32)))) else (if 0 ≤ i3 ∧ (Int32.toNatClampNeg i3) < 400 then (if 0 ≤ (i3 + (1 : Int32)) ∧ (Int32.toNatClampNeg (i3 + (1 : Int32))) < 400 then (if 0 ≤ (i3 + (2 : Int32)) ∧ (Int32.toNatClampNeg (i3 + (2 : Int32))) < 400 then (if 0 ≤ (i3 + (3 : Int32)) ∧ (Int32.toNatClampNeg (i3 + (3 : Int32))) < 400 then (if 0 ≤ (i3 + (4 : Int32)) ∧ (Int32.toNatClampNeg (i3 + (4 : Int32))) < 400 then (if 0 ≤ (i3 + (5 : Int32)) ∧ (Int32.toNatClampNeg (i3 + (5 : Int32))) < 400 then (if 1 ≤ dp then (g_290 n (dp - 1) e 0 I L (I 110 (Int32.toNatClampNeg i3)) (I 110 (Int32.toNatClampNeg (i3 + (1 : Int32)))) (I 110 (Int32.toNatClampNeg (i3 + (2 : Int32)))) (I 110 (Int32.toNatClampNeg (i3 + (3 : Int32)))) (I 110 (Int32.toNatClampNeg (i3 + (4 : Int32)))) (I 110 (Int32.toNatClampNeg (i3 + (5 : Int32))))).bind (fun ⟨I0_182, L0_182⟩ => (g_293 n dp e 4 I0_182 L0_182 i1 (i2 + Int32.ofInt (1)) i3 (0 : Int32))) else none) else none) else none) else none) else none) else none) else none))
    else if lab = 4 then (g_293 n dp e 1 I L i1 i2 (i3 + Int32.ofInt (6)) 0)
    else none
set_option maxRecDepth 100000 in
theorem e_293_0 (n dp : Nat) (e : EN) (I : (Nat → Nat → Int32)) (L : (Nat → Nat → Int64)) (i1 : Int32) (i2 : Int32) (i3 : Int32) (i4 : Int32) : g_293 (n + 1) dp e 0 I L i1 i2 i3 i4 = (stI (u2 I 105 0 (0 : Int32)) (fun I_2 => (stI (u2 I_2 105 7 (0 : Int32)) (fun I_12 => (if (I_2 105 7) = 0 then (if 1 ≤ dp then (g_194 n (dp - 1) e 0 I_12 L (-6 : Int32)).bind (fun ⟨x0_22, I0_22, L0_22⟩ => (some (x0_22, I0_22, L0_22))) else none) else (stI (u2 I_12 105 63 (0 : Int32)) (fun I_28 => (g_293 n dp e 1 I_28 L (I_2 105 7) (0 : Int32) (0 : Int32) 0)))))))) := by rw [g_293.eq_2, if_pos (show (0 : Nat) = 0 from rfl)]
set_option maxRecDepth 100000 in
theorem e_293_1 (n dp : Nat) (e : EN) (I : (Nat → Nat → Int32)) (L : (Nat → Nat → Int64)) (i1 : Int32) (i2 : Int32) (i3 : Int32) (i4 : Int32) : g_293 (n + 1) dp e 1 I L i1 i2 i3 i4 = (if i1 ≤ i3 then (if 1 ≤ dp then (g_194 n (dp - 1) e 0 I L i2).bind (fun ⟨x0_209, I0_209, L0_209⟩ => (some (x0_209, I0_209, L0_209))) else none) else (if i1 ≤ (i3 + (5 : Int32)) then (g_293 n dp e 2 I L i1 i2 i3 0) else (if (16 : Int32) ≤ (I 107 6) then (g_293 n dp e 2 I L i1 i2 i3 0) else (if (1 : Int32) = 0 then (g_293 n dp e 3 I L i1 i2 i3 (1 : Int32)) else (if 0 ≤ i3 ∧ (Int32.toNatClampNeg i3) < 400 then (if 0 ≤ (i3 + (1 : Int32)) ∧ (Int32.toNatClampNeg (i3 + (1 : Int32))) < 400 then (if 0 ≤ (i3 + (2 : Int32)) ∧ (Int32.toNatClampNeg (i3 + (2 : Int32))) < 400 then (if 0 ≤ (i3 + (3 : Int32)) ∧ (Int32.toNatClampNeg (i3 + (3 : Int32))) < 400 then (if 0 ≤ (i3 + (4 : Int32)) ∧ (Int32.toNatClampNeg (i3 + (4 : Int32))) < 400 then (if 0 ≤ (i3 + (5 : Int32)) ∧ (Int32.toNatClampNeg (i3 + (5 : Int32))) < 400 then (if 1 ≤ dp then (g_289 n (dp - 1) e 0 I L (I 110 (Int32.toNatClampNeg i3)) (I 110 (Int32.toNatClampNeg (i3 + (1 : Int32)))) (I 110 (Int32.toNatClampNeg (i3 + (2 : Int32)))) (I 110 (Int32.toNatClampNeg (i3 + (3 : Int32)))) (I 110 (Int32.toNatClampNeg (i3 + (4 : Int32)))) (I 110 (Int32.toNatClampNeg (i3 + (5 : Int32))))).bind (fun ⟨x0_117, I0_117, L0_117⟩ => (if x0_117 = 0 then (g_293 n dp e 3 I0_117 L0_117 i1 i2 i3 (1 : Int32)) else (if (1 : Int32) = 0 then (stI (u2 I0_117 105 63 ((I0_117 105 63) + (1 : Int32))) (fun I_198 => (g_293 n dp e 4 I_198 L0_117 i1 i2 i3 (1 : Int32)))) else (if 0 ≤ i3 ∧ (Int32.toNatClampNeg i3) < 400 then (if 0 ≤ (i3 + (1 : Int32)) ∧ (Int32.toNatClampNeg (i3 + (1 : Int32))) < 400 then (if 0 ≤ (i3 + (2 : Int32)) ∧ (Int32.toNatClampNeg (i3 + (2 : Int32))) < 400 then (if 0 ≤ (i3 + (3 : Int32)) ∧ (Int32.toNatClampNeg (i3 + (3 : Int32))) < 400 then (if 0 ≤ (i3 + (4 : Int32)) ∧ (Int32.toNatClampNeg (i3 + (4 : Int32))) < 400 then (if 0 ≤ (i3 + (5 : Int32)) ∧ (Int32.toNatClampNeg (i3 + (5 : Int32))) < 400 then (if 1 ≤ dp then (g_290 n (dp - 1) e 0 I0_117 L0_117 (I0_117 110 (Int32.toNatClampNeg i3)) (I0_117 110 (Int32.toNatClampNeg (i3 + (1 : Int32)))) (I0_117 110 (Int32.toNatClampNeg (i3 + (2 : Int32)))) (I0_117 110 (Int32.toNatClampNeg (i3 + (3 : Int32)))) (I0_117 110 (Int32.toNatClampNeg (i3 + (4 : Int32)))) (I0_117 110 (Int32.toNatClampNeg (i3 + (5 : Int32))))).bind (fun ⟨I1_182, L1_182⟩ => (g_293 n dp e 4 I1_182 L1_182 i1 (i2 + Int32.ofInt (1)) i3 (1 : Int32))) else none) else none) else none) else none) else none) else none) else none)))) else none) else none) else none) else none) else none) else none) else none))))) := by rw [g_293.eq_2, if_neg (show ¬ ((1 : Nat) = 0) by decide), if_pos (show (1 : Nat) = 1 from rfl)]
set_option maxRecDepth 100000 in
theorem e_293_2 (n dp : Nat) (e : EN) (I : (Nat → Nat → Int32)) (L : (Nat → Nat → Int64)) (i1 : Int32) (i2 : Int32) (i3 : Int32) (i4 : Int32) : g_293 (n + 1) dp e 2 I L i1 i2 i3 i4 = (if (0 : Int32) = 0 then (g_293 n dp e 3 I L i1 i2 i3 (0 : Int32)) else (if 0 ≤ i3 ∧ (Int32.toNatClampNeg i3) < 400 then (if 0 ≤ (i3 + (1 : Int32)) ∧ (Int32.toNatClampNeg (i3 + (1 : Int32))) < 400 then (if 0 ≤ (i3 + (2 : Int32)) ∧ (Int32.toNatClampNeg (i3 + (2 : Int32))) < 400 then (if 0 ≤ (i3 + (3 : Int32)) ∧ (Int32.toNatClampNeg (i3 + (3 : Int32))) < 400 then (if 0 ≤ (i3 + (4 : Int32)) ∧ (Int32.toNatClampNeg (i3 + (4 : Int32))) < 400 then (if 0 ≤ (i3 + (5 : Int32)) ∧ (Int32.toNatClampNeg (i3 + (5 : Int32))) < 400 then (if 1 ≤ dp then (g_289 n (dp - 1) e 0 I L (I 110 (Int32.toNatClampNeg i3)) (I 110 (Int32.toNatClampNeg (i3 + (1 : Int32)))) (I 110 (Int32.toNatClampNeg (i3 + (2 : Int32)))) (I 110 (Int32.toNatClampNeg (i3 + (3 : Int32)))) (I 110 (Int32.toNatClampNeg (i3 + (4 : Int32)))) (I 110 (Int32.toNatClampNeg (i3 + (5 : Int32))))).bind (fun ⟨x0_117, I0_117, L0_117⟩ => (if x0_117 = 0 then (g_293 n dp e 3 I0_117 L0_117 i1 i2 i3 (0 : Int32)) else (if (1 : Int32) = 0 then (stI (u2 I0_117 105 63 ((I0_117 105 63) + (1 : Int32))) (fun I_198 => (g_293 n dp e 4 I_198 L0_117 i1 i2 i3 (1 : Int32)))) else (if 0 ≤ i3 ∧ (Int32.toNatClampNeg i3) < 400 then (if 0 ≤ (i3 + (1 : Int32)) ∧ (Int32.toNatClampNeg (i3 + (1 : Int32))) < 400 then (if 0 ≤ (i3 + (2 : Int32)) ∧ (Int32.toNatClampNeg (i3 + (2 : Int32))) < 400 then (if 0 ≤ (i3 + (3 : Int32)) ∧ (Int32.toNatClampNeg (i3 + (3 : Int32))) < 400 then (if 0 ≤ (i3 + (4 : Int32)) ∧ (Int32.toNatClampNeg (i3 + (4 : Int32))) < 400 then (if 0 ≤ (i3 + (5 : Int32)) ∧ (Int32.toNatClampNeg (i3 + (5 : Int32))) < 400 then (if 1 ≤ dp then (g_290 n (dp - 1) e 0 I0_117 L0_117 (I0_117 110 (Int32.toNatClampNeg i3)) (I0_117 110 (Int32.toNatClampNeg (i3 + (1 : Int32)))) (I0_117 110 (Int32.toNatClampNeg (i3 + (2 : Int32)))) (I0_117 110 (Int32.toNatClampNeg (i3 + (3 : Int32)))) (I0_117 110 (Int32.toNatClampNeg (i3 + (4 : Int32)))) (I0_117 110 (Int32.toNatClampNeg (i3 + (5 : Int32))))).bind (fun ⟨I1_182, L1_182⟩ => (g_293 n dp e 4 I1_182 L1_182 i1 (i2 + Int32.ofInt (1)) i3 (1 : Int32))) else none) else none) else none) else none) else none) else none) else none)))) else none) else none) else none) else none) else none) else none) else none)) := by rw [g_293.eq_2, if_neg (show ¬ ((2 : Nat) = 0) by decide), if_neg (show ¬ ((2 : Nat) = 1) by decide), if_pos (show (2 : Nat) = 2 from rfl)]
set_option maxRecDepth 100000 in
theorem e_293_3 (n dp : Nat) (e : EN) (I : (Nat → Nat → Int32)) (L : (Nat → Nat → Int64)) (i1 : Int32) (i2 : Int32) (i3 : Int32) (i4 : Int32) : g_293 (n + 1) dp e 3 I L i1 i2 i3 i4 = (if (0 : Int32) = 0 then (stI (u2 I 105 63 ((I 105 63) + (1 : Int32))) (fun I_198 => (g_293 n dp e 4 I_198 L i1 i2 i3 (0 : Int32)))) else (if 0 ≤ i3 ∧ (Int32.toNatClampNeg i3) < 400 then (if 0 ≤ (i3 + (1 : Int32)) ∧ (Int32.toNatClampNeg (i3 + (1 : Int32))) < 400 then (if 0 ≤ (i3 + (2 : Int32)) ∧ (Int32.toNatClampNeg (i3 + (2 : Int32))) < 400 then (if 0 ≤ (i3 + (3 : Int32)) ∧ (Int32.toNatClampNeg (i3 + (3 : Int32))) < 400 then (if 0 ≤ (i3 + (4 : Int32)) ∧ (Int32.toNatClampNeg (i3 + (4 : Int32))) < 400 then (if 0 ≤ (i3 + (5 : Int32)) ∧ (Int32.toNatClampNeg (i3 + (5 : Int32))) < 400 then (if 1 ≤ dp then (g_290 n (dp - 1) e 0 I L (I 110 (Int32.toNatClampNeg i3)) (I 110 (Int32.toNatClampNeg (i3 + (1 : Int32)))) (I 110 (Int32.toNatClampNeg (i3 + (2 : Int32)))) (I 110 (Int32.toNatClampNeg (i3 + (3 : Int32)))) (I 110 (Int32.toNatClampNeg (i3 + (4 : Int32)))) (I 110 (Int32.toNatClampNeg (i3 + (5 : Int32))))).bind (fun ⟨I0_182, L0_182⟩ => (g_293 n dp e 4 I0_182 L0_182 i1 (i2 + Int32.ofInt (1)) i3 (0 : Int32))) else none) else none) else none) else none) else none) else none) else none)) := by rw [g_293.eq_2, if_neg (show ¬ ((3 : Nat) = 0) by decide), if_neg (show ¬ ((3 : Nat) = 1) by decide), if_neg (show ¬ ((3 : Nat) = 2) by decide), if_pos (show (3 : Nat) = 3 from rfl)]
set_option maxRecDepth 100000 in
theorem e_293_4 (n dp : Nat) (e : EN) (I : (Nat → Nat → Int32)) (L : (Nat → Nat → Int64)) (i1 : Int32) (i2 : Int32) (i3 : Int32) (i4 : Int32) : g_293 (n + 1) dp e 4 I L i1 i2 i3 i4 = (g_293 n dp e 1 I L i1 i2 (i3 + Int32.ofInt (6)) 0) := by rw [g_293.eq_2, if_neg (show ¬ ((4 : Nat) = 0) by decide), if_neg (show ¬ ((4 : Nat) = 1) by decide), if_neg (show ¬ ((4 : Nat) = 2) by decide), if_neg (show ¬ ((4 : Nat) = 3) by decide), if_pos (show (4 : Nat) = 4 from rfl)]
set_option maxHeartbeats 8000000 in
set_option maxRecDepth 100000 in
theorem w_293 (X : GX) {z : Nat} {kd : Nat → Nat × Nat} {Rf : Nat → Nat → Option Nat} (hS : Sh z kd Rf) : ∀ (n dp d : Nat), dp ≤ d → ∀ (I : (Nat → Nat → Int32)) (L : (Nat → Nat → Int64)) (i1 : Int32) (i2 : Int32) (i3 : Int32) (i4 : Int32) (r : Int32) (I1 : (Nat → Nat → Int32)) (L1 : (Nat → Nat → Int64)), (g_293 n dp (z, kd, Rf) 0 I L i1 i2 i3 i4 = some (r, I1, L1) → K X d 293 0 0 (AI (fun x τ => x = r ∧ τ = (z, kd, I1, L1, Rf))) 0 [some (.ref 105), none, none, none, none] [] (z, kd, I, L, Rf) 0 0) ∧
    (g_293 n dp (z, kd, Rf) 1 I L i1 i2 i3 i4 = some (r, I1, L1) → K X d 293 0 0 (AI (fun x τ => x = r ∧ τ = (z, kd, I1, L1, Rf))) 35 [some (.ref 105), some (.int i1), some (.int i2), some (.int i3), none] [] (z, kd, I, L, Rf) 0 0) ∧
    (g_293 n dp (z, kd, Rf) 2 I L i1 i2 i3 i4 = some (r, I1, L1) → K X d 293 0 0 (AI (fun x τ => x = r ∧ τ = (z, kd, I1, L1, Rf))) 63 [some (.ref 105), some (.int i1), some (.int i2), some (.int i3), none] [] (z, kd, I, L, Rf) 0 0) ∧
    (g_293 n dp (z, kd, Rf) 3 I L i1 i2 i3 i4 = some (r, I1, L1) → K X d 293 0 0 (AI (fun x τ => x = r ∧ τ = (z, kd, I1, L1, Rf))) 127 [some (.ref 105), some (.int i1), some (.int i2), some (.int i3), some (.int i4)] [] (z, kd, I, L, Rf) 0 0) ∧
    (g_293 n dp (z, kd, Rf) 4 I L i1 i2 i3 i4 = some (r, I1, L1) → K X d 293 0 0 (AI (fun x τ => x = r ∧ τ = (z, kd, I1, L1, Rf))) 201 [some (.ref 105), some (.int i1), some (.int i2), some (.int i3), some (.int i4)] [] (z, kd, I, L, Rf) 0 0) := by
  intro n
  induction n with
  | zero => intro dp d hdp I L i1 i2 i3 i4 r I1 L1; exact ⟨(fun h => by cases h), (fun h => by cases h), (fun h => by cases h), (fun h => by cases h), (fun h => by cases h)⟩
  | succ n ih =>
    intro dp d hdp I L i1 i2 i3 i4 r I1 L1
    refine ⟨?_, ?_, ?_, ?_, ?_⟩
    · intro h
      rw [e_293_0] at h
      refine K_of b_293_0 h_293_0 ?_
      refine q_aload rfl ?_
      refine q_iconst (0) (by decide) ?_
      refine q_putI (c0 := 12) (j := 0) rfl rfl (zl hS 105 (by decide)) (sk hS 105 (by decide) rfl) rfl ?_
      obtain ⟨I_2, nI_2, h⟩ := stI_some h
      refine q_nI nI_2 ?_
      refine q_aload rfl ?_
      refine q_getI (c0 := 12) (j := 7) rfl rfl (zl hS 105 (by decide)) (sk hS 105 (by decide) rfl) (Or.inl rfl) (by decide) ?_
      refine q_istore (ls1 := [some (.ref 105), some (.int (I_2 105 7)), none, none, none]) (Nat.le_of_ble_eq_true rfl) rfl ?_
      refine q_aload rfl ?_
      refine q_iconst (0) (by decide) ?_
      refine q_putI (c0 := 12) (j := 7) rfl rfl (zl hS 105 (by decide)) (sk hS 105 (by decide) rfl) rfl ?_
      obtain ⟨I_12, nI_12, h⟩ := stI_some h
      refine q_nI nI_12 ?_
      refine q_iload rfl ?_
      refine q_if_ne (fun c_16 => ?_) (fun c_16 => ?_)
      · rw [if_neg c_16] at h
        refine K_of b_293_26 h_293_26 ?_
        refine q_aload rfl ?_
        refine q_iconst (0) (by decide) ?_
        refine q_putI (c0 := 12) (j := 63) rfl rfl (zl hS 105 (by decide)) (sk hS 105 (by decide) rfl) rfl ?_
        obtain ⟨I_28, nI_28, h⟩ := stI_some h
        refine q_nI nI_28 ?_
        refine q_iconst (0) (by decide) ?_
        refine q_istore (ls1 := [some (.ref 105), some (.int (I_2 105 7)), some (.int (0 : Int32)), none, none]) (Nat.le_of_ble_eq_true rfl) rfl ?_
        refine q_iconst (0) (by decide) ?_
        refine q_istore (ls1 := [some (.ref 105), some (.int (I_2 105 7)), some (.int (0 : Int32)), some (.int (0 : Int32)), none]) (Nat.le_of_ble_eq_true rfl) rfl ?_
        refine q_end ?_
        exact (ih dp d hdp _ _ (I_2 105 7) (0 : Int32) (0 : Int32) 0 _ _ _).2.1 h
      · rw [if_pos c_16] at h
        refine q_aload rfl ?_
        refine q_iconst (-6) (by decide) ?_
        obtain ⟨d_22, h⟩ := ite_some h
        obtain ⟨⟨x0_22, I0_22, L0_22⟩, e_22, h⟩ := Option.bind_eq_some_iff.mp h
        dsimp only at h
        refine q_fv2I (a_194 X hS (d := d - 1) (by omega) e_22) (by omega) (Nat.le_refl _) (Nat.le_refl _) rfl (Nat.le_of_ble_eq_true rfl) ⟨(zl hS 105 (by decide)), congrArg Prod.fst (sk hS 105 (by decide) rfl), by decide⟩ ?_
        cases h
        exact q_iret rfl (Nat.le_refl _) (Nat.le_refl _) ⟨rfl, rfl⟩
    · intro h
      rw [e_293_1] at h
      refine K_of b_293_35 h_293_35 ?_
      refine q_iload rfl ?_
      refine q_iload rfl ?_
      refine q_icmp_ge (fun c_37 => ?_) (fun c_37 => ?_)
      · rw [if_pos c_37] at h
        refine K_of b_293_207 h_293_207 ?_
        refine q_aload rfl ?_
        refine q_iload rfl ?_
        obtain ⟨d_209, h⟩ := ite_some h
        obtain ⟨⟨x0_209, I0_209, L0_209⟩, e_209, h⟩ := Option.bind_eq_some_iff.mp h
        dsimp only at h
        refine q_fv2I (a_194 X hS (d := d - 1) (by omega) e_209) (by omega) (Nat.le_refl _) (Nat.le_refl _) rfl (Nat.le_of_ble_eq_true rfl) ⟨(zl hS 105 (by decide)), congrArg Prod.fst (sk hS 105 (by decide) rfl), by decide⟩ ?_
        cases h
        exact q_iret rfl (Nat.le_refl _) (Nat.le_refl _) ⟨rfl, rfl⟩
      · rw [if_neg c_37] at h
        refine q_iload rfl ?_
        refine q_iconst (5) (by decide) ?_
        refine q_iadd ?_
        refine q_iload rfl ?_
        refine q_icmp_ge (fun c_44 => ?_) (fun c_44 => ?_)
        · rw [if_pos c_44] at h
          exact (ih dp d hdp _ _ i1 i2 i3 0 _ _ _).2.2.1 h
        · rw [if_neg c_44] at h
          refine q_aload rfl ?_
          refine q_getRs (c0 := 12) (j := 3) rfl rfl (zl hS 105 (by decide)) (sk hS 105 (by decide) rfl) rfl (by decide) (r_105_3 hS) ?_
          refine q_iconst (6) (by decide) ?_
          refine q_ialN (6) rfl (zl hS 107 (by decide)) (sk hS 107 (by decide) rfl) (by decide) (by decide) ?_
          refine q_iconst (16) (by decide) ?_
          refine q_icmp_ge (fun c_56 => ?_) (fun c_56 => ?_)
          · rw [if_pos c_56] at h
            exact (ih dp d hdp _ _ i1 i2 i3 0 _ _ _).2.2.1 h
          · rw [if_neg c_56] at h
            refine q_iconst (1) (by decide) ?_
            refine q_goto ?_
            refine K_of b_293_64 h_293_64 ?_
            refine q_istore (ls1 := [some (.ref 105), some (.int i1), some (.int i2), some (.int i3), some (.int (1 : Int32))]) (Nat.le_of_ble_eq_true rfl) rfl ?_
            refine q_iload rfl ?_
            refine q_if_eq (fun c_68 => ?_) (fun c_68 => ?_)
            · rw [if_pos c_68] at h
              exact (ih dp d hdp _ _ i1 i2 i3 (1 : Int32) _ _ _).2.2.2.1 h
            · rw [if_neg c_68] at h
              refine q_aload rfl ?_
              refine q_getRs (c0 := 12) (j := 6) rfl rfl (zl hS 105 (by decide)) (sk hS 105 (by decide) rfl) rfl (by decide) (r_105_6 hS) ?_
              refine q_iload rfl ?_
              obtain ⟨⟨u_76, v_76⟩, h⟩ := ite_some h
              refine q_ialN (Int32.toNatClampNeg i3) (nx u_76) (zl hS 110 (by decide)) (sk hS 110 (by decide) rfl) v_76 (by decide) ?_
              refine q_aload rfl ?_
              refine q_getRs (c0 := 12) (j := 6) rfl rfl (zl hS 105 (by decide)) (sk hS 105 (by decide) rfl) rfl (by decide) (r_105_6 hS) ?_
              refine q_iload rfl ?_
              refine q_iconst (1) (by decide) ?_
              refine q_iadd ?_
              obtain ⟨⟨u_84, v_84⟩, h⟩ := ite_some h
              refine q_ialN (Int32.toNatClampNeg (i3 + (1 : Int32))) (nx u_84) (zl hS 110 (by decide)) (sk hS 110 (by decide) rfl) v_84 (by decide) ?_
              refine q_aload rfl ?_
              refine q_getRs (c0 := 12) (j := 6) rfl rfl (zl hS 105 (by decide)) (sk hS 105 (by decide) rfl) rfl (by decide) (r_105_6 hS) ?_
              refine q_iload rfl ?_
              refine q_iconst (2) (by decide) ?_
              refine q_iadd ?_
              obtain ⟨⟨u_92, v_92⟩, h⟩ := ite_some h
              refine q_ialN (Int32.toNatClampNeg (i3 + (2 : Int32))) (nx u_92) (zl hS 110 (by decide)) (sk hS 110 (by decide) rfl) v_92 (by decide) ?_
              refine q_aload rfl ?_
              refine q_getRs (c0 := 12) (j := 6) rfl rfl (zl hS 105 (by decide)) (sk hS 105 (by decide) rfl) rfl (by decide) (r_105_6 hS) ?_
              refine q_iload rfl ?_
              refine q_iconst (3) (by decide) ?_
              refine q_iadd ?_
              obtain ⟨⟨u_100, v_100⟩, h⟩ := ite_some h
              refine q_ialN (Int32.toNatClampNeg (i3 + (3 : Int32))) (nx u_100) (zl hS 110 (by decide)) (sk hS 110 (by decide) rfl) v_100 (by decide) ?_
              refine q_aload rfl ?_
              refine q_getRs (c0 := 12) (j := 6) rfl rfl (zl hS 105 (by decide)) (sk hS 105 (by decide) rfl) rfl (by decide) (r_105_6 hS) ?_
              refine q_iload rfl ?_
              refine q_iconst (4) (by decide) ?_
              refine q_iadd ?_
              obtain ⟨⟨u_108, v_108⟩, h⟩ := ite_some h
              refine q_ialN (Int32.toNatClampNeg (i3 + (4 : Int32))) (nx u_108) (zl hS 110 (by decide)) (sk hS 110 (by decide) rfl) v_108 (by decide) ?_
              refine q_aload rfl ?_
              refine q_getRs (c0 := 12) (j := 6) rfl rfl (zl hS 105 (by decide)) (sk hS 105 (by decide) rfl) rfl (by decide) (r_105_6 hS) ?_
              refine q_iload rfl ?_
              refine q_iconst (5) (by decide) ?_
              refine q_iadd ?_
              obtain ⟨⟨u_116, v_116⟩, h⟩ := ite_some h
              refine q_ialN (Int32.toNatClampNeg (i3 + (5 : Int32))) (nx u_116) (zl hS 110 (by decide)) (sk hS 110 (by decide) rfl) v_116 (by decide) ?_
              obtain ⟨d_117, h⟩ := ite_some h
              obtain ⟨⟨x0_117, I0_117, L0_117⟩, e_117, h⟩ := Option.bind_eq_some_iff.mp h
              dsimp only at h
              refine q_fs6I (a_289 X hS (d := d - 1) (by omega) e_117) (by omega) (Nat.le_refl _) (Nat.le_refl _) rfl (Nat.le_of_ble_eq_true rfl) ?_
              refine q_if_eq (fun c_120 => ?_) (fun c_120 => ?_)
              · rw [if_pos c_120] at h
                exact (ih dp d hdp _ _ i1 i2 i3 (1 : Int32) _ _ _).2.2.2.1 h
              · rw [if_neg c_120] at h
                refine q_iconst (1) (by decide) ?_
                refine q_goto ?_
                refine K_of b_293_128 h_293_128 ?_
                refine q_istore (ls1 := [some (.ref 105), some (.int i1), some (.int i2), some (.int i3), some (.int (1 : Int32))]) (Nat.le_of_ble_eq_true rfl) rfl ?_
                refine q_iload rfl ?_
                refine q_if_eq (fun c_132 => ?_) (fun c_132 => ?_)
                · rw [if_pos c_132] at h
                  refine K_of b_293_191 h_293_191 ?_
                  refine q_aload rfl ?_
                  refine q_dup rfl ?_
                  refine q_getI (c0 := 12) (j := 63) rfl rfl (zl hS 105 (by decide)) (sk hS 105 (by decide) rfl) (Or.inl rfl) (by decide) ?_
                  refine q_iconst (1) (by decide) ?_
                  refine q_iadd ?_
                  refine q_putI (c0 := 12) (j := 63) rfl rfl (zl hS 105 (by decide)) (sk hS 105 (by decide) rfl) rfl ?_
                  obtain ⟨I_198, nI_198, h⟩ := stI_some h
                  refine q_nI nI_198 ?_
                  refine q_end ?_
                  exact (ih dp d hdp _ _ i1 i2 i3 (1 : Int32) _ _ _).2.2.2.2 h
                · rw [if_neg c_132] at h
                  refine q_aload rfl ?_
                  refine q_aload rfl ?_
                  refine q_getRs (c0 := 12) (j := 6) rfl rfl (zl hS 105 (by decide)) (sk hS 105 (by decide) rfl) rfl (by decide) (r_105_6 hS) ?_
                  refine q_iload rfl ?_
                  obtain ⟨⟨u_141, v_141⟩, h⟩ := ite_some h
                  refine q_ialN (Int32.toNatClampNeg i3) (nx u_141) (zl hS 110 (by decide)) (sk hS 110 (by decide) rfl) v_141 (by decide) ?_
                  refine q_aload rfl ?_
                  refine q_getRs (c0 := 12) (j := 6) rfl rfl (zl hS 105 (by decide)) (sk hS 105 (by decide) rfl) rfl (by decide) (r_105_6 hS) ?_
                  refine q_iload rfl ?_
                  refine q_iconst (1) (by decide) ?_
                  refine q_iadd ?_
                  obtain ⟨⟨u_149, v_149⟩, h⟩ := ite_some h
                  refine q_ialN (Int32.toNatClampNeg (i3 + (1 : Int32))) (nx u_149) (zl hS 110 (by decide)) (sk hS 110 (by decide) rfl) v_149 (by decide) ?_
                  refine q_aload rfl ?_
                  refine q_getRs (c0 := 12) (j := 6) rfl rfl (zl hS 105 (by decide)) (sk hS 105 (by decide) rfl) rfl (by decide) (r_105_6 hS) ?_
                  refine q_iload rfl ?_
                  refine q_iconst (2) (by decide) ?_
                  refine q_iadd ?_
                  obtain ⟨⟨u_157, v_157⟩, h⟩ := ite_some h
                  refine q_ialN (Int32.toNatClampNeg (i3 + (2 : Int32))) (nx u_157) (zl hS 110 (by decide)) (sk hS 110 (by decide) rfl) v_157 (by decide) ?_
                  refine q_aload rfl ?_
                  refine q_getRs (c0 := 12) (j := 6) rfl rfl (zl hS 105 (by decide)) (sk hS 105 (by decide) rfl) rfl (by decide) (r_105_6 hS) ?_
                  refine q_iload rfl ?_
                  refine q_iconst (3) (by decide) ?_
                  refine q_iadd ?_
                  obtain ⟨⟨u_165, v_165⟩, h⟩ := ite_some h
                  refine q_ialN (Int32.toNatClampNeg (i3 + (3 : Int32))) (nx u_165) (zl hS 110 (by decide)) (sk hS 110 (by decide) rfl) v_165 (by decide) ?_
                  refine q_aload rfl ?_
                  refine q_getRs (c0 := 12) (j := 6) rfl rfl (zl hS 105 (by decide)) (sk hS 105 (by decide) rfl) rfl (by decide) (r_105_6 hS) ?_
                  refine q_iload rfl ?_
                  refine q_iconst (4) (by decide) ?_
                  refine q_iadd ?_
                  obtain ⟨⟨u_173, v_173⟩, h⟩ := ite_some h
                  refine q_ialN (Int32.toNatClampNeg (i3 + (4 : Int32))) (nx u_173) (zl hS 110 (by decide)) (sk hS 110 (by decide) rfl) v_173 (by decide) ?_
                  refine q_aload rfl ?_
                  refine q_getRs (c0 := 12) (j := 6) rfl rfl (zl hS 105 (by decide)) (sk hS 105 (by decide) rfl) rfl (by decide) (r_105_6 hS) ?_
                  refine q_iload rfl ?_
                  refine q_iconst (5) (by decide) ?_
                  refine q_iadd ?_
                  obtain ⟨⟨u_181, v_181⟩, h⟩ := ite_some h
                  refine q_ialN (Int32.toNatClampNeg (i3 + (5 : Int32))) (nx u_181) (zl hS 110 (by decide)) (sk hS 110 (by decide) rfl) v_181 (by decide) ?_
                  obtain ⟨d_182, h⟩ := ite_some h
                  obtain ⟨⟨I1_182, L1_182⟩, e_182, h⟩ := Option.bind_eq_some_iff.mp h
                  dsimp only at h
                  refine q_fv7V (a_290 X hS (d := d - 1) (by omega) e_182) (by omega) (Nat.le_refl _) (Nat.le_refl _) rfl (Nat.le_of_ble_eq_true rfl) ⟨(zl hS 105 (by decide)), congrArg Prod.fst (sk hS 105 (by decide) rfl), by decide⟩ ?_
                  refine q_iinc (ls1 := [some (.ref 105), some (.int i1), some (.int (i2 + Int32.ofInt (1))), some (.int i3), some (.int (1 : Int32))]) rfl rfl ?_
                  refine q_goto ?_
                  exact (ih dp d hdp _ _ i1 (i2 + Int32.ofInt (1)) i3 (1 : Int32) _ _ _).2.2.2.2 h
    · intro h
      rw [e_293_2] at h
      refine K_of b_293_63 h_293_63 ?_
      refine q_iconst (0) (by decide) ?_
      refine q_end ?_
      refine K_of b_293_64 h_293_64 ?_
      refine q_istore (ls1 := [some (.ref 105), some (.int i1), some (.int i2), some (.int i3), some (.int (0 : Int32))]) (Nat.le_of_ble_eq_true rfl) rfl ?_
      refine q_iload rfl ?_
      refine q_if_eq (fun c_68 => ?_) (fun c_68 => ?_)
      · rw [if_pos c_68] at h
        exact (ih dp d hdp _ _ i1 i2 i3 (0 : Int32) _ _ _).2.2.2.1 h
      · rw [if_neg c_68] at h
        refine q_aload rfl ?_
        refine q_getRs (c0 := 12) (j := 6) rfl rfl (zl hS 105 (by decide)) (sk hS 105 (by decide) rfl) rfl (by decide) (r_105_6 hS) ?_
        refine q_iload rfl ?_
        obtain ⟨⟨u_76, v_76⟩, h⟩ := ite_some h
        refine q_ialN (Int32.toNatClampNeg i3) (nx u_76) (zl hS 110 (by decide)) (sk hS 110 (by decide) rfl) v_76 (by decide) ?_
        refine q_aload rfl ?_
        refine q_getRs (c0 := 12) (j := 6) rfl rfl (zl hS 105 (by decide)) (sk hS 105 (by decide) rfl) rfl (by decide) (r_105_6 hS) ?_
        refine q_iload rfl ?_
        refine q_iconst (1) (by decide) ?_
        refine q_iadd ?_
        obtain ⟨⟨u_84, v_84⟩, h⟩ := ite_some h
        refine q_ialN (Int32.toNatClampNeg (i3 + (1 : Int32))) (nx u_84) (zl hS 110 (by decide)) (sk hS 110 (by decide) rfl) v_84 (by decide) ?_
        refine q_aload rfl ?_
        refine q_getRs (c0 := 12) (j := 6) rfl rfl (zl hS 105 (by decide)) (sk hS 105 (by decide) rfl) rfl (by decide) (r_105_6 hS) ?_
        refine q_iload rfl ?_
        refine q_iconst (2) (by decide) ?_
        refine q_iadd ?_
        obtain ⟨⟨u_92, v_92⟩, h⟩ := ite_some h
        refine q_ialN (Int32.toNatClampNeg (i3 + (2 : Int32))) (nx u_92) (zl hS 110 (by decide)) (sk hS 110 (by decide) rfl) v_92 (by decide) ?_
        refine q_aload rfl ?_
        refine q_getRs (c0 := 12) (j := 6) rfl rfl (zl hS 105 (by decide)) (sk hS 105 (by decide) rfl) rfl (by decide) (r_105_6 hS) ?_
        refine q_iload rfl ?_
        refine q_iconst (3) (by decide) ?_
        refine q_iadd ?_
        obtain ⟨⟨u_100, v_100⟩, h⟩ := ite_some h
        refine q_ialN (Int32.toNatClampNeg (i3 + (3 : Int32))) (nx u_100) (zl hS 110 (by decide)) (sk hS 110 (by decide) rfl) v_100 (by decide) ?_
        refine q_aload rfl ?_
        refine q_getRs (c0 := 12) (j := 6) rfl rfl (zl hS 105 (by decide)) (sk hS 105 (by decide) rfl) rfl (by decide) (r_105_6 hS) ?_
        refine q_iload rfl ?_
        refine q_iconst (4) (by decide) ?_
        refine q_iadd ?_
        obtain ⟨⟨u_108, v_108⟩, h⟩ := ite_some h
        refine q_ialN (Int32.toNatClampNeg (i3 + (4 : Int32))) (nx u_108) (zl hS 110 (by decide)) (sk hS 110 (by decide) rfl) v_108 (by decide) ?_
        refine q_aload rfl ?_
        refine q_getRs (c0 := 12) (j := 6) rfl rfl (zl hS 105 (by decide)) (sk hS 105 (by decide) rfl) rfl (by decide) (r_105_6 hS) ?_
        refine q_iload rfl ?_
        refine q_iconst (5) (by decide) ?_
        refine q_iadd ?_
        obtain ⟨⟨u_116, v_116⟩, h⟩ := ite_some h
        refine q_ialN (Int32.toNatClampNeg (i3 + (5 : Int32))) (nx u_116) (zl hS 110 (by decide)) (sk hS 110 (by decide) rfl) v_116 (by decide) ?_
        obtain ⟨d_117, h⟩ := ite_some h
        obtain ⟨⟨x0_117, I0_117, L0_117⟩, e_117, h⟩ := Option.bind_eq_some_iff.mp h
        dsimp only at h
        refine q_fs6I (a_289 X hS (d := d - 1) (by omega) e_117) (by omega) (Nat.le_refl _) (Nat.le_refl _) rfl (Nat.le_of_ble_eq_true rfl) ?_
        refine q_if_eq (fun c_120 => ?_) (fun c_120 => ?_)
        · rw [if_pos c_120] at h
          exact (ih dp d hdp _ _ i1 i2 i3 (0 : Int32) _ _ _).2.2.2.1 h
        · rw [if_neg c_120] at h
          refine q_iconst (1) (by decide) ?_
          refine q_goto ?_
          refine K_of b_293_128 h_293_128 ?_
          refine q_istore (ls1 := [some (.ref 105), some (.int i1), some (.int i2), some (.int i3), some (.int (1 : Int32))]) (Nat.le_of_ble_eq_true rfl) rfl ?_
          refine q_iload rfl ?_
          refine q_if_eq (fun c_132 => ?_) (fun c_132 => ?_)
          · rw [if_pos c_132] at h
            refine K_of b_293_191 h_293_191 ?_
            refine q_aload rfl ?_
            refine q_dup rfl ?_
            refine q_getI (c0 := 12) (j := 63) rfl rfl (zl hS 105 (by decide)) (sk hS 105 (by decide) rfl) (Or.inl rfl) (by decide) ?_
            refine q_iconst (1) (by decide) ?_
            refine q_iadd ?_
            refine q_putI (c0 := 12) (j := 63) rfl rfl (zl hS 105 (by decide)) (sk hS 105 (by decide) rfl) rfl ?_
            obtain ⟨I_198, nI_198, h⟩ := stI_some h
            refine q_nI nI_198 ?_
            refine q_end ?_
            exact (ih dp d hdp _ _ i1 i2 i3 (1 : Int32) _ _ _).2.2.2.2 h
          · rw [if_neg c_132] at h
            refine q_aload rfl ?_
            refine q_aload rfl ?_
            refine q_getRs (c0 := 12) (j := 6) rfl rfl (zl hS 105 (by decide)) (sk hS 105 (by decide) rfl) rfl (by decide) (r_105_6 hS) ?_
            refine q_iload rfl ?_
            obtain ⟨⟨u_141, v_141⟩, h⟩ := ite_some h
            refine q_ialN (Int32.toNatClampNeg i3) (nx u_141) (zl hS 110 (by decide)) (sk hS 110 (by decide) rfl) v_141 (by decide) ?_
            refine q_aload rfl ?_
            refine q_getRs (c0 := 12) (j := 6) rfl rfl (zl hS 105 (by decide)) (sk hS 105 (by decide) rfl) rfl (by decide) (r_105_6 hS) ?_
            refine q_iload rfl ?_
            refine q_iconst (1) (by decide) ?_
            refine q_iadd ?_
            obtain ⟨⟨u_149, v_149⟩, h⟩ := ite_some h
            refine q_ialN (Int32.toNatClampNeg (i3 + (1 : Int32))) (nx u_149) (zl hS 110 (by decide)) (sk hS 110 (by decide) rfl) v_149 (by decide) ?_
            refine q_aload rfl ?_
            refine q_getRs (c0 := 12) (j := 6) rfl rfl (zl hS 105 (by decide)) (sk hS 105 (by decide) rfl) rfl (by decide) (r_105_6 hS) ?_
            refine q_iload rfl ?_
            refine q_iconst (2) (by decide) ?_
            refine q_iadd ?_
            obtain ⟨⟨u_157, v_157⟩, h⟩ := ite_some h
            refine q_ialN (Int32.toNatClampNeg (i3 + (2 : Int32))) (nx u_157) (zl hS 110 (by decide)) (sk hS 110 (by decide) rfl) v_157 (by decide) ?_
            refine q_aload rfl ?_
            refine q_getRs (c0 := 12) (j := 6) rfl rfl (zl hS 105 (by decide)) (sk hS 105 (by decide) rfl) rfl (by decide) (r_105_6 hS) ?_
            refine q_iload rfl ?_
            refine q_iconst (3) (by decide) ?_
            refine q_iadd ?_
            obtain ⟨⟨u_165, v_165⟩, h⟩ := ite_some h
            refine q_ialN (Int32.toNatClampNeg (i3 + (3 : Int32))) (nx u_165) (zl hS 110 (by decide)) (sk hS 110 (by decide) rfl) v_165 (by decide) ?_
            refine q_aload rfl ?_
            refine q_getRs (c0 := 12) (j := 6) rfl rfl (zl hS 105 (by decide)) (sk hS 105 (by decide) rfl) rfl (by decide) (r_105_6 hS) ?_
            refine q_iload rfl ?_
            refine q_iconst (4) (by decide) ?_
            refine q_iadd ?_
            obtain ⟨⟨u_173, v_173⟩, h⟩ := ite_some h
            refine q_ialN (Int32.toNatClampNeg (i3 + (4 : Int32))) (nx u_173) (zl hS 110 (by decide)) (sk hS 110 (by decide) rfl) v_173 (by decide) ?_
            refine q_aload rfl ?_
            refine q_getRs (c0 := 12) (j := 6) rfl rfl (zl hS 105 (by decide)) (sk hS 105 (by decide) rfl) rfl (by decide) (r_105_6 hS) ?_
            refine q_iload rfl ?_
            refine q_iconst (5) (by decide) ?_
            refine q_iadd ?_
            obtain ⟨⟨u_181, v_181⟩, h⟩ := ite_some h
            refine q_ialN (Int32.toNatClampNeg (i3 + (5 : Int32))) (nx u_181) (zl hS 110 (by decide)) (sk hS 110 (by decide) rfl) v_181 (by decide) ?_
            obtain ⟨d_182, h⟩ := ite_some h
            obtain ⟨⟨I1_182, L1_182⟩, e_182, h⟩ := Option.bind_eq_some_iff.mp h
            dsimp only at h
            refine q_fv7V (a_290 X hS (d := d - 1) (by omega) e_182) (by omega) (Nat.le_refl _) (Nat.le_refl _) rfl (Nat.le_of_ble_eq_true rfl) ⟨(zl hS 105 (by decide)), congrArg Prod.fst (sk hS 105 (by decide) rfl), by decide⟩ ?_
            refine q_iinc (ls1 := [some (.ref 105), some (.int i1), some (.int (i2 + Int32.ofInt (1))), some (.int i3), some (.int (1 : Int32))]) rfl rfl ?_
            refine q_goto ?_
            exact (ih dp d hdp _ _ i1 (i2 + Int32.ofInt (1)) i3 (1 : Int32) _ _ _).2.2.2.2 h
    · intro h
      rw [e_293_3] at h
      refine K_of b_293_127 h_293_127 ?_
      refine q_iconst (0) (by decide) ?_
      refine q_end ?_
      refine K_of b_293_128 h_293_128 ?_
      refine q_istore (ls1 := [some (.ref 105), some (.int i1), some (.int i2), some (.int i3), some (.int (0 : Int32))]) (Nat.le_of_ble_eq_true rfl) rfl ?_
      refine q_iload rfl ?_
      refine q_if_eq (fun c_132 => ?_) (fun c_132 => ?_)
      · rw [if_pos c_132] at h
        refine K_of b_293_191 h_293_191 ?_
        refine q_aload rfl ?_
        refine q_dup rfl ?_
        refine q_getI (c0 := 12) (j := 63) rfl rfl (zl hS 105 (by decide)) (sk hS 105 (by decide) rfl) (Or.inl rfl) (by decide) ?_
        refine q_iconst (1) (by decide) ?_
        refine q_iadd ?_
        refine q_putI (c0 := 12) (j := 63) rfl rfl (zl hS 105 (by decide)) (sk hS 105 (by decide) rfl) rfl ?_
        obtain ⟨I_198, nI_198, h⟩ := stI_some h
        refine q_nI nI_198 ?_
        refine q_end ?_
        exact (ih dp d hdp _ _ i1 i2 i3 (0 : Int32) _ _ _).2.2.2.2 h
      · rw [if_neg c_132] at h
        refine q_aload rfl ?_
        refine q_aload rfl ?_
        refine q_getRs (c0 := 12) (j := 6) rfl rfl (zl hS 105 (by decide)) (sk hS 105 (by decide) rfl) rfl (by decide) (r_105_6 hS) ?_
        refine q_iload rfl ?_
        obtain ⟨⟨u_141, v_141⟩, h⟩ := ite_some h
        refine q_ialN (Int32.toNatClampNeg i3) (nx u_141) (zl hS 110 (by decide)) (sk hS 110 (by decide) rfl) v_141 (by decide) ?_
        refine q_aload rfl ?_
        refine q_getRs (c0 := 12) (j := 6) rfl rfl (zl hS 105 (by decide)) (sk hS 105 (by decide) rfl) rfl (by decide) (r_105_6 hS) ?_
        refine q_iload rfl ?_
        refine q_iconst (1) (by decide) ?_
        refine q_iadd ?_
        obtain ⟨⟨u_149, v_149⟩, h⟩ := ite_some h
        refine q_ialN (Int32.toNatClampNeg (i3 + (1 : Int32))) (nx u_149) (zl hS 110 (by decide)) (sk hS 110 (by decide) rfl) v_149 (by decide) ?_
        refine q_aload rfl ?_
        refine q_getRs (c0 := 12) (j := 6) rfl rfl (zl hS 105 (by decide)) (sk hS 105 (by decide) rfl) rfl (by decide) (r_105_6 hS) ?_
        refine q_iload rfl ?_
        refine q_iconst (2) (by decide) ?_
        refine q_iadd ?_
        obtain ⟨⟨u_157, v_157⟩, h⟩ := ite_some h
        refine q_ialN (Int32.toNatClampNeg (i3 + (2 : Int32))) (nx u_157) (zl hS 110 (by decide)) (sk hS 110 (by decide) rfl) v_157 (by decide) ?_
        refine q_aload rfl ?_
        refine q_getRs (c0 := 12) (j := 6) rfl rfl (zl hS 105 (by decide)) (sk hS 105 (by decide) rfl) rfl (by decide) (r_105_6 hS) ?_
        refine q_iload rfl ?_
        refine q_iconst (3) (by decide) ?_
        refine q_iadd ?_
        obtain ⟨⟨u_165, v_165⟩, h⟩ := ite_some h
        refine q_ialN (Int32.toNatClampNeg (i3 + (3 : Int32))) (nx u_165) (zl hS 110 (by decide)) (sk hS 110 (by decide) rfl) v_165 (by decide) ?_
        refine q_aload rfl ?_
        refine q_getRs (c0 := 12) (j := 6) rfl rfl (zl hS 105 (by decide)) (sk hS 105 (by decide) rfl) rfl (by decide) (r_105_6 hS) ?_
        refine q_iload rfl ?_
        refine q_iconst (4) (by decide) ?_
        refine q_iadd ?_
        obtain ⟨⟨u_173, v_173⟩, h⟩ := ite_some h
        refine q_ialN (Int32.toNatClampNeg (i3 + (4 : Int32))) (nx u_173) (zl hS 110 (by decide)) (sk hS 110 (by decide) rfl) v_173 (by decide) ?_
        refine q_aload rfl ?_
        refine q_getRs (c0 := 12) (j := 6) rfl rfl (zl hS 105 (by decide)) (sk hS 105 (by decide) rfl) rfl (by decide) (r_105_6 hS) ?_
        refine q_iload rfl ?_
        refine q_iconst (5) (by decide) ?_
        refine q_iadd ?_
        obtain ⟨⟨u_181, v_181⟩, h⟩ := ite_some h
        refine q_ialN (Int32.toNatClampNeg (i3 + (5 : Int32))) (nx u_181) (zl hS 110 (by decide)) (sk hS 110 (by decide) rfl) v_181 (by decide) ?_
        obtain ⟨d_182, h⟩ := ite_some h
        obtain ⟨⟨I0_182, L0_182⟩, e_182, h⟩ := Option.bind_eq_some_iff.mp h
        dsimp only at h
        refine q_fv7V (a_290 X hS (d := d - 1) (by omega) e_182) (by omega) (Nat.le_refl _) (Nat.le_refl _) rfl (Nat.le_of_ble_eq_true rfl) ⟨(zl hS 105 (by decide)), congrArg Prod.fst (sk hS 105 (by decide) rfl), by decide⟩ ?_
        refine q_iinc (ls1 := [some (.ref 105), some (.int i1), some (.int (i2 + Int32.ofInt (1))), some (.int i3), some (.int (0 : Int32))]) rfl rfl ?_
        refine q_goto ?_
        exact (ih dp d hdp _ _ i1 (i2 + Int32.ofInt (1)) i3 (0 : Int32) _ _ _).2.2.2.2 h
    · intro h
      rw [e_293_4] at h
      refine K_of b_293_201 h_293_201 ?_
      refine q_iinc (ls1 := [some (.ref 105), some (.int i1), some (.int i2), some (.int (i3 + Int32.ofInt (6))), some (.int i4)]) rfl rfl ?_
      refine q_goto ?_
      refine K_mask [true, true, true, true, false] (Nat.le_of_ble_eq_true rfl) ?_
      exact (ih dp d hdp _ _ i1 i2 (i3 + Int32.ofInt (6)) 0 _ _ _).2.1 h
theorem a_293 (X : GX) {z : Nat} {kd : Nat → Nat × Nat} {Rf : Nat → Nat → Option Nat} (hS : Sh z kd Rf) {n dp d : Nat} (hd : dp ≤ d) {I : (Nat → Nat → Int32)} {L : (Nat → Nat → Int64)} {I1 : (Nat → Nat → Int32)} {L1 : (Nat → Nat → Int64)} {r : Int32} (h : g_293 n dp (z, kd, Rf) 0 I L 0 0 0 0 = some (r, I1, L1)) : Ct X d 293 0 0 [.ref 105] (z, kd, I, L, Rf) (AI (fun x τ => x = r ∧ τ = (z, kd, I1, L1, Rf))) :=
  Ct_of mu_293 (Nat.le_of_ble_eq_true rfl) ((w_293 X hS n dp d hd I L 0 0 0 0 _ _ _).1 h)

/-! 294 CutFloorModel.spoilt()I -/
set_option maxHeartbeats 4000000 in
set_option maxRecDepth 100000 in
def g_294 : Nat → Nat → EN → Nat → (Nat → Nat → Int32) → (Nat → Nat → Int64) →  Option (Int32 × (Nat → Nat → Int32) × (Nat → Nat → Int64))
  | 0, _, _, _, _, _ => none
  | n + 1, dp, e, lab, I, L =>
    if lab = 0 then (stI (u2 I 105 0 (0 : Int32)) (fun I_2 => (some ((I_2 105 63), I_2, L))))
    else none
set_option maxRecDepth 100000 in
theorem e_294_0 (n dp : Nat) (e : EN) (I : (Nat → Nat → Int32)) (L : (Nat → Nat → Int64)) : g_294 (n + 1) dp e 0 I L = (stI (u2 I 105 0 (0 : Int32)) (fun I_2 => (some ((I_2 105 63), I_2, L)))) := by rw [g_294.eq_2, if_pos (show (0 : Nat) = 0 from rfl)]
set_option maxHeartbeats 8000000 in
set_option maxRecDepth 100000 in
theorem w_294 (X : GX) {z : Nat} {kd : Nat → Nat × Nat} {Rf : Nat → Nat → Option Nat} (hS : Sh z kd Rf) : ∀ (n dp d : Nat), dp ≤ d → ∀ (I : (Nat → Nat → Int32)) (L : (Nat → Nat → Int64)) (r : Int32) (I1 : (Nat → Nat → Int32)) (L1 : (Nat → Nat → Int64)), (g_294 n dp (z, kd, Rf) 0 I L = some (r, I1, L1) → K X d 294 0 0 (AI (fun x τ => x = r ∧ τ = (z, kd, I1, L1, Rf))) 0 [some (.ref 105)] [] (z, kd, I, L, Rf) 0 0) := by
  intro n
  induction n with
  | zero => intro dp d hdp I L r I1 L1; exact fun h => by cases h
  | succ n ih =>
    intro dp d hdp I L r I1 L1
    · intro h
      rw [e_294_0] at h
      refine K_of b_294_0 h_294_0 ?_
      refine q_aload rfl ?_
      refine q_iconst (0) (by decide) ?_
      refine q_putI (c0 := 12) (j := 0) rfl rfl (zl hS 105 (by decide)) (sk hS 105 (by decide) rfl) rfl ?_
      obtain ⟨I_2, nI_2, h⟩ := stI_some h
      refine q_nI nI_2 ?_
      refine q_aload rfl ?_
      refine q_getI (c0 := 12) (j := 63) rfl rfl (zl hS 105 (by decide)) (sk hS 105 (by decide) rfl) (Or.inl rfl) (by decide) ?_
      cases h
      exact q_iret rfl (Nat.le_refl _) (Nat.le_refl _) ⟨rfl, rfl⟩
theorem a_294 (X : GX) {z : Nat} {kd : Nat → Nat × Nat} {Rf : Nat → Nat → Option Nat} (hS : Sh z kd Rf) {n dp d : Nat} (hd : dp ≤ d) {I : (Nat → Nat → Int32)} {L : (Nat → Nat → Int64)} {I1 : (Nat → Nat → Int32)} {L1 : (Nat → Nat → Int64)} {r : Int32} (h : g_294 n dp (z, kd, Rf) 0 I L = some (r, I1, L1)) : Ct X d 294 0 0 [.ref 105] (z, kd, I, L, Rf) (AI (fun x τ => x = r ∧ τ = (z, kd, I1, L1, Rf))) :=
  Ct_of mu_294 (Nat.le_of_ble_eq_true rfl) ((w_294 X hS n dp d hd I L _ _ _) h)

/-! 295 CutFloorModel.mix(IIII)I -/
set_option maxHeartbeats 4000000 in
set_option maxRecDepth 100000 in
def g_295 : Nat → Nat → EN → Nat → (Nat → Nat → Int32) → (Nat → Nat → Int64) → Int32 → Int32 → Int32 → Int32 → Int32 → Int32 → Int32 → Int32 → Int32 → Int32 → Int32 → Int32 →  Option (Int32 × (Nat → Nat → Int32) × (Nat → Nat → Int64))
  | 0, _, _, _, _, _, _, _, _, _, _, _, _, _, _, _, _, _ => none
  | n + 1, dp, e, lab, I, L, i1, i2, i3, i4, i5, i6, i7, i8, i9, i10, i11, i12 =>
    if lab = 0 then (stI (u2 I 105 0 (0 : Int32)) (fun I_2 => (if 1 ≤ dp then (g_193 n (dp - 1) e 0 I_2 L (Int32.toInt64 i1) (1 : Int64) (1584 : Int64)).bind (fun ⟨x0_11, I0_11, L0_11⟩ => (if x0_11 = 0 then (some ((-1 : Int32), I0_11, L0_11)) else (if 1 ≤ dp then (g_193 n (dp - 1) e 0 I0_11 L0_11 (Int32.toInt64 i2) (1 : Int64) (1584 : Int64)).bind (fun ⟨x1_23, I1_23, L1_23⟩ => (if x1_23 = 0 then (some ((-1 : Int32), I1_23, L1_23)) else (if 1 ≤ dp then (g_193 n (dp - 1) e 0 I1_23 L1_23 (Int32.toInt64 i3) (0 : Int64) (100 : Int64)).bind (fun ⟨x2_35, I2_35, L2_35⟩ => (if x2_35 = 0 then (some ((-1 : Int32), I2_35, L2_35)) else (if 1 ≤ dp then (g_193 n (dp - 1) e 0 I2_35 L2_35 (Int32.toInt64 i4) (0 : Int64) (2 : Int64)).bind (fun ⟨x3_48, I3_48, L3_48⟩ => (if x3_48 = 0 then (some ((-1 : Int32), I3_48, L3_48)) else (g_295 n dp e 1 I3_48 L3_48 i1 i2 i3 i4 (0 : Int32) (1000000000 : Int32) (-1 : Int32) (0 : Int32) (0 : Int32) 0 0 0))) else none))) else none))) else none))) else none)))
    else if lab = 1 then (if (I 107 6) ≤ i9 then (g_295 n dp e 2 I L i1 i2 i3 i4 i5 i6 i7 i8 (1 : Int32) 0 0 0) else (if 1 ≤ dp then (g_292 n (dp - 1) e 0 I L i9 (6 : Int32)).bind (fun ⟨x0_92, I0_92, L0_92⟩ => (if x0_92 = (1 : Int32) then (stI (i8 ||| ((1 : Int32) <<< (i9 &&& 31))) (fun v_108 => (g_295 n dp e 1 I0_92 L0_92 i1 i2 i3 i4 i5 i6 i7 v_108 (i9 + Int32.ofInt (1)) 0 0 0))) else (g_295 n dp e 1 I0_92 L0_92 i1 i2 i3 i4 i5 i6 i7 (i8 ||| (0 : Int32)) (i9 + Int32.ofInt (1)) 0 0 0))) else none))
    else if lab = 2 then (if ((1 : Int32) <<< ((I 107 6) &&& 31)) ≤ i9 then (if i4 = (2 : Int32) then (some (i5, I, L)) else (if i7 = (-1 : Int32) then (some ((-1 : Int32), I, L)) else (if i4 = 0 then (some (i6, I, L)) else (some (i7, I, L))))) else (if (i9 &&& (i8 ^^^ (-1 : Int32))) = 0 then (g_295 n dp e 3 I L i1 i2 i3 i4 i5 i6 i7 i8 i9 (0 : Int32) (0 : Int32) (0 : Int32)) else (g_295 n dp e 5 I L i1 i2 i3 i4 i5 i6 i7 i8 i9 0 0 0)))
    else if lab = 3 then (if (I 107 6) ≤ i12 then (if 1 ≤ dp then (g_193 n (dp - 1) e 0 I L (Int32.toInt64 i10) (Int32.toInt64 i1) (Int32.toInt64 i2)).bind (fun ⟨x0_219, I0_219, L0_219⟩ => (if x0_219 = 0 then (g_295 n dp e 5 I0_219 L0_219 i1 i2 i3 i4 i5 i6 i7 i8 i9 0 0 0) else (if i11 < (i3 * i10) then (g_295 n dp e 5 I0_219 L0_219 i1 i2 i3 i4 i5 i6 i7 i8 i9 0 0 0) else (if i6 ≤ (i11 - (i3 * i10)) then (if i6 ≤ (i11 - (i3 * i10)) then (g_295 n dp e 5 I0_219 L0_219 i1 i2 i3 i4 (i5 + Int32.ofInt (1)) i6 i7 i8 i9 0 0 0) else (g_295 n dp e 5 I0_219 L0_219 i1 i2 i3 i4 (i5 + Int32.ofInt (1)) (i11 - (i3 * i10)) i7 i8 i9 0 0 0)) else (if i6 ≤ (i11 - (i3 * i10)) then (g_295 n dp e 5 I0_219 L0_219 i1 i2 i3 i4 (i5 + Int32.ofInt (1)) i6 i9 i8 i9 0 0 0) else (g_295 n dp e 5 I0_219 L0_219 i1 i2 i3 i4 (i5 + Int32.ofInt (1)) (i11 - (i3 * i10)) i9 i8 i9 0 0 0)))))) else none) else (if 1 ≤ dp then (g_287 n (dp - 1) e 0 I L i9 i12).bind (fun ⟨x0_168, I0_168, L0_168⟩ => (if x0_168 = 0 then (g_295 n dp e 4 I0_168 L0_168 i1 i2 i3 i4 i5 i6 i7 i8 i9 i10 i11 i12) else (if 1 ≤ dp then (g_292 n (dp - 1) e 0 I0_168 L0_168 i12 (0 : Int32)).bind (fun ⟨x1_180, I1_180, L1_180⟩ => (if 1 ≤ dp then (g_292 n (dp - 1) e 0 I1_180 L1_180 i12 (0 : Int32)).bind (fun ⟨x2_192, I2_192, L2_192⟩ => (if 1 ≤ dp then (g_292 n (dp - 1) e 0 I2_192 L2_192 i12 (1 : Int32)).bind (fun ⟨x3_199, I3_199, L3_199⟩ => (stI (i11 + (x2_192 * x3_199)) (fun v_204 => (g_295 n dp e 4 I3_199 L3_199 i1 i2 i3 i4 i5 i6 i7 i8 i9 (i10 + x1_180) v_204 i12)))) else none)) else none)) else none))) else none))
    else if lab = 4 then (g_295 n dp e 3 I L i1 i2 i3 i4 i5 i6 i7 i8 i9 i10 i11 (i12 + Int32.ofInt (1)))
    else if lab = 5 then (g_295 n dp e 2 I L i1 i2 i3 i4 i5 i6 i7 i8 (i9 + Int32.ofInt (1)) 0 0 0)
    else none
set_option maxRecDepth 100000 in
theorem e_295_0 (n dp : Nat) (e : EN) (I : (Nat → Nat → Int32)) (L : (Nat → Nat → Int64)) (i1 : Int32) (i2 : Int32) (i3 : Int32) (i4 : Int32) (i5 : Int32) (i6 : Int32) (i7 : Int32) (i8 : Int32) (i9 : Int32) (i10 : Int32) (i11 : Int32) (i12 : Int32) : g_295 (n + 1) dp e 0 I L i1 i2 i3 i4 i5 i6 i7 i8 i9 i10 i11 i12 = (stI (u2 I 105 0 (0 : Int32)) (fun I_2 => (if 1 ≤ dp then (g_193 n (dp - 1) e 0 I_2 L (Int32.toInt64 i1) (1 : Int64) (1584 : Int64)).bind (fun ⟨x0_11, I0_11, L0_11⟩ => (if x0_11 = 0 then (some ((-1 : Int32), I0_11, L0_11)) else (if 1 ≤ dp then (g_193 n (dp - 1) e 0 I0_11 L0_11 (Int32.toInt64 i2) (1 : Int64) (1584 : Int64)).bind (fun ⟨x1_23, I1_23, L1_23⟩ => (if x1_23 = 0 then (some ((-1 : Int32), I1_23, L1_23)) else (if 1 ≤ dp then (g_193 n (dp - 1) e 0 I1_23 L1_23 (Int32.toInt64 i3) (0 : Int64) (100 : Int64)).bind (fun ⟨x2_35, I2_35, L2_35⟩ => (if x2_35 = 0 then (some ((-1 : Int32), I2_35, L2_35)) else (if 1 ≤ dp then (g_193 n (dp - 1) e 0 I2_35 L2_35 (Int32.toInt64 i4) (0 : Int64) (2 : Int64)).bind (fun ⟨x3_48, I3_48, L3_48⟩ => (if x3_48 = 0 then (some ((-1 : Int32), I3_48, L3_48)) else (g_295 n dp e 1 I3_48 L3_48 i1 i2 i3 i4 (0 : Int32) (1000000000 : Int32) (-1 : Int32) (0 : Int32) (0 : Int32) 0 0 0))) else none))) else none))) else none))) else none))) := by rw [g_295.eq_2, if_pos (show (0 : Nat) = 0 from rfl)]
set_option maxRecDepth 100000 in
theorem e_295_1 (n dp : Nat) (e : EN) (I : (Nat → Nat → Int32)) (L : (Nat → Nat → Int64)) (i1 : Int32) (i2 : Int32) (i3 : Int32) (i4 : Int32) (i5 : Int32) (i6 : Int32) (i7 : Int32) (i8 : Int32) (i9 : Int32) (i10 : Int32) (i11 : Int32) (i12 : Int32) : g_295 (n + 1) dp e 1 I L i1 i2 i3 i4 i5 i6 i7 i8 i9 i10 i11 i12 = (if (I 107 6) ≤ i9 then (g_295 n dp e 2 I L i1 i2 i3 i4 i5 i6 i7 i8 (1 : Int32) 0 0 0) else (if 1 ≤ dp then (g_292 n (dp - 1) e 0 I L i9 (6 : Int32)).bind (fun ⟨x0_92, I0_92, L0_92⟩ => (if x0_92 = (1 : Int32) then (stI (i8 ||| ((1 : Int32) <<< (i9 &&& 31))) (fun v_108 => (g_295 n dp e 1 I0_92 L0_92 i1 i2 i3 i4 i5 i6 i7 v_108 (i9 + Int32.ofInt (1)) 0 0 0))) else (g_295 n dp e 1 I0_92 L0_92 i1 i2 i3 i4 i5 i6 i7 (i8 ||| (0 : Int32)) (i9 + Int32.ofInt (1)) 0 0 0))) else none)) := by rw [g_295.eq_2, if_neg (show ¬ ((1 : Nat) = 0) by decide), if_pos (show (1 : Nat) = 1 from rfl)]
set_option maxRecDepth 100000 in
theorem e_295_2 (n dp : Nat) (e : EN) (I : (Nat → Nat → Int32)) (L : (Nat → Nat → Int64)) (i1 : Int32) (i2 : Int32) (i3 : Int32) (i4 : Int32) (i5 : Int32) (i6 : Int32) (i7 : Int32) (i8 : Int32) (i9 : Int32) (i10 : Int32) (i11 : Int32) (i12 : Int32) : g_295 (n + 1) dp e 2 I L i1 i2 i3 i4 i5 i6 i7 i8 i9 i10 i11 i12 = (if ((1 : Int32) <<< ((I 107 6) &&& 31)) ≤ i9 then (if i4 = (2 : Int32) then (some (i5, I, L)) else (if i7 = (-1 : Int32) then (some ((-1 : Int32), I, L)) else (if i4 = 0 then (some (i6, I, L)) else (some (i7, I, L))))) else (if (i9 &&& (i8 ^^^ (-1 : Int32))) = 0 then (g_295 n dp e 3 I L i1 i2 i3 i4 i5 i6 i7 i8 i9 (0 : Int32) (0 : Int32) (0 : Int32)) else (g_295 n dp e 5 I L i1 i2 i3 i4 i5 i6 i7 i8 i9 0 0 0))) := by rw [g_295.eq_2, if_neg (show ¬ ((2 : Nat) = 0) by decide), if_neg (show ¬ ((2 : Nat) = 1) by decide), if_pos (show (2 : Nat) = 2 from rfl)]
set_option maxRecDepth 100000 in
theorem e_295_3 (n dp : Nat) (e : EN) (I : (Nat → Nat → Int32)) (L : (Nat → Nat → Int64)) (i1 : Int32) (i2 : Int32) (i3 : Int32) (i4 : Int32) (i5 : Int32) (i6 : Int32) (i7 : Int32) (i8 : Int32) (i9 : Int32) (i10 : Int32) (i11 : Int32) (i12 : Int32) : g_295 (n + 1) dp e 3 I L i1 i2 i3 i4 i5 i6 i7 i8 i9 i10 i11 i12 = (if (I 107 6) ≤ i12 then (if 1 ≤ dp then (g_193 n (dp - 1) e 0 I L (Int32.toInt64 i10) (Int32.toInt64 i1) (Int32.toInt64 i2)).bind (fun ⟨x0_219, I0_219, L0_219⟩ => (if x0_219 = 0 then (g_295 n dp e 5 I0_219 L0_219 i1 i2 i3 i4 i5 i6 i7 i8 i9 0 0 0) else (if i11 < (i3 * i10) then (g_295 n dp e 5 I0_219 L0_219 i1 i2 i3 i4 i5 i6 i7 i8 i9 0 0 0) else (if i6 ≤ (i11 - (i3 * i10)) then (if i6 ≤ (i11 - (i3 * i10)) then (g_295 n dp e 5 I0_219 L0_219 i1 i2 i3 i4 (i5 + Int32.ofInt (1)) i6 i7 i8 i9 0 0 0) else (g_295 n dp e 5 I0_219 L0_219 i1 i2 i3 i4 (i5 + Int32.ofInt (1)) (i11 - (i3 * i10)) i7 i8 i9 0 0 0)) else (if i6 ≤ (i11 - (i3 * i10)) then (g_295 n dp e 5 I0_219 L0_219 i1 i2 i3 i4 (i5 + Int32.ofInt (1)) i6 i9 i8 i9 0 0 0) else (g_295 n dp e 5 I0_219 L0_219 i1 i2 i3 i4 (i5 + Int32.ofInt (1)) (i11 - (i3 * i10)) i9 i8 i9 0 0 0)))))) else none) else (if 1 ≤ dp then (g_287 n (dp - 1) e 0 I L i9 i12).bind (fun ⟨x0_168, I0_168, L0_168⟩ => (if x0_168 = 0 then (g_295 n dp e 4 I0_168 L0_168 i1 i2 i3 i4 i5 i6 i7 i8 i9 i10 i11 i12) else (if 1 ≤ dp then (g_292 n (dp - 1) e 0 I0_168 L0_168 i12 (0 : Int32)).bind (fun ⟨x1_180, I1_180, L1_180⟩ => (if 1 ≤ dp then (g_292 n (dp - 1) e 0 I1_180 L1_180 i12 (0 : Int32)).bind (fun ⟨x2_192, I2_192, L2_192⟩ => (if 1 ≤ dp then (g_292 n (dp - 1) e 0 I2_192 L2_192 i12 (1 : Int32)).bind (fun ⟨x3_199, I3_199, L3_199⟩ => (stI (i11 + (x2_192 * x3_199)) (fun v_204 => (g_295 n dp e 4 I3_199 L3_199 i1 i2 i3 i4 i5 i6 i7 i8 i9 (i10 + x1_180) v_204 i12)))) else none)) else none)) else none))) else none)) := by rw [g_295.eq_2, if_neg (show ¬ ((3 : Nat) = 0) by decide), if_neg (show ¬ ((3 : Nat) = 1) by decide), if_neg (show ¬ ((3 : Nat) = 2) by decide), if_pos (show (3 : Nat) = 3 from rfl)]
set_option maxRecDepth 100000 in
theorem e_295_4 (n dp : Nat) (e : EN) (I : (Nat → Nat → Int32)) (L : (Nat → Nat → Int64)) (i1 : Int32) (i2 : Int32) (i3 : Int32) (i4 : Int32) (i5 : Int32) (i6 : Int32) (i7 : Int32) (i8 : Int32) (i9 : Int32) (i10 : Int32) (i11 : Int32) (i12 : Int32) : g_295 (n + 1) dp e 4 I L i1 i2 i3 i4 i5 i6 i7 i8 i9 i10 i11 i12 = (g_295 n dp e 3 I L i1 i2 i3 i4 i5 i6 i7 i8 i9 i10 i11 (i12 + Int32.ofInt (1))) := by rw [g_295.eq_2, if_neg (show ¬ ((4 : Nat) = 0) by decide), if_neg (show ¬ ((4 : Nat) = 1) by decide), if_neg (show ¬ ((4 : Nat) = 2) by decide), if_neg (show ¬ ((4 : Nat) = 3) by decide), if_pos (show (4 : Nat) = 4 from rfl)]
set_option maxRecDepth 100000 in
theorem e_295_5 (n dp : Nat) (e : EN) (I : (Nat → Nat → Int32)) (L : (Nat → Nat → Int64)) (i1 : Int32) (i2 : Int32) (i3 : Int32) (i4 : Int32) (i5 : Int32) (i6 : Int32) (i7 : Int32) (i8 : Int32) (i9 : Int32) (i10 : Int32) (i11 : Int32) (i12 : Int32) : g_295 (n + 1) dp e 5 I L i1 i2 i3 i4 i5 i6 i7 i8 i9 i10 i11 i12 = (g_295 n dp e 2 I L i1 i2 i3 i4 i5 i6 i7 i8 (i9 + Int32.ofInt (1)) 0 0 0) := by rw [g_295.eq_2, if_neg (show ¬ ((5 : Nat) = 0) by decide), if_neg (show ¬ ((5 : Nat) = 1) by decide), if_neg (show ¬ ((5 : Nat) = 2) by decide), if_neg (show ¬ ((5 : Nat) = 3) by decide), if_neg (show ¬ ((5 : Nat) = 4) by decide), if_pos (show (5 : Nat) = 5 from rfl)]
set_option maxHeartbeats 8000000 in
set_option maxRecDepth 100000 in
theorem w_295 (X : GX) {z : Nat} {kd : Nat → Nat × Nat} {Rf : Nat → Nat → Option Nat} (hS : Sh z kd Rf) : ∀ (n dp d : Nat), dp ≤ d → ∀ (I : (Nat → Nat → Int32)) (L : (Nat → Nat → Int64)) (i1 : Int32) (i2 : Int32) (i3 : Int32) (i4 : Int32) (i5 : Int32) (i6 : Int32) (i7 : Int32) (i8 : Int32) (i9 : Int32) (i10 : Int32) (i11 : Int32) (i12 : Int32) (r : Int32) (I1 : (Nat → Nat → Int32)) (L1 : (Nat → Nat → Int64)), (g_295 n dp (z, kd, Rf) 0 I L i1 i2 i3 i4 i5 i6 i7 i8 i9 i10 i11 i12 = some (r, I1, L1) → K X d 295 0 0 (AI (fun x τ => x = r ∧ τ = (z, kd, I1, L1, Rf))) 0 [some (.ref 105), some (.int i1), some (.int i2), some (.int i3), some (.int i4), none, none, none, none, none, none, none, none] [] (z, kd, I, L, Rf) 0 0) ∧
    (g_295 n dp (z, kd, Rf) 1 I L i1 i2 i3 i4 i5 i6 i7 i8 i9 i10 i11 i12 = some (r, I1, L1) → K X d 295 0 0 (AI (fun x τ => x = r ∧ τ = (z, kd, I1, L1, Rf))) 73 [some (.ref 105), some (.int i1), some (.int i2), some (.int i3), some (.int i4), some (.int i5), some (.int i6), some (.int i7), some (.int i8), some (.int i9), none, none, none] [] (z, kd, I, L, Rf) 0 0) ∧
    (g_295 n dp (z, kd, Rf) 2 I L i1 i2 i3 i4 i5 i6 i7 i8 i9 i10 i11 i12 = some (r, I1, L1) → K X d 295 0 0 (AI (fun x τ => x = r ∧ τ = (z, kd, I1, L1, Rf))) 119 [some (.ref 105), some (.int i1), some (.int i2), some (.int i3), some (.int i4), some (.int i5), some (.int i6), some (.int i7), some (.int i8), some (.int i9), none, none, none] [] (z, kd, I, L, Rf) 0 0) ∧
    (g_295 n dp (z, kd, Rf) 3 I L i1 i2 i3 i4 i5 i6 i7 i8 i9 i10 i11 i12 = some (r, I1, L1) → K X d 295 0 0 (AI (fun x τ => x = r ∧ τ = (z, kd, I1, L1, Rf))) 152 [some (.ref 105), some (.int i1), some (.int i2), some (.int i3), some (.int i4), some (.int i5), some (.int i6), some (.int i7), some (.int i8), some (.int i9), some (.int i10), some (.int i11), some (.int i12)] [] (z, kd, I, L, Rf) 0 0) ∧
    (g_295 n dp (z, kd, Rf) 4 I L i1 i2 i3 i4 i5 i6 i7 i8 i9 i10 i11 i12 = some (r, I1, L1) → K X d 295 0 0 (AI (fun x τ => x = r ∧ τ = (z, kd, I1, L1, Rf))) 206 [some (.ref 105), some (.int i1), some (.int i2), some (.int i3), some (.int i4), some (.int i5), some (.int i6), some (.int i7), some (.int i8), some (.int i9), some (.int i10), some (.int i11), some (.int i12)] [] (z, kd, I, L, Rf) 0 0) ∧
    (g_295 n dp (z, kd, Rf) 5 I L i1 i2 i3 i4 i5 i6 i7 i8 i9 i10 i11 i12 = some (r, I1, L1) → K X d 295 0 0 (AI (fun x τ => x = r ∧ τ = (z, kd, I1, L1, Rf))) 278 [some (.ref 105), some (.int i1), some (.int i2), some (.int i3), some (.int i4), some (.int i5), some (.int i6), some (.int i7), some (.int i8), some (.int i9), none, none, none] [] (z, kd, I, L, Rf) 0 0) := by
  intro n
  induction n with
  | zero => intro dp d hdp I L i1 i2 i3 i4 i5 i6 i7 i8 i9 i10 i11 i12 r I1 L1; exact ⟨(fun h => by cases h), (fun h => by cases h), (fun h => by cases h), (fun h => by cases h), (fun h => by cases h), (fun h => by cases h)⟩
  | succ n ih =>
    intro dp d hdp I L i1 i2 i3 i4 i5 i6 i7 i8 i9 i10 i11 i12 r I1 L1
    refine ⟨?_, ?_, ?_, ?_, ?_, ?_⟩
    · intro h
      rw [e_295_0] at h
      refine K_of b_295_0 h_295_0 ?_
      refine q_aload rfl ?_
      refine q_iconst (0) (by decide) ?_
      refine q_putI (c0 := 12) (j := 0) rfl rfl (zl hS 105 (by decide)) (sk hS 105 (by decide) rfl) rfl ?_
      obtain ⟨I_2, nI_2, h⟩ := stI_some h
      refine q_nI nI_2 ?_
      refine q_iload rfl ?_
      refine q_i2l ?_
      refine q_lconst (1) (by decide) ?_
      refine q_lconst (1584) (by decide) ?_
      obtain ⟨d_11, h⟩ := ite_some h
      obtain ⟨⟨x0_11, I0_11, L0_11⟩, e_11, h⟩ := Option.bind_eq_some_iff.mp h
      dsimp only at h
      refine q_fs3I (a_193 X hS (d := d - 1) (by omega) e_11) (by omega) (Nat.le_refl _) (Nat.le_refl _) rfl (Nat.le_of_ble_eq_true rfl) ?_
      refine q_if_eq (fun c_14 => ?_) (fun c_14 => ?_)
      · rw [if_pos c_14] at h
        refine K_of b_295_54 h_295_54 ?_
        refine q_iconst (-1) (by decide) ?_
        cases h
        exact q_iret rfl (Nat.le_refl _) (Nat.le_refl _) ⟨rfl, rfl⟩
      · rw [if_neg c_14] at h
        refine q_iload rfl ?_
        refine q_i2l ?_
        refine q_lconst (1) (by decide) ?_
        refine q_lconst (1584) (by decide) ?_
        obtain ⟨d_23, h⟩ := ite_some h
        obtain ⟨⟨x1_23, I1_23, L1_23⟩, e_23, h⟩ := Option.bind_eq_some_iff.mp h
        dsimp only at h
        refine q_fs3I (a_193 X hS (d := d - 1) (by omega) e_23) (by omega) (Nat.le_refl _) (Nat.le_refl _) rfl (Nat.le_of_ble_eq_true rfl) ?_
        refine q_if_eq (fun c_26 => ?_) (fun c_26 => ?_)
        · rw [if_pos c_26] at h
          refine K_of b_295_54 h_295_54 ?_
          refine q_iconst (-1) (by decide) ?_
          cases h
          exact q_iret rfl (Nat.le_refl _) (Nat.le_refl _) ⟨rfl, rfl⟩
        · rw [if_neg c_26] at h
          refine q_iload rfl ?_
          refine q_i2l ?_
          refine q_lconst (0) (by decide) ?_
          refine q_lconst (100) (by decide) ?_
          obtain ⟨d_35, h⟩ := ite_some h
          obtain ⟨⟨x2_35, I2_35, L2_35⟩, e_35, h⟩ := Option.bind_eq_some_iff.mp h
          dsimp only at h
          refine q_fs3I (a_193 X hS (d := d - 1) (by omega) e_35) (by omega) (Nat.le_refl _) (Nat.le_refl _) rfl (Nat.le_of_ble_eq_true rfl) ?_
          refine q_if_eq (fun c_38 => ?_) (fun c_38 => ?_)
          · rw [if_pos c_38] at h
            refine K_of b_295_54 h_295_54 ?_
            refine q_iconst (-1) (by decide) ?_
            cases h
            exact q_iret rfl (Nat.le_refl _) (Nat.le_refl _) ⟨rfl, rfl⟩
          · rw [if_neg c_38] at h
            refine q_iload rfl ?_
            refine q_i2l ?_
            refine q_lconst (0) (by decide) ?_
            refine q_lconst (2) (by decide) ?_
            obtain ⟨d_48, h⟩ := ite_some h
            obtain ⟨⟨x3_48, I3_48, L3_48⟩, e_48, h⟩ := Option.bind_eq_some_iff.mp h
            dsimp only at h
            refine q_fs3I (a_193 X hS (d := d - 1) (by omega) e_48) (by omega) (Nat.le_refl _) (Nat.le_refl _) rfl (Nat.le_of_ble_eq_true rfl) ?_
            refine q_if_ne (fun c_51 => ?_) (fun c_51 => ?_)
            · rw [if_neg c_51] at h
              refine K_of b_295_56 h_295_56 ?_
              refine q_iconst (0) (by decide) ?_
              refine q_istore (ls1 := [some (.ref 105), some (.int i1), some (.int i2), some (.int i3), some (.int i4), some (.int (0 : Int32)), none, none, none, none, none, none, none]) (Nat.le_of_ble_eq_true rfl) rfl ?_
              refine q_iconst (1000000000) (by decide) ?_
              refine q_istore (ls1 := [some (.ref 105), some (.int i1), some (.int i2), some (.int i3), some (.int i4), some (.int (0 : Int32)), some (.int (1000000000 : Int32)), none, none, none, none, none, none]) (Nat.le_of_ble_eq_true rfl) rfl ?_
              refine q_iconst (-1) (by decide) ?_
              refine q_istore (ls1 := [some (.ref 105), some (.int i1), some (.int i2), some (.int i3), some (.int i4), some (.int (0 : Int32)), some (.int (1000000000 : Int32)), some (.int (-1 : Int32)), none, none, none, none, none]) (Nat.le_of_ble_eq_true rfl) rfl ?_
              refine q_iconst (0) (by decide) ?_
              refine q_istore (ls1 := [some (.ref 105), some (.int i1), some (.int i2), some (.int i3), some (.int i4), some (.int (0 : Int32)), some (.int (1000000000 : Int32)), some (.int (-1 : Int32)), some (.int (0 : Int32)), none, none, none, none]) (Nat.le_of_ble_eq_true rfl) rfl ?_
              refine q_iconst (0) (by decide) ?_
              refine q_istore (ls1 := [some (.ref 105), some (.int i1), some (.int i2), some (.int i3), some (.int i4), some (.int (0 : Int32)), some (.int (1000000000 : Int32)), some (.int (-1 : Int32)), some (.int (0 : Int32)), some (.int (0 : Int32)), none, none, none]) (Nat.le_of_ble_eq_true rfl) rfl ?_
              refine q_end ?_
              exact (ih dp d hdp _ _ i1 i2 i3 i4 (0 : Int32) (1000000000 : Int32) (-1 : Int32) (0 : Int32) (0 : Int32) 0 0 0 _ _ _).2.1 h
            · rw [if_pos c_51] at h
              refine q_end ?_
              refine K_of b_295_54 h_295_54 ?_
              refine q_iconst (-1) (by decide) ?_
              cases h
              exact q_iret rfl (Nat.le_refl _) (Nat.le_refl _) ⟨rfl, rfl⟩
    · intro h
      rw [e_295_1] at h
      refine K_of b_295_73 h_295_73 ?_
      refine q_iload rfl ?_
      refine q_aload rfl ?_
      refine q_getRs (c0 := 12) (j := 3) rfl rfl (zl hS 105 (by decide)) (sk hS 105 (by decide) rfl) rfl (by decide) (r_105_3 hS) ?_
      refine q_iconst (6) (by decide) ?_
      refine q_ialN (6) rfl (zl hS 107 (by decide)) (sk hS 107 (by decide) rfl) (by decide) (by decide) ?_
      refine q_icmp_ge (fun c_82 => ?_) (fun c_82 => ?_)
      · rw [if_pos c_82] at h
        refine K_of b_295_116 h_295_116 ?_
        refine q_iconst (1) (by decide) ?_
        refine q_istore (ls1 := [some (.ref 105), some (.int i1), some (.int i2), some (.int i3), some (.int i4), some (.int i5), some (.int i6), some (.int i7), some (.int i8), some (.int (1 : Int32)), none, none, none]) (Nat.le_of_ble_eq_true rfl) rfl ?_
        refine q_end ?_
        exact (ih dp d hdp _ _ i1 i2 i3 i4 i5 i6 i7 i8 (1 : Int32) 0 0 0 _ _ _).2.2.1 h
      · rw [if_neg c_82] at h
        refine q_iload rfl ?_
        refine q_aload rfl ?_
        refine q_iload rfl ?_
        refine q_iconst (6) (by decide) ?_
        obtain ⟨d_92, h⟩ := ite_some h
        obtain ⟨⟨x0_92, I0_92, L0_92⟩, e_92, h⟩ := Option.bind_eq_some_iff.mp h
        dsimp only at h
        refine q_fv3I (a_292 X hS (d := d - 1) (by omega) e_92) (by omega) (Nat.le_refl _) (Nat.le_refl _) rfl (Nat.le_of_ble_eq_true rfl) ⟨(zl hS 105 (by decide)), congrArg Prod.fst (sk hS 105 (by decide) rfl), by decide⟩ ?_
        refine q_iconst (1) (by decide) ?_
        refine q_icmp_ne (fun c_96 => ?_) (fun c_96 => ?_)
        · rw [if_neg c_96] at h
          refine K_of b_295_106 h_295_106 ?_
          refine q_iconst (0) (by decide) ?_
          refine q_end ?_
          refine K_of b_295_107 h_295_107 ?_
          refine q_ior ?_
          refine q_istore (ls1 := [some (.ref 105), some (.int i1), some (.int i2), some (.int i3), some (.int i4), some (.int i5), some (.int i6), some (.int i7), some (.int (i8 ||| (0 : Int32))), some (.int i9), none, none, none]) (Nat.le_of_ble_eq_true rfl) rfl ?_
          refine q_iinc (ls1 := [some (.ref 105), some (.int i1), some (.int i2), some (.int i3), some (.int i4), some (.int i5), some (.int i6), some (.int i7), some (.int (i8 ||| (0 : Int32))), some (.int (i9 + Int32.ofInt (1))), none, none, none]) rfl rfl ?_
          refine q_goto ?_
          exact (ih dp d hdp _ _ i1 i2 i3 i4 i5 i6 i7 (i8 ||| (0 : Int32)) (i9 + Int32.ofInt (1)) 0 0 0 _ _ _).2.1 h
        · rw [if_pos c_96] at h
          refine q_iconst (1) (by decide) ?_
          refine q_iload rfl ?_
          refine q_ishl ?_
          refine q_goto ?_
          refine K_of b_295_107 h_295_107 ?_
          refine q_ior ?_
          obtain ⟨v_108, nv_108, h⟩ := stI_some h
          refine q_eqi nv_108.symm ?_
          refine q_istore (ls1 := [some (.ref 105), some (.int i1), some (.int i2), some (.int i3), some (.int i4), some (.int i5), some (.int i6), some (.int i7), some (.int v_108), some (.int i9), none, none, none]) (Nat.le_of_ble_eq_true rfl) rfl ?_
          refine q_iinc (ls1 := [some (.ref 105), some (.int i1), some (.int i2), some (.int i3), some (.int i4), some (.int i5), some (.int i6), some (.int i7), some (.int v_108), some (.int (i9 + Int32.ofInt (1))), none, none, none]) rfl rfl ?_
          refine q_goto ?_
          exact (ih dp d hdp _ _ i1 i2 i3 i4 i5 i6 i7 v_108 (i9 + Int32.ofInt (1)) 0 0 0 _ _ _).2.1 h
    · intro h
      rw [e_295_2] at h
      refine K_of b_295_119 h_295_119 ?_
      refine q_iload rfl ?_
      refine q_iconst (1) (by decide) ?_
      refine q_aload rfl ?_
      refine q_getRs (c0 := 12) (j := 3) rfl rfl (zl hS 105 (by decide)) (sk hS 105 (by decide) rfl) rfl (by decide) (r_105_3 hS) ?_
      refine q_iconst (6) (by decide) ?_
      refine q_ialN (6) rfl (zl hS 107 (by decide)) (sk hS 107 (by decide) rfl) (by decide) (by decide) ?_
      refine q_ishl ?_
      refine q_icmp_ge (fun c_130 => ?_) (fun c_130 => ?_)
      · rw [if_pos c_130] at h
        refine K_of b_295_284 h_295_284 ?_
        refine q_iload rfl ?_
        refine q_iconst (2) (by decide) ?_
        refine q_icmp_ne (fun c_287 => ?_) (fun c_287 => ?_)
        · rw [if_neg c_287] at h
          refine K_of b_295_295 h_295_295 ?_
          refine q_iload rfl ?_
          refine q_iconst (-1) (by decide) ?_
          refine q_icmp_ne (fun c_298 => ?_) (fun c_298 => ?_)
          · rw [if_neg c_298] at h
            refine K_of b_295_305 h_295_305 ?_
            refine q_iload rfl ?_
            refine q_if_ne (fun c_307 => ?_) (fun c_307 => ?_)
            · rw [if_neg c_307] at h
              refine K_of b_295_315 h_295_315 ?_
              refine q_iload rfl ?_
              refine q_end ?_
              refine K_of b_295_317 h_295_317 ?_
              cases h
              exact q_iret rfl (Nat.le_refl _) (Nat.le_refl _) ⟨rfl, rfl⟩
            · rw [if_pos c_307] at h
              refine q_iload rfl ?_
              refine q_goto ?_
              refine K_of b_295_317 h_295_317 ?_
              cases h
              exact q_iret rfl (Nat.le_refl _) (Nat.le_refl _) ⟨rfl, rfl⟩
          · rw [if_pos c_298] at h
            refine q_iconst (-1) (by decide) ?_
            refine q_goto ?_
            refine K_of b_295_317 h_295_317 ?_
            cases h
            exact q_iret rfl (Nat.le_refl _) (Nat.le_refl _) ⟨rfl, rfl⟩
        · rw [if_pos c_287] at h
          refine q_iload rfl ?_
          refine q_goto ?_
          refine K_of b_295_317 h_295_317 ?_
          cases h
          exact q_iret rfl (Nat.le_refl _) (Nat.le_refl _) ⟨rfl, rfl⟩
      · rw [if_neg c_130] at h
        refine q_iload rfl ?_
        refine q_iload rfl ?_
        refine q_iconst (-1) (by decide) ?_
        refine q_ixor ?_
        refine q_iand ?_
        refine q_if_ne (fun c_140 => ?_) (fun c_140 => ?_)
        · rw [if_neg c_140] at h
          exact (ih dp d hdp _ _ i1 i2 i3 i4 i5 i6 i7 i8 i9 0 0 0 _ _ _).2.2.2.2.2 h
        · rw [if_pos c_140] at h
          refine q_iconst (0) (by decide) ?_
          refine q_istore (ls1 := [some (.ref 105), some (.int i1), some (.int i2), some (.int i3), some (.int i4), some (.int i5), some (.int i6), some (.int i7), some (.int i8), some (.int i9), some (.int (0 : Int32)), none, none]) (Nat.le_of_ble_eq_true rfl) rfl ?_
          refine q_iconst (0) (by decide) ?_
          refine q_istore (ls1 := [some (.ref 105), some (.int i1), some (.int i2), some (.int i3), some (.int i4), some (.int i5), some (.int i6), some (.int i7), some (.int i8), some (.int i9), some (.int (0 : Int32)), some (.int (0 : Int32)), none]) (Nat.le_of_ble_eq_true rfl) rfl ?_
          refine q_iconst (0) (by decide) ?_
          refine q_istore (ls1 := [some (.ref 105), some (.int i1), some (.int i2), some (.int i3), some (.int i4), some (.int i5), some (.int i6), some (.int i7), some (.int i8), some (.int i9), some (.int (0 : Int32)), some (.int (0 : Int32)), some (.int (0 : Int32))]) (Nat.le_of_ble_eq_true rfl) rfl ?_
          refine q_end ?_
          exact (ih dp d hdp _ _ i1 i2 i3 i4 i5 i6 i7 i8 i9 (0 : Int32) (0 : Int32) (0 : Int32) _ _ _).2.2.2.1 h
    · intro h
      rw [e_295_3] at h
      refine K_of b_295_152 h_295_152 ?_
      refine q_iload rfl ?_
      refine q_aload rfl ?_
      refine q_getRs (c0 := 12) (j := 3) rfl rfl (zl hS 105 (by decide)) (sk hS 105 (by decide) rfl) rfl (by decide) (r_105_3 hS) ?_
      refine q_iconst (6) (by decide) ?_
      refine q_ialN (6) rfl (zl hS 107 (by decide)) (sk hS 107 (by decide) rfl) (by decide) (by decide) ?_
      refine q_icmp_ge (fun c_161 => ?_) (fun c_161 => ?_)
      · rw [if_pos c_161] at h
        refine K_of b_295_212 h_295_212 ?_
        refine q_iload rfl ?_
        refine q_i2l ?_
        refine q_iload rfl ?_
        refine q_i2l ?_
        refine q_iload rfl ?_
        refine q_i2l ?_
        obtain ⟨d_219, h⟩ := ite_some h
        obtain ⟨⟨x0_219, I0_219, L0_219⟩, e_219, h⟩ := Option.bind_eq_some_iff.mp h
        dsimp only at h
        refine q_fs3I (a_193 X hS (d := d - 1) (by omega) e_219) (by omega) (Nat.le_refl _) (Nat.le_refl _) rfl (Nat.le_of_ble_eq_true rfl) ?_
        refine q_if_eq (fun c_222 => ?_) (fun c_222 => ?_)
        · rw [if_pos c_222] at h
          refine K_mask [true, true, true, true, true, true, true, true, true, true, false, false, false] (Nat.le_of_ble_eq_true rfl) ?_
          exact (ih dp d hdp _ _ i1 i2 i3 i4 i5 i6 i7 i8 i9 0 0 0 _ _ _).2.2.2.2.2 h
        · rw [if_neg c_222] at h
          refine q_iload rfl ?_
          refine q_iload rfl ?_
          refine q_iload rfl ?_
          refine q_imul ?_
          refine q_icmp_lt (fun c_231 => ?_) (fun c_231 => ?_)
          · rw [if_pos c_231] at h
            refine K_mask [true, true, true, true, true, true, true, true, true, true, false, false, false] (Nat.le_of_ble_eq_true rfl) ?_
            exact (ih dp d hdp _ _ i1 i2 i3 i4 i5 i6 i7 i8 i9 0 0 0 _ _ _).2.2.2.2.2 h
          · rw [if_neg c_231] at h
            refine q_iinc (ls1 := [some (.ref 105), some (.int i1), some (.int i2), some (.int i3), some (.int i4), some (.int (i5 + Int32.ofInt (1))), some (.int i6), some (.int i7), some (.int i8), some (.int i9), some (.int i10), some (.int i11), some (.int i12)]) rfl rfl ?_
            refine q_iload rfl ?_
            refine q_iload rfl ?_
            refine q_iload rfl ?_
            refine q_imul ?_
            refine q_isub ?_
            refine q_istore (ls1 := [some (.ref 105), some (.int i1), some (.int i2), some (.int i3), some (.int i4), some (.int (i5 + Int32.ofInt (1))), some (.int i6), some (.int i7), some (.int i8), some (.int i9), some (.int i10), some (.int i11), some (.int (i11 - (i3 * i10)))]) (Nat.le_of_ble_eq_true rfl) rfl ?_
            refine q_iload rfl ?_
            refine q_iload rfl ?_
            refine q_icmp_ge (fun c_250 => ?_) (fun c_250 => ?_)
            · rw [if_pos c_250] at h
              refine K_of b_295_258 h_295_258 ?_
              refine q_iload rfl ?_
              refine q_end ?_
              refine K_of b_295_260 h_295_260 ?_
              refine q_istore (ls1 := [some (.ref 105), some (.int i1), some (.int i2), some (.int i3), some (.int i4), some (.int (i5 + Int32.ofInt (1))), some (.int i6), some (.int i7), some (.int i8), some (.int i9), some (.int i10), some (.int i11), some (.int (i11 - (i3 * i10)))]) (Nat.le_of_ble_eq_true rfl) rfl ?_
              refine q_iload rfl ?_
              refine q_iload rfl ?_
              refine q_icmp_ge (fun c_266 => ?_) (fun c_266 => ?_)
              · rw [if_pos c_266] at h
                refine K_of b_295_274 h_295_274 ?_
                refine q_iload rfl ?_
                refine q_end ?_
                refine K_of b_295_276 h_295_276 ?_
                refine q_istore (ls1 := [some (.ref 105), some (.int i1), some (.int i2), some (.int i3), some (.int i4), some (.int (i5 + Int32.ofInt (1))), some (.int i6), some (.int i7), some (.int i8), some (.int i9), some (.int i10), some (.int i11), some (.int (i11 - (i3 * i10)))]) (Nat.le_of_ble_eq_true rfl) rfl ?_
                refine q_end ?_
                refine K_mask [true, true, true, true, true, true, true, true, true, true, false, false, false] (Nat.le_of_ble_eq_true rfl) ?_
                exact (ih dp d hdp _ _ i1 i2 i3 i4 (i5 + Int32.ofInt (1)) i6 i7 i8 i9 0 0 0 _ _ _).2.2.2.2.2 h
              · rw [if_neg c_266] at h
                refine q_iload rfl ?_
                refine q_goto ?_
                refine K_of b_295_276 h_295_276 ?_
                refine q_istore (ls1 := [some (.ref 105), some (.int i1), some (.int i2), some (.int i3), some (.int i4), some (.int (i5 + Int32.ofInt (1))), some (.int (i11 - (i3 * i10))), some (.int i7), some (.int i8), some (.int i9), some (.int i10), some (.int i11), some (.int (i11 - (i3 * i10)))]) (Nat.le_of_ble_eq_true rfl) rfl ?_
                refine q_end ?_
                refine K_mask [true, true, true, true, true, true, true, true, true, true, false, false, false] (Nat.le_of_ble_eq_true rfl) ?_
                exact (ih dp d hdp _ _ i1 i2 i3 i4 (i5 + Int32.ofInt (1)) (i11 - (i3 * i10)) i7 i8 i9 0 0 0 _ _ _).2.2.2.2.2 h
            · rw [if_neg c_250] at h
              refine q_iload rfl ?_
              refine q_goto ?_
              refine K_of b_295_260 h_295_260 ?_
              refine q_istore (ls1 := [some (.ref 105), some (.int i1), some (.int i2), some (.int i3), some (.int i4), some (.int (i5 + Int32.ofInt (1))), some (.int i6), some (.int i9), some (.int i8), some (.int i9), some (.int i10), some (.int i11), some (.int (i11 - (i3 * i10)))]) (Nat.le_of_ble_eq_true rfl) rfl ?_
              refine q_iload rfl ?_
              refine q_iload rfl ?_
              refine q_icmp_ge (fun c_266 => ?_) (fun c_266 => ?_)
              · rw [if_pos c_266] at h
                refine K_of b_295_274 h_295_274 ?_
                refine q_iload rfl ?_
                refine q_end ?_
                refine K_of b_295_276 h_295_276 ?_
                refine q_istore (ls1 := [some (.ref 105), some (.int i1), some (.int i2), some (.int i3), some (.int i4), some (.int (i5 + Int32.ofInt (1))), some (.int i6), some (.int i9), some (.int i8), some (.int i9), some (.int i10), some (.int i11), some (.int (i11 - (i3 * i10)))]) (Nat.le_of_ble_eq_true rfl) rfl ?_
                refine q_end ?_
                refine K_mask [true, true, true, true, true, true, true, true, true, true, false, false, false] (Nat.le_of_ble_eq_true rfl) ?_
                exact (ih dp d hdp _ _ i1 i2 i3 i4 (i5 + Int32.ofInt (1)) i6 i9 i8 i9 0 0 0 _ _ _).2.2.2.2.2 h
              · rw [if_neg c_266] at h
                refine q_iload rfl ?_
                refine q_goto ?_
                refine K_of b_295_276 h_295_276 ?_
                refine q_istore (ls1 := [some (.ref 105), some (.int i1), some (.int i2), some (.int i3), some (.int i4), some (.int (i5 + Int32.ofInt (1))), some (.int (i11 - (i3 * i10))), some (.int i9), some (.int i8), some (.int i9), some (.int i10), some (.int i11), some (.int (i11 - (i3 * i10)))]) (Nat.le_of_ble_eq_true rfl) rfl ?_
                refine q_end ?_
                refine K_mask [true, true, true, true, true, true, true, true, true, true, false, false, false] (Nat.le_of_ble_eq_true rfl) ?_
                exact (ih dp d hdp _ _ i1 i2 i3 i4 (i5 + Int32.ofInt (1)) (i11 - (i3 * i10)) i9 i8 i9 0 0 0 _ _ _).2.2.2.2.2 h
      · rw [if_neg c_161] at h
        refine q_iload rfl ?_
        refine q_iload rfl ?_
        obtain ⟨d_168, h⟩ := ite_some h
        obtain ⟨⟨x0_168, I0_168, L0_168⟩, e_168, h⟩ := Option.bind_eq_some_iff.mp h
        dsimp only at h
        refine q_fs2I (a_287 X hS (d := d - 1) (by omega) e_168) (by omega) (Nat.le_refl _) (Nat.le_refl _) rfl (Nat.le_of_ble_eq_true rfl) ?_
        refine q_if_eq (fun c_171 => ?_) (fun c_171 => ?_)
        · rw [if_pos c_171] at h
          exact (ih dp d hdp _ _ i1 i2 i3 i4 i5 i6 i7 i8 i9 i10 i11 i12 _ _ _).2.2.2.2.1 h
        · rw [if_neg c_171] at h
          refine q_iload rfl ?_
          refine q_aload rfl ?_
          refine q_iload rfl ?_
          refine q_iconst (0) (by decide) ?_
          obtain ⟨d_180, h⟩ := ite_some h
          obtain ⟨⟨x1_180, I1_180, L1_180⟩, e_180, h⟩ := Option.bind_eq_some_iff.mp h
          dsimp only at h
          refine q_fv3I (a_292 X hS (d := d - 1) (by omega) e_180) (by omega) (Nat.le_refl _) (Nat.le_refl _) rfl (Nat.le_of_ble_eq_true rfl) ⟨(zl hS 105 (by decide)), congrArg Prod.fst (sk hS 105 (by decide) rfl), by decide⟩ ?_
          refine q_iadd ?_
          refine q_istore (ls1 := [some (.ref 105), some (.int i1), some (.int i2), some (.int i3), some (.int i4), some (.int i5), some (.int i6), some (.int i7), some (.int i8), some (.int i9), some (.int (i10 + x1_180)), some (.int i11), some (.int i12)]) (Nat.le_of_ble_eq_true rfl) rfl ?_
          refine q_iload rfl ?_
          refine q_aload rfl ?_
          refine q_iload rfl ?_
          refine q_iconst (0) (by decide) ?_
          obtain ⟨d_192, h⟩ := ite_some h
          obtain ⟨⟨x2_192, I2_192, L2_192⟩, e_192, h⟩ := Option.bind_eq_some_iff.mp h
          dsimp only at h
          refine q_fv3I (a_292 X hS (d := d - 1) (by omega) e_192) (by omega) (Nat.le_refl _) (Nat.le_refl _) rfl (Nat.le_of_ble_eq_true rfl) ⟨(zl hS 105 (by decide)), congrArg Prod.fst (sk hS 105 (by decide) rfl), by decide⟩ ?_
          refine q_aload rfl ?_
          refine q_iload rfl ?_
          refine q_iconst (1) (by decide) ?_
          obtain ⟨d_199, h⟩ := ite_some h
          obtain ⟨⟨x3_199, I3_199, L3_199⟩, e_199, h⟩ := Option.bind_eq_some_iff.mp h
          dsimp only at h
          refine q_fv3I (a_292 X hS (d := d - 1) (by omega) e_199) (by omega) (Nat.le_refl _) (Nat.le_refl _) rfl (Nat.le_of_ble_eq_true rfl) ⟨(zl hS 105 (by decide)), congrArg Prod.fst (sk hS 105 (by decide) rfl), by decide⟩ ?_
          refine q_imul ?_
          refine q_iadd ?_
          obtain ⟨v_204, nv_204, h⟩ := stI_some h
          refine q_eqi nv_204.symm ?_
          refine q_istore (ls1 := [some (.ref 105), some (.int i1), some (.int i2), some (.int i3), some (.int i4), some (.int i5), some (.int i6), some (.int i7), some (.int i8), some (.int i9), some (.int (i10 + x1_180)), some (.int v_204), some (.int i12)]) (Nat.le_of_ble_eq_true rfl) rfl ?_
          refine q_end ?_
          exact (ih dp d hdp _ _ i1 i2 i3 i4 i5 i6 i7 i8 i9 (i10 + x1_180) v_204 i12 _ _ _).2.2.2.2.1 h
    · intro h
      rw [e_295_4] at h
      refine K_of b_295_206 h_295_206 ?_
      refine q_iinc (ls1 := [some (.ref 105), some (.int i1), some (.int i2), some (.int i3), some (.int i4), some (.int i5), some (.int i6), some (.int i7), some (.int i8), some (.int i9), some (.int i10), some (.int i11), some (.int (i12 + Int32.ofInt (1)))]) rfl rfl ?_
      refine q_goto ?_
      exact (ih dp d hdp _ _ i1 i2 i3 i4 i5 i6 i7 i8 i9 i10 i11 (i12 + Int32.ofInt (1)) _ _ _).2.2.2.1 h
    · intro h
      rw [e_295_5] at h
      refine K_of b_295_278 h_295_278 ?_
      refine q_iinc (ls1 := [some (.ref 105), some (.int i1), some (.int i2), some (.int i3), some (.int i4), some (.int i5), some (.int i6), some (.int i7), some (.int i8), some (.int (i9 + Int32.ofInt (1))), none, none, none]) rfl rfl ?_
      refine q_goto ?_
      exact (ih dp d hdp _ _ i1 i2 i3 i4 i5 i6 i7 i8 (i9 + Int32.ofInt (1)) 0 0 0 _ _ _).2.2.1 h
theorem a_295 (X : GX) {z : Nat} {kd : Nat → Nat × Nat} {Rf : Nat → Nat → Option Nat} (hS : Sh z kd Rf) {n dp d : Nat} (hd : dp ≤ d) {I : (Nat → Nat → Int32)} {L : (Nat → Nat → Int64)} {i1 : Int32} {i2 : Int32} {i3 : Int32} {i4 : Int32} {I1 : (Nat → Nat → Int32)} {L1 : (Nat → Nat → Int64)} {r : Int32} (h : g_295 n dp (z, kd, Rf) 0 I L i1 i2 i3 i4 0 0 0 0 0 0 0 0 = some (r, I1, L1)) : Ct X d 295 0 0 [.ref 105, .int i1, .int i2, .int i3, .int i4] (z, kd, I, L, Rf) (AI (fun x τ => x = r ∧ τ = (z, kd, I1, L1, Rf))) :=
  Ct_of mu_295 (Nat.le_of_ble_eq_true rfl) ((w_295 X hS n dp d hd I L i1 i2 i3 i4 0 0 0 0 0 0 0 0 _ _ _).1 h)

/-! 296 CutFloorModel.send(IIII)I -/
set_option maxHeartbeats 4000000 in
set_option maxRecDepth 100000 in
def g_296 : Nat → Nat → EN → Nat → (Nat → Nat → Int32) → (Nat → Nat → Int64) → Int32 → Int32 → Int32 → Int32 → Int32 → Int32 → Int32 → Int32 → Int32 →  Option (Int32 × (Nat → Nat → Int32) × (Nat → Nat → Int64))
  | 0, _, _, _, _, _, _, _, _, _, _, _, _, _, _ => none
  | n + 1, dp, e, lab, I, L, i1, i2, i3, i4, i5, i6, i7, i8, i9 =>
    if lab = 0 then (stI (u2 I 105 0 (0 : Int32)) (fun I_2 => (if 1 ≤ dp then (g_193 n (dp - 1) e 0 I_2 L (Int32.toInt64 i1) (1 : Int64) (16 : Int64)).bind (fun ⟨x0_11, I0_11, L0_11⟩ => (if x0_11 = 0 then (if 1 ≤ dp then (g_194 n (dp - 1) e 0 I0_11 L0_11 (-1 : Int32)).bind (fun ⟨x1_56, I1_56, L1_56⟩ => (some (x1_56, I1_56, L1_56))) else none) else (if 1 ≤ dp then (g_193 n (dp - 1) e 0 I0_11 L0_11 (Int32.toInt64 i2) (0 : Int64) (99 : Int64)).bind (fun ⟨x1_23, I1_23, L1_23⟩ => (if x1_23 = 0 then (if 1 ≤ dp then (g_194 n (dp - 1) e 0 I1_23 L1_23 (-1 : Int32)).bind (fun ⟨x2_56, I2_56, L2_56⟩ => (some (x2_56, I2_56, L2_56))) else none) else (if 1 ≤ dp then (g_193 n (dp - 1) e 0 I1_23 L1_23 (Int32.toInt64 i3) (0 : Int64) (99 : Int64)).bind (fun ⟨x2_35, I2_35, L2_35⟩ => (if x2_35 = 0 then (if 1 ≤ dp then (g_194 n (dp - 1) e 0 I2_35 L2_35 (-1 : Int32)).bind (fun ⟨x3_56, I3_56, L3_56⟩ => (some (x3_56, I3_56, L3_56))) else none) else (if 1 ≤ dp then (g_193 n (dp - 1) e 0 I2_35 L2_35 (Int32.toInt64 i4) (0 : Int64) (99 : Int64)).bind (fun ⟨x3_48, I3_48, L3_48⟩ => (if x3_48 = 0 then (if 1 ≤ dp then (g_194 n (dp - 1) e 0 I3_48 L3_48 (-1 : Int32)).bind (fun ⟨x4_56, I4_56, L4_56⟩ => (some (x4_56, I4_56, L4_56))) else none) else (g_296 n dp e 1 I3_48 L3_48 i1 i2 i3 i4 (0 : Int32) (0 : Int32) 0 0 0))) else none))) else none))) else none))) else none)))
    else if lab = 1 then (if i1 ≤ i6 then (if 1 ≤ dp then (g_194 n (dp - 1) e 0 I L i5).bind (fun ⟨x0_215, I0_215, L0_215⟩ => (some (x0_215, I0_215, L0_215))) else none) else (stI ((I 107 6) - (1 : Int32)) (fun v_84 => (g_296 n dp e 2 I L i1 i2 i3 i4 i5 i6 (-1 : Int32) v_84 0))))
    else if lab = 2 then (if i8 < 0 then (if i7 = (-1 : Int32) then (g_296 n dp e 6 I L i1 i2 i3 i4 i5 i6 i7 i8 0) else (if 0 ≤ (((90 : Int32) + ((7 : Int32) * i7)) + (6 : Int32)) ∧ (Int32.toNatClampNeg (((90 : Int32) + ((7 : Int32) * i7)) + (6 : Int32))) < 1570 then (stI (u2 I 107 (Int32.toNatClampNeg (((90 : Int32) + ((7 : Int32) * i7)) + (6 : Int32))) (0 : Int32)) (fun I_196 => (stI (i5 ||| ((1 : Int32) <<< (i7 &&& 31))) (fun v_204 => (g_296 n dp e 6 I_196 L i1 i2 i3 i4 v_204 i6 i7 i8 0))))) else none)) else (if 1 ≤ dp then (g_292 n (dp - 1) e 0 I L i8 (6 : Int32)).bind (fun ⟨x0_96, I0_96, L0_96⟩ => (if x0_96 = (1 : Int32) then (if 1 ≤ dp then (g_292 n (dp - 1) e 0 I0_96 L0_96 i8 (2 : Int32)).bind (fun ⟨x1_108, I1_108, L1_108⟩ => (if 1 ≤ dp then (g_193 n (dp - 1) e 0 I1_108 L1_108 (Int32.toInt64 (i2 - x1_108)) (Int32.toInt64 i3) (Int32.toInt64 i4)).bind (fun ⟨x2_118, I2_118, L2_118⟩ => (if x2_118 = 0 then (g_296 n dp e 3 I2_118 L2_118 i1 i2 i3 i4 i5 i6 i7 i8 0) else (if (1 : Int32) = 0 then (g_296 n dp e 5 I2_118 L2_118 i1 i2 i3 i4 i5 i6 i7 i8 (1 : Int32)) else (if i7 = (-1 : Int32) then (g_296 n dp e 4 I2_118 L2_118 i1 i2 i3 i4 i5 i6 i7 i8 (1 : Int32)) else (if 1 ≤ dp then (g_292 n (dp - 1) e 0 I2_118 L2_118 i8 (2 : Int32)).bind (fun ⟨x3_146, I3_146, L3_146⟩ => (if 1 ≤ dp then (g_292 n (dp - 1) e 0 I3_146 L3_146 i7 (2 : Int32)).bind (fun ⟨x4_153, I4_153, L4_153⟩ => (if x4_153 < x3_146 then (g_296 n dp e 5 I4_153 L4_153 i1 i2 i3 i4 i5 i6 i7 i8 (1 : Int32)) else (g_296 n dp e 4 I4_153 L4_153 i1 i2 i3 i4 i5 i6 i7 i8 (1 : Int32)))) else none)) else none))))) else none)) else none) else (g_296 n dp e 3 I0_96 L0_96 i1 i2 i3 i4 i5 i6 i7 i8 0))) else none))
    else if lab = 3 then (if (0 : Int32) = 0 then (g_296 n dp e 5 I L i1 i2 i3 i4 i5 i6 i7 i8 (0 : Int32)) else (if i7 = (-1 : Int32) then (g_296 n dp e 4 I L i1 i2 i3 i4 i5 i6 i7 i8 (0 : Int32)) else (if 1 ≤ dp then (g_292 n (dp - 1) e 0 I L i8 (2 : Int32)).bind (fun ⟨x0_146, I0_146, L0_146⟩ => (if 1 ≤ dp then (g_292 n (dp - 1) e 0 I0_146 L0_146 i7 (2 : Int32)).bind (fun ⟨x1_153, I1_153, L1_153⟩ => (if x1_153 < x0_146 then (g_296 n dp e 5 I1_153 L1_153 i1 i2 i3 i4 i5 i6 i7 i8 (0 : Int32)) else (g_296 n dp e 4 I1_153 L1_153 i1 i2 i3 i4 i5 i6 i7 i8 (0 : Int32)))) else none)) else none)))
    else if lab = 4 then (g_296 n dp e 2 I L i1 i2 i3 i4 i5 i6 i8 (i8 + Int32.ofInt (-1)) 0)
    else if lab = 5 then (g_296 n dp e 2 I L i1 i2 i3 i4 i5 i6 i7 (i8 + Int32.ofInt (-1)) 0)
    else if lab = 6 then (g_296 n dp e 1 I L i1 i2 i3 i4 i5 (i6 + Int32.ofInt (1)) 0 0 0)
    else none
set_option maxRecDepth 100000 in
theorem e_296_0 (n dp : Nat) (e : EN) (I : (Nat → Nat → Int32)) (L : (Nat → Nat → Int64)) (i1 : Int32) (i2 : Int32) (i3 : Int32) (i4 : Int32) (i5 : Int32) (i6 : Int32) (i7 : Int32) (i8 : Int32) (i9 : Int32) : g_296 (n + 1) dp e 0 I L i1 i2 i3 i4 i5 i6 i7 i8 i9 = (stI (u2 I 105 0 (0 : Int32)) (fun I_2 => (if 1 ≤ dp then (g_193 n (dp - 1) e 0 I_2 L (Int32.toInt64 i1) (1 : Int64) (16 : Int64)).bind (fun ⟨x0_11, I0_11, L0_11⟩ => (if x0_11 = 0 then (if 1 ≤ dp then (g_194 n (dp - 1) e 0 I0_11 L0_11 (-1 : Int32)).bind (fun ⟨x1_56, I1_56, L1_56⟩ => (some (x1_56, I1_56, L1_56))) else none) else (if 1 ≤ dp then (g_193 n (dp - 1) e 0 I0_11 L0_11 (Int32.toInt64 i2) (0 : Int64) (99 : Int64)).bind (fun ⟨x1_23, I1_23, L1_23⟩ => (if x1_23 = 0 then (if 1 ≤ dp then (g_194 n (dp - 1) e 0 I1_23 L1_23 (-1 : Int32)).bind (fun ⟨x2_56, I2_56, L2_56⟩ => (some (x2_56, I2_56, L2_56))) else none) else (if 1 ≤ dp then (g_193 n (dp - 1) e 0 I1_23 L1_23 (Int32.toInt64 i3) (0 : Int64) (99 : Int64)).bind (fun ⟨x2_35, I2_35, L2_35⟩ => (if x2_35 = 0 then (if 1 ≤ dp then (g_194 n (dp - 1) e 0 I2_35 L2_35 (-1 : Int32)).bind (fun ⟨x3_56, I3_56, L3_56⟩ => (some (x3_56, I3_56, L3_56))) else none) else (if 1 ≤ dp then (g_193 n (dp - 1) e 0 I2_35 L2_35 (Int32.toInt64 i4) (0 : Int64) (99 : Int64)).bind (fun ⟨x3_48, I3_48, L3_48⟩ => (if x3_48 = 0 then (if 1 ≤ dp then (g_194 n (dp - 1) e 0 I3_48 L3_48 (-1 : Int32)).bind (fun ⟨x4_56, I4_56, L4_56⟩ => (some (x4_56, I4_56, L4_56))) else none) else (g_296 n dp e 1 I3_48 L3_48 i1 i2 i3 i4 (0 : Int32) (0 : Int32) 0 0 0))) else none))) else none))) else none))) else none))) := by rw [g_296.eq_2, if_pos (show (0 : Nat) = 0 from rfl)]
set_option maxRecDepth 100000 in
theorem e_296_1 (n dp : Nat) (e : EN) (I : (Nat → Nat → Int32)) (L : (Nat → Nat → Int64)) (i1 : Int32) (i2 : Int32) (i3 : Int32) (i4 : Int32) (i5 : Int32) (i6 : Int32) (i7 : Int32) (i8 : Int32) (i9 : Int32) : g_296 (n + 1) dp e 1 I L i1 i2 i3 i4 i5 i6 i7 i8 i9 = (if i1 ≤ i6 then (if 1 ≤ dp then (g_194 n (dp - 1) e 0 I L i5).bind (fun ⟨x0_215, I0_215, L0_215⟩ => (some (x0_215, I0_215, L0_215))) else none) else (stI ((I 107 6) - (1 : Int32)) (fun v_84 => (g_296 n dp e 2 I L i1 i2 i3 i4 i5 i6 (-1 : Int32) v_84 0)))) := by rw [g_296.eq_2, if_neg (show ¬ ((1 : Nat) = 0) by decide), if_pos (show (1 : Nat) = 1 from rfl)]
set_option maxRecDepth 100000 in
theorem e_296_2 (n dp : Nat) (e : EN) (I : (Nat → Nat → Int32)) (L : (Nat → Nat → Int64)) (i1 : Int32) (i2 : Int32) (i3 : Int32) (i4 : Int32) (i5 : Int32) (i6 : Int32) (i7 : Int32) (i8 : Int32) (i9 : Int32) : g_296 (n + 1) dp e 2 I L i1 i2 i3 i4 i5 i6 i7 i8 i9 = (if i8 < 0 then (if i7 = (-1 : Int32) then (g_296 n dp e 6 I L i1 i2 i3 i4 i5 i6 i7 i8 0) else (if 0 ≤ (((90 : Int32) + ((7 : Int32) * i7)) + (6 : Int32)) ∧ (Int32.toNatClampNeg (((90 : Int32) + ((7 : Int32) * i7)) + (6 : Int32))) < 1570 then (stI (u2 I 107 (Int32.toNatClampNeg (((90 : Int32) + ((7 : Int32) * i7)) + (6 : Int32))) (0 : Int32)) (fun I_196 => (stI (i5 ||| ((1 : Int32) <<< (i7 &&& 31))) (fun v_204 => (g_296 n dp e 6 I_196 L i1 i2 i3 i4 v_204 i6 i7 i8 0))))) else none)) else (if 1 ≤ dp then (g_292 n (dp - 1) e 0 I L i8 (6 : Int32)).bind (fun ⟨x0_96, I0_96, L0_96⟩ => (if x0_96 = (1 : Int32) then (if 1 ≤ dp then (g_292 n (dp - 1) e 0 I0_96 L0_96 i8 (2 : Int32)).bind (fun ⟨x1_108, I1_108, L1_108⟩ => (if 1 ≤ dp then (g_193 n (dp - 1) e 0 I1_108 L1_108 (Int32.toInt64 (i2 - x1_108)) (Int32.toInt64 i3) (Int32.toInt64 i4)).bind (fun ⟨x2_118, I2_118, L2_118⟩ => (if x2_118 = 0 then (g_296 n dp e 3 I2_118 L2_118 i1 i2 i3 i4 i5 i6 i7 i8 0) else (if (1 : Int32) = 0 then (g_296 n dp e 5 I2_118 L2_118 i1 i2 i3 i4 i5 i6 i7 i8 (1 : Int32)) else (if i7 = (-1 : Int32) then (g_296 n dp e 4 I2_118 L2_118 i1 i2 i3 i4 i5 i6 i7 i8 (1 : Int32)) else (if 1 ≤ dp then (g_292 n (dp - 1) e 0 I2_118 L2_118 i8 (2 : Int32)).bind (fun ⟨x3_146, I3_146, L3_146⟩ => (if 1 ≤ dp then (g_292 n (dp - 1) e 0 I3_146 L3_146 i7 (2 : Int32)).bind (fun ⟨x4_153, I4_153, L4_153⟩ => (if x4_153 < x3_146 then (g_296 n dp e 5 I4_153 L4_153 i1 i2 i3 i4 i5 i6 i7 i8 (1 : Int32)) else (g_296 n dp e 4 I4_153 L4_153 i1 i2 i3 i4 i5 i6 i7 i8 (1 : Int32)))) else none)) else none))))) else none)) else none) else (g_296 n dp e 3 I0_96 L0_96 i1 i2 i3 i4 i5 i6 i7 i8 0))) else none)) := by rw [g_296.eq_2, if_neg (show ¬ ((2 : Nat) = 0) by decide), if_neg (show ¬ ((2 : Nat) = 1) by decide), if_pos (show (2 : Nat) = 2 from rfl)]
set_option maxRecDepth 100000 in
theorem e_296_3 (n dp : Nat) (e : EN) (I : (Nat → Nat → Int32)) (L : (Nat → Nat → Int64)) (i1 : Int32) (i2 : Int32) (i3 : Int32) (i4 : Int32) (i5 : Int32) (i6 : Int32) (i7 : Int32) (i8 : Int32) (i9 : Int32) : g_296 (n + 1) dp e 3 I L i1 i2 i3 i4 i5 i6 i7 i8 i9 = (if (0 : Int32) = 0 then (g_296 n dp e 5 I L i1 i2 i3 i4 i5 i6 i7 i8 (0 : Int32)) else (if i7 = (-1 : Int32) then (g_296 n dp e 4 I L i1 i2 i3 i4 i5 i6 i7 i8 (0 : Int32)) else (if 1 ≤ dp then (g_292 n (dp - 1) e 0 I L i8 (2 : Int32)).bind (fun ⟨x0_146, I0_146, L0_146⟩ => (if 1 ≤ dp then (g_292 n (dp - 1) e 0 I0_146 L0_146 i7 (2 : Int32)).bind (fun ⟨x1_153, I1_153, L1_153⟩ => (if x1_153 < x0_146 then (g_296 n dp e 5 I1_153 L1_153 i1 i2 i3 i4 i5 i6 i7 i8 (0 : Int32)) else (g_296 n dp e 4 I1_153 L1_153 i1 i2 i3 i4 i5 i6 i7 i8 (0 : Int32)))) else none)) else none))) := by rw [g_296.eq_2, if_neg (show ¬ ((3 : Nat) = 0) by decide), if_neg (show ¬ ((3 : Nat) = 1) by decide), if_neg (show ¬ ((3 : Nat) = 2) by decide), if_pos (show (3 : Nat) = 3 from rfl)]
set_option maxRecDepth 100000 in
theorem e_296_4 (n dp : Nat) (e : EN) (I : (Nat → Nat → Int32)) (L : (Nat → Nat → Int64)) (i1 : Int32) (i2 : Int32) (i3 : Int32) (i4 : Int32) (i5 : Int32) (i6 : Int32) (i7 : Int32) (i8 : Int32) (i9 : Int32) : g_296 (n + 1) dp e 4 I L i1 i2 i3 i4 i5 i6 i7 i8 i9 = (g_296 n dp e 2 I L i1 i2 i3 i4 i5 i6 i8 (i8 + Int32.ofInt (-1)) 0) := by rw [g_296.eq_2, if_neg (show ¬ ((4 : Nat) = 0) by decide), if_neg (show ¬ ((4 : Nat) = 1) by decide), if_neg (show ¬ ((4 : Nat) = 2) by decide), if_neg (show ¬ ((4 : Nat) = 3) by decide), if_pos (show (4 : Nat) = 4 from rfl)]
set_option maxRecDepth 100000 in
theorem e_296_5 (n dp : Nat) (e : EN) (I : (Nat → Nat → Int32)) (L : (Nat → Nat → Int64)) (i1 : Int32) (i2 : Int32) (i3 : Int32) (i4 : Int32) (i5 : Int32) (i6 : Int32) (i7 : Int32) (i8 : Int32) (i9 : Int32) : g_296 (n + 1) dp e 5 I L i1 i2 i3 i4 i5 i6 i7 i8 i9 = (g_296 n dp e 2 I L i1 i2 i3 i4 i5 i6 i7 (i8 + Int32.ofInt (-1)) 0) := by rw [g_296.eq_2, if_neg (show ¬ ((5 : Nat) = 0) by decide), if_neg (show ¬ ((5 : Nat) = 1) by decide), if_neg (show ¬ ((5 : Nat) = 2) by decide), if_neg (show ¬ ((5 : Nat) = 3) by decide), if_neg (show ¬ ((5 : Nat) = 4) by decide), if_pos (show (5 : Nat) = 5 from rfl)]
set_option maxRecDepth 100000 in
theorem e_296_6 (n dp : Nat) (e : EN) (I : (Nat → Nat → Int32)) (L : (Nat → Nat → Int64)) (i1 : Int32) (i2 : Int32) (i3 : Int32) (i4 : Int32) (i5 : Int32) (i6 : Int32) (i7 : Int32) (i8 : Int32) (i9 : Int32) : g_296 (n + 1) dp e 6 I L i1 i2 i3 i4 i5 i6 i7 i8 i9 = (g_296 n dp e 1 I L i1 i2 i3 i4 i5 (i6 + Int32.ofInt (1)) 0 0 0) := by rw [g_296.eq_2, if_neg (show ¬ ((6 : Nat) = 0) by decide), if_neg (show ¬ ((6 : Nat) = 1) by decide), if_neg (show ¬ ((6 : Nat) = 2) by decide), if_neg (show ¬ ((6 : Nat) = 3) by decide), if_neg (show ¬ ((6 : Nat) = 4) by decide), if_neg (show ¬ ((6 : Nat) = 5) by decide), if_pos (show (6 : Nat) = 6 from rfl)]
set_option maxHeartbeats 8000000 in
set_option maxRecDepth 100000 in
theorem w_296 (X : GX) {z : Nat} {kd : Nat → Nat × Nat} {Rf : Nat → Nat → Option Nat} (hS : Sh z kd Rf) : ∀ (n dp d : Nat), dp ≤ d → ∀ (I : (Nat → Nat → Int32)) (L : (Nat → Nat → Int64)) (i1 : Int32) (i2 : Int32) (i3 : Int32) (i4 : Int32) (i5 : Int32) (i6 : Int32) (i7 : Int32) (i8 : Int32) (i9 : Int32) (r : Int32) (I1 : (Nat → Nat → Int32)) (L1 : (Nat → Nat → Int64)), (g_296 n dp (z, kd, Rf) 0 I L i1 i2 i3 i4 i5 i6 i7 i8 i9 = some (r, I1, L1) → K X d 296 0 0 (AI (fun x τ => x = r ∧ τ = (z, kd, I1, L1, Rf))) 0 [some (.ref 105), some (.int i1), some (.int i2), some (.int i3), some (.int i4), none, none, none, none, none] [] (z, kd, I, L, Rf) 0 0) ∧
    (g_296 n dp (z, kd, Rf) 1 I L i1 i2 i3 i4 i5 i6 i7 i8 i9 = some (r, I1, L1) → K X d 296 0 0 (AI (fun x τ => x = r ∧ τ = (z, kd, I1, L1, Rf))) 66 [some (.ref 105), some (.int i1), some (.int i2), some (.int i3), some (.int i4), some (.int i5), some (.int i6), none, none, none] [] (z, kd, I, L, Rf) 0 0) ∧
    (g_296 n dp (z, kd, Rf) 2 I L i1 i2 i3 i4 i5 i6 i7 i8 i9 = some (r, I1, L1) → K X d 296 0 0 (AI (fun x τ => x = r ∧ τ = (z, kd, I1, L1, Rf))) 86 [some (.ref 105), some (.int i1), some (.int i2), some (.int i3), some (.int i4), some (.int i5), some (.int i6), some (.int i7), some (.int i8), none] [] (z, kd, I, L, Rf) 0 0) ∧
    (g_296 n dp (z, kd, Rf) 3 I L i1 i2 i3 i4 i5 i6 i7 i8 i9 = some (r, I1, L1) → K X d 296 0 0 (AI (fun x τ => x = r ∧ τ = (z, kd, I1, L1, Rf))) 128 [some (.ref 105), some (.int i1), some (.int i2), some (.int i3), some (.int i4), some (.int i5), some (.int i6), some (.int i7), some (.int i8), none] [] (z, kd, I, L, Rf) 0 0) ∧
    (g_296 n dp (z, kd, Rf) 4 I L i1 i2 i3 i4 i5 i6 i7 i8 i9 = some (r, I1, L1) → K X d 296 0 0 (AI (fun x τ => x = r ∧ τ = (z, kd, I1, L1, Rf))) 159 [some (.ref 105), some (.int i1), some (.int i2), some (.int i3), some (.int i4), some (.int i5), some (.int i6), some (.int i7), some (.int i8), some (.int i9)] [] (z, kd, I, L, Rf) 0 0) ∧
    (g_296 n dp (z, kd, Rf) 5 I L i1 i2 i3 i4 i5 i6 i7 i8 i9 = some (r, I1, L1) → K X d 296 0 0 (AI (fun x τ => x = r ∧ τ = (z, kd, I1, L1, Rf))) 164 [some (.ref 105), some (.int i1), some (.int i2), some (.int i3), some (.int i4), some (.int i5), some (.int i6), some (.int i7), some (.int i8), some (.int i9)] [] (z, kd, I, L, Rf) 0 0) ∧
    (g_296 n dp (z, kd, Rf) 6 I L i1 i2 i3 i4 i5 i6 i7 i8 i9 = some (r, I1, L1) → K X d 296 0 0 (AI (fun x τ => x = r ∧ τ = (z, kd, I1, L1, Rf))) 206 [some (.ref 105), some (.int i1), some (.int i2), some (.int i3), some (.int i4), some (.int i5), some (.int i6), some (.int i7), some (.int i8), none] [] (z, kd, I, L, Rf) 0 0) := by
  intro n
  induction n with
  | zero => intro dp d hdp I L i1 i2 i3 i4 i5 i6 i7 i8 i9 r I1 L1; exact ⟨(fun h => by cases h), (fun h => by cases h), (fun h => by cases h), (fun h => by cases h), (fun h => by cases h), (fun h => by cases h), (fun h => by cases h)⟩
  | succ n ih =>
    intro dp d hdp I L i1 i2 i3 i4 i5 i6 i7 i8 i9 r I1 L1
    refine ⟨?_, ?_, ?_, ?_, ?_, ?_, ?_⟩
    · intro h
      rw [e_296_0] at h
      refine K_of b_296_0 h_296_0 ?_
      refine q_aload rfl ?_
      refine q_iconst (0) (by decide) ?_
      refine q_putI (c0 := 12) (j := 0) rfl rfl (zl hS 105 (by decide)) (sk hS 105 (by decide) rfl) rfl ?_
      obtain ⟨I_2, nI_2, h⟩ := stI_some h
      refine q_nI nI_2 ?_
      refine q_iload rfl ?_
      refine q_i2l ?_
      refine q_lconst (1) (by decide) ?_
      refine q_lconst (16) (by decide) ?_
      obtain ⟨d_11, h⟩ := ite_some h
      obtain ⟨⟨x0_11, I0_11, L0_11⟩, e_11, h⟩ := Option.bind_eq_some_iff.mp h
      dsimp only at h
      refine q_fs3I (a_193 X hS (d := d - 1) (by omega) e_11) (by omega) (Nat.le_refl _) (Nat.le_refl _) rfl (Nat.le_of_ble_eq_true rfl) ?_
      refine q_if_eq (fun c_14 => ?_) (fun c_14 => ?_)
      · rw [if_pos c_14] at h
        refine K_of b_296_54 h_296_54 ?_
        refine q_aload rfl ?_
        refine q_iconst (-1) (by decide) ?_
        obtain ⟨d_56, h⟩ := ite_some h
        obtain ⟨⟨x1_56, I1_56, L1_56⟩, e_56, h⟩ := Option.bind_eq_some_iff.mp h
        dsimp only at h
        refine q_fv2I (a_194 X hS (d := d - 1) (by omega) e_56) (by omega) (Nat.le_refl _) (Nat.le_refl _) rfl (Nat.le_of_ble_eq_true rfl) ⟨(zl hS 105 (by decide)), congrArg Prod.fst (sk hS 105 (by decide) rfl), by decide⟩ ?_
        cases h
        exact q_iret rfl (Nat.le_refl _) (Nat.le_refl _) ⟨rfl, rfl⟩
      · rw [if_neg c_14] at h
        refine q_iload rfl ?_
        refine q_i2l ?_
        refine q_lconst (0) (by decide) ?_
        refine q_lconst (99) (by decide) ?_
        obtain ⟨d_23, h⟩ := ite_some h
        obtain ⟨⟨x1_23, I1_23, L1_23⟩, e_23, h⟩ := Option.bind_eq_some_iff.mp h
        dsimp only at h
        refine q_fs3I (a_193 X hS (d := d - 1) (by omega) e_23) (by omega) (Nat.le_refl _) (Nat.le_refl _) rfl (Nat.le_of_ble_eq_true rfl) ?_
        refine q_if_eq (fun c_26 => ?_) (fun c_26 => ?_)
        · rw [if_pos c_26] at h
          refine K_of b_296_54 h_296_54 ?_
          refine q_aload rfl ?_
          refine q_iconst (-1) (by decide) ?_
          obtain ⟨d_56, h⟩ := ite_some h
          obtain ⟨⟨x2_56, I2_56, L2_56⟩, e_56, h⟩ := Option.bind_eq_some_iff.mp h
          dsimp only at h
          refine q_fv2I (a_194 X hS (d := d - 1) (by omega) e_56) (by omega) (Nat.le_refl _) (Nat.le_refl _) rfl (Nat.le_of_ble_eq_true rfl) ⟨(zl hS 105 (by decide)), congrArg Prod.fst (sk hS 105 (by decide) rfl), by decide⟩ ?_
          cases h
          exact q_iret rfl (Nat.le_refl _) (Nat.le_refl _) ⟨rfl, rfl⟩
        · rw [if_neg c_26] at h
          refine q_iload rfl ?_
          refine q_i2l ?_
          refine q_lconst (0) (by decide) ?_
          refine q_lconst (99) (by decide) ?_
          obtain ⟨d_35, h⟩ := ite_some h
          obtain ⟨⟨x2_35, I2_35, L2_35⟩, e_35, h⟩ := Option.bind_eq_some_iff.mp h
          dsimp only at h
          refine q_fs3I (a_193 X hS (d := d - 1) (by omega) e_35) (by omega) (Nat.le_refl _) (Nat.le_refl _) rfl (Nat.le_of_ble_eq_true rfl) ?_
          refine q_if_eq (fun c_38 => ?_) (fun c_38 => ?_)
          · rw [if_pos c_38] at h
            refine K_of b_296_54 h_296_54 ?_
            refine q_aload rfl ?_
            refine q_iconst (-1) (by decide) ?_
            obtain ⟨d_56, h⟩ := ite_some h
            obtain ⟨⟨x3_56, I3_56, L3_56⟩, e_56, h⟩ := Option.bind_eq_some_iff.mp h
            dsimp only at h
            refine q_fv2I (a_194 X hS (d := d - 1) (by omega) e_56) (by omega) (Nat.le_refl _) (Nat.le_refl _) rfl (Nat.le_of_ble_eq_true rfl) ⟨(zl hS 105 (by decide)), congrArg Prod.fst (sk hS 105 (by decide) rfl), by decide⟩ ?_
            cases h
            exact q_iret rfl (Nat.le_refl _) (Nat.le_refl _) ⟨rfl, rfl⟩
          · rw [if_neg c_38] at h
            refine q_iload rfl ?_
            refine q_i2l ?_
            refine q_lconst (0) (by decide) ?_
            refine q_lconst (99) (by decide) ?_
            obtain ⟨d_48, h⟩ := ite_some h
            obtain ⟨⟨x3_48, I3_48, L3_48⟩, e_48, h⟩ := Option.bind_eq_some_iff.mp h
            dsimp only at h
            refine q_fs3I (a_193 X hS (d := d - 1) (by omega) e_48) (by omega) (Nat.le_refl _) (Nat.le_refl _) rfl (Nat.le_of_ble_eq_true rfl) ?_
            refine q_if_ne (fun c_51 => ?_) (fun c_51 => ?_)
            · rw [if_neg c_51] at h
              refine K_of b_296_60 h_296_60 ?_
              refine q_iconst (0) (by decide) ?_
              refine q_istore (ls1 := [some (.ref 105), some (.int i1), some (.int i2), some (.int i3), some (.int i4), some (.int (0 : Int32)), none, none, none, none]) (Nat.le_of_ble_eq_true rfl) rfl ?_
              refine q_iconst (0) (by decide) ?_
              refine q_istore (ls1 := [some (.ref 105), some (.int i1), some (.int i2), some (.int i3), some (.int i4), some (.int (0 : Int32)), some (.int (0 : Int32)), none, none, none]) (Nat.le_of_ble_eq_true rfl) rfl ?_
              refine q_end ?_
              exact (ih dp d hdp _ _ i1 i2 i3 i4 (0 : Int32) (0 : Int32) 0 0 0 _ _ _).2.1 h
            · rw [if_pos c_51] at h
              refine q_end ?_
              refine K_of b_296_54 h_296_54 ?_
              refine q_aload rfl ?_
              refine q_iconst (-1) (by decide) ?_
              obtain ⟨d_56, h⟩ := ite_some h
              obtain ⟨⟨x4_56, I4_56, L4_56⟩, e_56, h⟩ := Option.bind_eq_some_iff.mp h
              dsimp only at h
              refine q_fv2I (a_194 X hS (d := d - 1) (by omega) e_56) (by omega) (Nat.le_refl _) (Nat.le_refl _) rfl (Nat.le_of_ble_eq_true rfl) ⟨(zl hS 105 (by decide)), congrArg Prod.fst (sk hS 105 (by decide) rfl), by decide⟩ ?_
              cases h
              exact q_iret rfl (Nat.le_refl _) (Nat.le_refl _) ⟨rfl, rfl⟩
    · intro h
      rw [e_296_1] at h
      refine K_of b_296_66 h_296_66 ?_
      refine q_iload rfl ?_
      refine q_iload rfl ?_
      refine q_icmp_ge (fun c_69 => ?_) (fun c_69 => ?_)
      · rw [if_pos c_69] at h
        refine K_of b_296_212 h_296_212 ?_
        refine q_aload rfl ?_
        refine q_iload rfl ?_
        obtain ⟨d_215, h⟩ := ite_some h
        obtain ⟨⟨x0_215, I0_215, L0_215⟩, e_215, h⟩ := Option.bind_eq_some_iff.mp h
        dsimp only at h
        refine q_fv2I (a_194 X hS (d := d - 1) (by omega) e_215) (by omega) (Nat.le_refl _) (Nat.le_refl _) rfl (Nat.le_of_ble_eq_true rfl) ⟨(zl hS 105 (by decide)), congrArg Prod.fst (sk hS 105 (by decide) rfl), by decide⟩ ?_
        cases h
        exact q_iret rfl (Nat.le_refl _) (Nat.le_refl _) ⟨rfl, rfl⟩
      · rw [if_neg c_69] at h
        refine q_iconst (-1) (by decide) ?_
        refine q_istore (ls1 := [some (.ref 105), some (.int i1), some (.int i2), some (.int i3), some (.int i4), some (.int i5), some (.int i6), some (.int (-1 : Int32)), none, none]) (Nat.le_of_ble_eq_true rfl) rfl ?_
        refine q_aload rfl ?_
        refine q_getRs (c0 := 12) (j := 3) rfl rfl (zl hS 105 (by decide)) (sk hS 105 (by decide) rfl) rfl (by decide) (r_105_3 hS) ?_
        refine q_iconst (6) (by decide) ?_
        refine q_ialN (6) rfl (zl hS 107 (by decide)) (sk hS 107 (by decide) rfl) (by decide) (by decide) ?_
        refine q_iconst (1) (by decide) ?_
        refine q_isub ?_
        obtain ⟨v_84, nv_84, h⟩ := stI_some h
        refine q_eqi nv_84.symm ?_
        refine q_istore (ls1 := [some (.ref 105), some (.int i1), some (.int i2), some (.int i3), some (.int i4), some (.int i5), some (.int i6), some (.int (-1 : Int32)), some (.int v_84), none]) (Nat.le_of_ble_eq_true rfl) rfl ?_
        refine q_end ?_
        exact (ih dp d hdp _ _ i1 i2 i3 i4 i5 i6 (-1 : Int32) v_84 0 _ _ _).2.2.1 h
    · intro h
      rw [e_296_2] at h
      refine K_of b_296_86 h_296_86 ?_
      refine q_iload rfl ?_
      refine q_if_lt (fun c_88 => ?_) (fun c_88 => ?_)
      · rw [if_pos c_88] at h
        refine K_of b_296_174 h_296_174 ?_
        refine q_iload rfl ?_
        refine q_iconst (-1) (by decide) ?_
        refine q_icmp_eq (fun c_177 => ?_) (fun c_177 => ?_)
        · rw [if_pos c_177] at h
          exact (ih dp d hdp _ _ i1 i2 i3 i4 i5 i6 i7 i8 0 _ _ _).2.2.2.2.2.2 h
        · rw [if_neg c_177] at h
          refine q_aload rfl ?_
          refine q_getRs (c0 := 12) (j := 3) rfl rfl (zl hS 105 (by decide)) (sk hS 105 (by decide) rfl) rfl (by decide) (r_105_3 hS) ?_
          refine q_iconst (90) (by decide) ?_
          refine q_iconst (7) (by decide) ?_
          refine q_iload rfl ?_
          refine q_imul ?_
          refine q_iadd ?_
          refine q_iconst (6) (by decide) ?_
          refine q_iadd ?_
          refine q_iconst (0) (by decide) ?_
          obtain ⟨⟨u_196, v_196⟩, h⟩ := ite_some h
          refine q_iasN (Int32.toNatClampNeg (((90 : Int32) + ((7 : Int32) * i7)) + (6 : Int32))) (nx u_196) (zl hS 107 (by decide)) (sk hS 107 (by decide) rfl) v_196 (by decide) ?_
          obtain ⟨I_196, nI_196, h⟩ := stI_some h
          refine q_nI nI_196 ?_
          refine q_iload rfl ?_
          refine q_iconst (1) (by decide) ?_
          refine q_iload rfl ?_
          refine q_ishl ?_
          refine q_ior ?_
          obtain ⟨v_204, nv_204, h⟩ := stI_some h
          refine q_eqi nv_204.symm ?_
          refine q_istore (ls1 := [some (.ref 105), some (.int i1), some (.int i2), some (.int i3), some (.int i4), some (.int v_204), some (.int i6), some (.int i7), some (.int i8), none]) (Nat.le_of_ble_eq_true rfl) rfl ?_
          refine q_end ?_
          exact (ih dp d hdp _ _ i1 i2 i3 i4 v_204 i6 i7 i8 0 _ _ _).2.2.2.2.2.2 h
      · rw [if_neg c_88] at h
        refine q_aload rfl ?_
        refine q_iload rfl ?_
        refine q_iconst (6) (by decide) ?_
        obtain ⟨d_96, h⟩ := ite_some h
        obtain ⟨⟨x0_96, I0_96, L0_96⟩, e_96, h⟩ := Option.bind_eq_some_iff.mp h
        dsimp only at h
        refine q_fv3I (a_292 X hS (d := d - 1) (by omega) e_96) (by omega) (Nat.le_refl _) (Nat.le_refl _) rfl (Nat.le_of_ble_eq_true rfl) ⟨(zl hS 105 (by decide)), congrArg Prod.fst (sk hS 105 (by decide) rfl), by decide⟩ ?_
        refine q_iconst (1) (by decide) ?_
        refine q_icmp_ne (fun c_100 => ?_) (fun c_100 => ?_)
        · rw [if_neg c_100] at h
          exact (ih dp d hdp _ _ i1 i2 i3 i4 i5 i6 i7 i8 0 _ _ _).2.2.2.1 h
        · rw [if_pos c_100] at h
          refine q_iload rfl ?_
          refine q_aload rfl ?_
          refine q_iload rfl ?_
          refine q_iconst (2) (by decide) ?_
          obtain ⟨d_108, h⟩ := ite_some h
          obtain ⟨⟨x1_108, I1_108, L1_108⟩, e_108, h⟩ := Option.bind_eq_some_iff.mp h
          dsimp only at h
          refine q_fv3I (a_292 X hS (d := d - 1) (by omega) e_108) (by omega) (Nat.le_refl _) (Nat.le_refl _) rfl (Nat.le_of_ble_eq_true rfl) ⟨(zl hS 105 (by decide)), congrArg Prod.fst (sk hS 105 (by decide) rfl), by decide⟩ ?_
          refine q_isub ?_
          refine q_i2l ?_
          refine q_iload rfl ?_
          refine q_i2l ?_
          refine q_iload rfl ?_
          refine q_i2l ?_
          obtain ⟨d_118, h⟩ := ite_some h
          obtain ⟨⟨x2_118, I2_118, L2_118⟩, e_118, h⟩ := Option.bind_eq_some_iff.mp h
          dsimp only at h
          refine q_fs3I (a_193 X hS (d := d - 1) (by omega) e_118) (by omega) (Nat.le_refl _) (Nat.le_refl _) rfl (Nat.le_of_ble_eq_true rfl) ?_
          refine q_if_eq (fun c_121 => ?_) (fun c_121 => ?_)
          · rw [if_pos c_121] at h
            exact (ih dp d hdp _ _ i1 i2 i3 i4 i5 i6 i7 i8 0 _ _ _).2.2.2.1 h
          · rw [if_neg c_121] at h
            refine q_iconst (1) (by decide) ?_
            refine q_goto ?_
            refine K_of b_296_129 h_296_129 ?_
            refine q_istore (ls1 := [some (.ref 105), some (.int i1), some (.int i2), some (.int i3), some (.int i4), some (.int i5), some (.int i6), some (.int i7), some (.int i8), some (.int (1 : Int32))]) (Nat.le_of_ble_eq_true rfl) rfl ?_
            refine q_iload rfl ?_
            refine q_if_eq (fun c_133 => ?_) (fun c_133 => ?_)
            · rw [if_pos c_133] at h
              exact (ih dp d hdp _ _ i1 i2 i3 i4 i5 i6 i7 i8 (1 : Int32) _ _ _).2.2.2.2.2.1 h
            · rw [if_neg c_133] at h
              refine q_iload rfl ?_
              refine q_iconst (-1) (by decide) ?_
              refine q_icmp_eq (fun c_139 => ?_) (fun c_139 => ?_)
              · rw [if_pos c_139] at h
                exact (ih dp d hdp _ _ i1 i2 i3 i4 i5 i6 i7 i8 (1 : Int32) _ _ _).2.2.2.2.1 h
              · rw [if_neg c_139] at h
                refine q_aload rfl ?_
                refine q_iload rfl ?_
                refine q_iconst (2) (by decide) ?_
                obtain ⟨d_146, h⟩ := ite_some h
                obtain ⟨⟨x3_146, I3_146, L3_146⟩, e_146, h⟩ := Option.bind_eq_some_iff.mp h
                dsimp only at h
                refine q_fv3I (a_292 X hS (d := d - 1) (by omega) e_146) (by omega) (Nat.le_refl _) (Nat.le_refl _) rfl (Nat.le_of_ble_eq_true rfl) ⟨(zl hS 105 (by decide)), congrArg Prod.fst (sk hS 105 (by decide) rfl), by decide⟩ ?_
                refine q_aload rfl ?_
                refine q_iload rfl ?_
                refine q_iconst (2) (by decide) ?_
                obtain ⟨d_153, h⟩ := ite_some h
                obtain ⟨⟨x4_153, I4_153, L4_153⟩, e_153, h⟩ := Option.bind_eq_some_iff.mp h
                dsimp only at h
                refine q_fv3I (a_292 X hS (d := d - 1) (by omega) e_153) (by omega) (Nat.le_refl _) (Nat.le_refl _) rfl (Nat.le_of_ble_eq_true rfl) ⟨(zl hS 105 (by decide)), congrArg Prod.fst (sk hS 105 (by decide) rfl), by decide⟩ ?_
                refine q_icmp_gt (fun c_156 => ?_) (fun c_156 => ?_)
                · rw [if_pos c_156] at h
                  exact (ih dp d hdp _ _ i1 i2 i3 i4 i5 i6 i7 i8 (1 : Int32) _ _ _).2.2.2.2.2.1 h
                · rw [if_neg c_156] at h
                  refine q_end ?_
                  exact (ih dp d hdp _ _ i1 i2 i3 i4 i5 i6 i7 i8 (1 : Int32) _ _ _).2.2.2.2.1 h
    · intro h
      rw [e_296_3] at h
      refine K_of b_296_128 h_296_128 ?_
      refine q_iconst (0) (by decide) ?_
      refine q_end ?_
      refine K_of b_296_129 h_296_129 ?_
      refine q_istore (ls1 := [some (.ref 105), some (.int i1), some (.int i2), some (.int i3), some (.int i4), some (.int i5), some (.int i6), some (.int i7), some (.int i8), some (.int (0 : Int32))]) (Nat.le_of_ble_eq_true rfl) rfl ?_
      refine q_iload rfl ?_
      refine q_if_eq (fun c_133 => ?_) (fun c_133 => ?_)
      · rw [if_pos c_133] at h
        exact (ih dp d hdp _ _ i1 i2 i3 i4 i5 i6 i7 i8 (0 : Int32) _ _ _).2.2.2.2.2.1 h
      · rw [if_neg c_133] at h
        refine q_iload rfl ?_
        refine q_iconst (-1) (by decide) ?_
        refine q_icmp_eq (fun c_139 => ?_) (fun c_139 => ?_)
        · rw [if_pos c_139] at h
          exact (ih dp d hdp _ _ i1 i2 i3 i4 i5 i6 i7 i8 (0 : Int32) _ _ _).2.2.2.2.1 h
        · rw [if_neg c_139] at h
          refine q_aload rfl ?_
          refine q_iload rfl ?_
          refine q_iconst (2) (by decide) ?_
          obtain ⟨d_146, h⟩ := ite_some h
          obtain ⟨⟨x0_146, I0_146, L0_146⟩, e_146, h⟩ := Option.bind_eq_some_iff.mp h
          dsimp only at h
          refine q_fv3I (a_292 X hS (d := d - 1) (by omega) e_146) (by omega) (Nat.le_refl _) (Nat.le_refl _) rfl (Nat.le_of_ble_eq_true rfl) ⟨(zl hS 105 (by decide)), congrArg Prod.fst (sk hS 105 (by decide) rfl), by decide⟩ ?_
          refine q_aload rfl ?_
          refine q_iload rfl ?_
          refine q_iconst (2) (by decide) ?_
          obtain ⟨d_153, h⟩ := ite_some h
          obtain ⟨⟨x1_153, I1_153, L1_153⟩, e_153, h⟩ := Option.bind_eq_some_iff.mp h
          dsimp only at h
          refine q_fv3I (a_292 X hS (d := d - 1) (by omega) e_153) (by omega) (Nat.le_refl _) (Nat.le_refl _) rfl (Nat.le_of_ble_eq_true rfl) ⟨(zl hS 105 (by decide)), congrArg Prod.fst (sk hS 105 (by decide) rfl), by decide⟩ ?_
          refine q_icmp_gt (fun c_156 => ?_) (fun c_156 => ?_)
          · rw [if_pos c_156] at h
            exact (ih dp d hdp _ _ i1 i2 i3 i4 i5 i6 i7 i8 (0 : Int32) _ _ _).2.2.2.2.2.1 h
          · rw [if_neg c_156] at h
            refine q_end ?_
            exact (ih dp d hdp _ _ i1 i2 i3 i4 i5 i6 i7 i8 (0 : Int32) _ _ _).2.2.2.2.1 h
    · intro h
      rw [e_296_4] at h
      refine K_of b_296_159 h_296_159 ?_
      refine q_iload rfl ?_
      refine q_goto ?_
      refine K_of b_296_166 h_296_166 ?_
      refine q_istore (ls1 := [some (.ref 105), some (.int i1), some (.int i2), some (.int i3), some (.int i4), some (.int i5), some (.int i6), some (.int i8), some (.int i8), some (.int i9)]) (Nat.le_of_ble_eq_true rfl) rfl ?_
      refine q_iinc (ls1 := [some (.ref 105), some (.int i1), some (.int i2), some (.int i3), some (.int i4), some (.int i5), some (.int i6), some (.int i8), some (.int (i8 + Int32.ofInt (-1))), some (.int i9)]) rfl rfl ?_
      refine q_goto ?_
      refine K_mask [true, true, true, true, true, true, true, true, true, false] (Nat.le_of_ble_eq_true rfl) ?_
      exact (ih dp d hdp _ _ i1 i2 i3 i4 i5 i6 i8 (i8 + Int32.ofInt (-1)) 0 _ _ _).2.2.1 h
    · intro h
      rw [e_296_5] at h
      refine K_of b_296_164 h_296_164 ?_
      refine q_iload rfl ?_
      refine q_end ?_
      refine K_of b_296_166 h_296_166 ?_
      refine q_istore (ls1 := [some (.ref 105), some (.int i1), some (.int i2), some (.int i3), some (.int i4), some (.int i5), some (.int i6), some (.int i7), some (.int i8), some (.int i9)]) (Nat.le_of_ble_eq_true rfl) rfl ?_
      refine q_iinc (ls1 := [some (.ref 105), some (.int i1), some (.int i2), some (.int i3), some (.int i4), some (.int i5), some (.int i6), some (.int i7), some (.int (i8 + Int32.ofInt (-1))), some (.int i9)]) rfl rfl ?_
      refine q_goto ?_
      refine K_mask [true, true, true, true, true, true, true, true, true, false] (Nat.le_of_ble_eq_true rfl) ?_
      exact (ih dp d hdp _ _ i1 i2 i3 i4 i5 i6 i7 (i8 + Int32.ofInt (-1)) 0 _ _ _).2.2.1 h
    · intro h
      rw [e_296_6] at h
      refine K_of b_296_206 h_296_206 ?_
      refine q_iinc (ls1 := [some (.ref 105), some (.int i1), some (.int i2), some (.int i3), some (.int i4), some (.int i5), some (.int (i6 + Int32.ofInt (1))), some (.int i7), some (.int i8), none]) rfl rfl ?_
      refine q_goto ?_
      refine K_mask [true, true, true, true, true, true, true, false, false, false] (Nat.le_of_ble_eq_true rfl) ?_
      exact (ih dp d hdp _ _ i1 i2 i3 i4 i5 (i6 + Int32.ofInt (1)) 0 0 0 _ _ _).2.1 h
theorem a_296 (X : GX) {z : Nat} {kd : Nat → Nat × Nat} {Rf : Nat → Nat → Option Nat} (hS : Sh z kd Rf) {n dp d : Nat} (hd : dp ≤ d) {I : (Nat → Nat → Int32)} {L : (Nat → Nat → Int64)} {i1 : Int32} {i2 : Int32} {i3 : Int32} {i4 : Int32} {I1 : (Nat → Nat → Int32)} {L1 : (Nat → Nat → Int64)} {r : Int32} (h : g_296 n dp (z, kd, Rf) 0 I L i1 i2 i3 i4 0 0 0 0 0 = some (r, I1, L1)) : Ct X d 296 0 0 [.ref 105, .int i1, .int i2, .int i3, .int i4] (z, kd, I, L, Rf) (AI (fun x τ => x = r ∧ τ = (z, kd, I1, L1, Rf))) :=
  Ct_of mu_296 (Nat.le_of_ble_eq_true rfl) ((w_296 X hS n dp d hd I L i1 i2 i3 i4 0 0 0 0 0 _ _ _).1 h)

