/-! 96 CutFloor$Offers.load(LCutFloor$Hall;[LCutFloor$Cuttings;)V -/
def g_96 : Nat → Nat → EN → Nat → (Nat → Nat → Int32) → (Nat → Nat → Int64) → Int32 →  Option ((Nat → Nat → Int32) × (Nat → Nat → Int64))
  | 0, _, _, _, _, _, _ => none
  | n + 1, dp, e, lab, I, L, i3 =>
    if lab = 0 then (if 1 ≤ dp then (g_97 n (dp - 1) e 0 I L 0 0 0).bind (fun ⟨I0_2, L0_2⟩ => (if 1 ≤ dp then (g_98 n (dp - 1) e 0 I0_2 L0_2 (0 : Int32) (1 : Int32) 0 0 0 0 0 0 0 38 41).bind (fun ⟨I1_16, L1_16⟩ => (if 1 ≤ dp then (g_98 n (dp - 1) e 0 I1_16 L1_16 (2 : Int32) (3 : Int32) 0 0 0 0 0 0 0 39 42).bind (fun ⟨I2_30, L2_30⟩ => (if 1 ≤ dp then (g_98 n (dp - 1) e 0 I2_30 L2_30 (4 : Int32) (-1 : Int32) 0 0 0 0 0 0 0 40 43).bind (fun ⟨I3_44, L3_44⟩ => (g_96 n dp e 1 I3_44 L3_44 (0 : Int32))) else none)) else none)) else none)) else none)
    else if lab = 1 then (if (3 : Int32) ≤ i3 then (some (I, L)) else (if 0 ≤ i3 ∧ (Int32.toNatClampNeg i3) < 3 then (stI (u2 I 32 (Int32.toNatClampNeg i3) (0 : Int32)) (fun I_60 => (if 0 ≤ i3 ∧ (Int32.toNatClampNeg i3) < 3 then (stI (u2 I_60 33 (Int32.toNatClampNeg i3) (0 : Int32)) (fun I_67 => (if 0 ≤ i3 ∧ (Int32.toNatClampNeg i3) < 3 then (e.2.2 25 (Int32.toNatClampNeg i3)).bind (fun b_70 => (if b_70 < e.1 ∧ (e.2.1 b_70).1 = 2 then (if (64 : Int32) < (I_67 b_70 4) then (g_96 n dp e 2 I_67 L i3) else (if 0 ≤ i3 ∧ (Int32.toNatClampNeg i3) < 3 then (e.2.2 25 (Int32.toNatClampNeg i3)).bind (fun b_84 => (if 1 ≤ dp then (g_99 n (dp - 1) e 0 I_67 L i3 0 0 0 0 0 0 b_84).bind (fun ⟨I0_85, L0_85⟩ => (g_96 n dp e 2 I0_85 L0_85 i3)) else none)) else none)) else none)) else none))) else none))) else none))
    else if lab = 2 then (g_96 n dp e 1 I L (i3 + Int32.ofInt (1)))
    else none
set_option maxRecDepth 100000 in
theorem e_96_0 (n dp : Nat) (e : EN) (I : (Nat → Nat → Int32)) (L : (Nat → Nat → Int64)) (i3 : Int32) : g_96 (n + 1) dp e 0 I L i3 = (if 1 ≤ dp then (g_97 n (dp - 1) e 0 I L 0 0 0).bind (fun ⟨I0_2, L0_2⟩ => (if 1 ≤ dp then (g_98 n (dp - 1) e 0 I0_2 L0_2 (0 : Int32) (1 : Int32) 0 0 0 0 0 0 0 38 41).bind (fun ⟨I1_16, L1_16⟩ => (if 1 ≤ dp then (g_98 n (dp - 1) e 0 I1_16 L1_16 (2 : Int32) (3 : Int32) 0 0 0 0 0 0 0 39 42).bind (fun ⟨I2_30, L2_30⟩ => (if 1 ≤ dp then (g_98 n (dp - 1) e 0 I2_30 L2_30 (4 : Int32) (-1 : Int32) 0 0 0 0 0 0 0 40 43).bind (fun ⟨I3_44, L3_44⟩ => (g_96 n dp e 1 I3_44 L3_44 (0 : Int32))) else none)) else none)) else none)) else none) := by rw [g_96.eq_2, if_pos (show (0 : Nat) = 0 from rfl)]
set_option maxRecDepth 100000 in
theorem e_96_1 (n dp : Nat) (e : EN) (I : (Nat → Nat → Int32)) (L : (Nat → Nat → Int64)) (i3 : Int32) : g_96 (n + 1) dp e 1 I L i3 = (if (3 : Int32) ≤ i3 then (some (I, L)) else (if 0 ≤ i3 ∧ (Int32.toNatClampNeg i3) < 3 then (stI (u2 I 32 (Int32.toNatClampNeg i3) (0 : Int32)) (fun I_60 => (if 0 ≤ i3 ∧ (Int32.toNatClampNeg i3) < 3 then (stI (u2 I_60 33 (Int32.toNatClampNeg i3) (0 : Int32)) (fun I_67 => (if 0 ≤ i3 ∧ (Int32.toNatClampNeg i3) < 3 then (e.2.2 25 (Int32.toNatClampNeg i3)).bind (fun b_70 => (if b_70 < e.1 ∧ (e.2.1 b_70).1 = 2 then (if (64 : Int32) < (I_67 b_70 4) then (g_96 n dp e 2 I_67 L i3) else (if 0 ≤ i3 ∧ (Int32.toNatClampNeg i3) < 3 then (e.2.2 25 (Int32.toNatClampNeg i3)).bind (fun b_84 => (if 1 ≤ dp then (g_99 n (dp - 1) e 0 I_67 L i3 0 0 0 0 0 0 b_84).bind (fun ⟨I0_85, L0_85⟩ => (g_96 n dp e 2 I0_85 L0_85 i3)) else none)) else none)) else none)) else none))) else none))) else none)) := by rw [g_96.eq_2, if_neg (show ¬ ((1 : Nat) = 0) by decide), if_pos (show (1 : Nat) = 1 from rfl)]
set_option maxRecDepth 100000 in
theorem e_96_2 (n dp : Nat) (e : EN) (I : (Nat → Nat → Int32)) (L : (Nat → Nat → Int64)) (i3 : Int32) : g_96 (n + 1) dp e 2 I L i3 = (g_96 n dp e 1 I L (i3 + Int32.ofInt (1))) := by rw [g_96.eq_2, if_neg (show ¬ ((2 : Nat) = 0) by decide), if_neg (show ¬ ((2 : Nat) = 1) by decide), if_pos (show (2 : Nat) = 2 from rfl)]
set_option maxHeartbeats 8000000 in
set_option maxRecDepth 100000 in
theorem w_96 (X : GX) {z : Nat} {kd : Nat → Nat × Nat} {Rf : Nat → Nat → Option Nat} (hS : Sh z kd Rf) : ∀ (n dp d : Nat), dp ≤ d → ∀ (I : (Nat → Nat → Int32)) (L : (Nat → Nat → Int64)) (i3 : Int32) (I1 : (Nat → Nat → Int32)) (L1 : (Nat → Nat → Int64)), (g_96 n dp (z, kd, Rf) 0 I L i3 = some (I1, L1) → K X d 96 0 0 (AV (fun τ => τ = (z, kd, I1, L1, Rf))) 0 [some (.ref 26), some (.ref 1), some (.ref 25), none] [] (z, kd, I, L, Rf) 0 0) ∧
    (g_96 n dp (z, kd, Rf) 1 I L i3 = some (I1, L1) → K X d 96 0 0 (AV (fun τ => τ = (z, kd, I1, L1, Rf))) 49 [some (.ref 26), some (.ref 1), some (.ref 25), some (.int i3)] [] (z, kd, I, L, Rf) 0 0) ∧
    (g_96 n dp (z, kd, Rf) 2 I L i3 = some (I1, L1) → K X d 96 0 0 (AV (fun τ => τ = (z, kd, I1, L1, Rf))) 88 [some (.ref 26), some (.ref 1), some (.ref 25), some (.int i3)] [] (z, kd, I, L, Rf) 0 0) := by
  intro n
  induction n with
  | zero => intro dp d hdp I L i3 I1 L1; exact ⟨(fun h => by cases h), (fun h => by cases h), (fun h => by cases h)⟩
  | succ n ih =>
    intro dp d hdp I L i3 I1 L1
    refine ⟨?_, ?_, ?_⟩
    · intro h
      rw [e_96_0] at h
      refine K_of b_96_0 h_96_0 ?_
      refine q_aload rfl ?_
      refine q_aload rfl ?_
      obtain ⟨d_2, h⟩ := ite_some h
      obtain ⟨⟨I0_2, L0_2⟩, e_2, h⟩ := Option.bind_eq_some_iff.mp h
      dsimp only at h
      refine q_fv2V (a_97 X hS (d := d - 1) (by omega) e_2) (by omega) (Nat.le_refl _) (Nat.le_refl _) rfl (Nat.le_of_ble_eq_true rfl) ⟨(zl hS 26 (by decide)), congrArg Prod.fst (sk hS 26 (by decide) rfl), by decide⟩ ?_
      refine q_aload rfl ?_
      refine q_iconst (0) (by decide) ?_
      refine q_iconst (1) (by decide) ?_
      refine q_aload rfl ?_
      refine q_getRs (c0 := 6) (j := 11) rfl rfl (zl hS 26 (by decide)) (sk hS 26 (by decide) rfl) rfl (by decide) (r_26_11 hS) ?_
      refine q_aload rfl ?_
      refine q_getRs (c0 := 6) (j := 14) rfl rfl (zl hS 26 (by decide)) (sk hS 26 (by decide) rfl) rfl (by decide) (r_26_14 hS) ?_
      obtain ⟨d_16, h⟩ := ite_some h
      obtain ⟨⟨I1_16, L1_16⟩, e_16, h⟩ := Option.bind_eq_some_iff.mp h
      dsimp only at h
      refine q_fv5V (a_98 X hS (d := d - 1) (by omega) e_16) (by omega) (Nat.le_refl _) (Nat.le_refl _) rfl (Nat.le_of_ble_eq_true rfl) ⟨(zl hS 26 (by decide)), congrArg Prod.fst (sk hS 26 (by decide) rfl), by decide⟩ ?_
      refine q_aload rfl ?_
      refine q_iconst (2) (by decide) ?_
      refine q_iconst (3) (by decide) ?_
      refine q_aload rfl ?_
      refine q_getRs (c0 := 6) (j := 12) rfl rfl (zl hS 26 (by decide)) (sk hS 26 (by decide) rfl) rfl (by decide) (r_26_12 hS) ?_
      refine q_aload rfl ?_
      refine q_getRs (c0 := 6) (j := 15) rfl rfl (zl hS 26 (by decide)) (sk hS 26 (by decide) rfl) rfl (by decide) (r_26_15 hS) ?_
      obtain ⟨d_30, h⟩ := ite_some h
      obtain ⟨⟨I2_30, L2_30⟩, e_30, h⟩ := Option.bind_eq_some_iff.mp h
      dsimp only at h
      refine q_fv5V (a_98 X hS (d := d - 1) (by omega) e_30) (by omega) (Nat.le_refl _) (Nat.le_refl _) rfl (Nat.le_of_ble_eq_true rfl) ⟨(zl hS 26 (by decide)), congrArg Prod.fst (sk hS 26 (by decide) rfl), by decide⟩ ?_
      refine q_aload rfl ?_
      refine q_iconst (4) (by decide) ?_
      refine q_iconst (-1) (by decide) ?_
      refine q_aload rfl ?_
      refine q_getRs (c0 := 6) (j := 13) rfl rfl (zl hS 26 (by decide)) (sk hS 26 (by decide) rfl) rfl (by decide) (r_26_13 hS) ?_
      refine q_aload rfl ?_
      refine q_getRs (c0 := 6) (j := 16) rfl rfl (zl hS 26 (by decide)) (sk hS 26 (by decide) rfl) rfl (by decide) (r_26_16 hS) ?_
      obtain ⟨d_44, h⟩ := ite_some h
      obtain ⟨⟨I3_44, L3_44⟩, e_44, h⟩ := Option.bind_eq_some_iff.mp h
      dsimp only at h
      refine q_fv5V (a_98 X hS (d := d - 1) (by omega) e_44) (by omega) (Nat.le_refl _) (Nat.le_refl _) rfl (Nat.le_of_ble_eq_true rfl) ⟨(zl hS 26 (by decide)), congrArg Prod.fst (sk hS 26 (by decide) rfl), by decide⟩ ?_
      refine q_iconst (0) (by decide) ?_
      refine q_istore (Nat.le_of_ble_eq_true rfl) rfl ?_
      refine q_end ?_
      exact (ih dp d hdp _ _ (0 : Int32) _ _).2.1 h
    · intro h
      rw [e_96_1] at h
      refine K_of b_96_49 h_96_49 ?_
      refine q_iload rfl ?_
      refine q_iconst (3) (by decide) ?_
      refine q_icmp_ge (fun c_51 => ?_) (fun c_51 => ?_)
      · rw [if_pos c_51] at h
        refine K_of b_96_94 h_96_94 ?_
        cases h
        exact q_vret rfl (Nat.le_refl _) (Nat.le_refl _) rfl
      · rw [if_neg c_51] at h
        refine q_aload rfl ?_
        refine q_getRs (c0 := 6) (j := 5) rfl rfl (zl hS 26 (by decide)) (sk hS 26 (by decide) rfl) rfl (by decide) (r_26_5 hS) ?_
        refine q_iload rfl ?_
        refine q_iconst (0) (by decide) ?_
        obtain ⟨⟨u_60, v_60⟩, h⟩ := ite_some h
        refine q_iasN (Int32.toNatClampNeg i3) (nx u_60) (zl hS 32 (by decide)) (sk hS 32 (by decide) rfl) v_60 (by decide) ?_
        obtain ⟨I_60, nI_60, h⟩ := stI_some h
        refine q_nI nI_60 ?_
        refine q_aload rfl ?_
        refine q_getRs (c0 := 6) (j := 6) rfl rfl (zl hS 26 (by decide)) (sk hS 26 (by decide) rfl) rfl (by decide) (r_26_6 hS) ?_
        refine q_iload rfl ?_
        refine q_iconst (0) (by decide) ?_
        obtain ⟨⟨u_67, v_67⟩, h⟩ := ite_some h
        refine q_iasN (Int32.toNatClampNeg i3) (nx u_67) (zl hS 33 (by decide)) (sk hS 33 (by decide) rfl) v_67 (by decide) ?_
        obtain ⟨I_67, nI_67, h⟩ := stI_some h
        refine q_nI nI_67 ?_
        refine q_aload rfl ?_
        refine q_iload rfl ?_
        obtain ⟨⟨u_70, v_70⟩, h⟩ := ite_some h
        obtain ⟨b_70, r_70, h⟩ := Option.bind_eq_some_iff.mp h
        refine q_aald (zl hS 25 (by decide)) (sk hS 25 (by decide) rfl) (by decide) (in_of u_70 v_70) r_70 ?_
        obtain ⟨⟨z_71, k_71⟩, h⟩ := ite_some h
        refine q_getI (c0 := 2) (j := 4) rfl rfl z_71 (fst_eq k_71) (Or.inl rfl) (by decide) ?_
        refine q_iconst (64) (by decide) ?_
        refine q_icmp_gt (fun c_76 => ?_) (fun c_76 => ?_)
        · rw [if_pos c_76] at h
          exact (ih dp d hdp _ _ i3 _ _).2.2 h
        · rw [if_neg c_76] at h
          refine q_aload rfl ?_
          refine q_aload rfl ?_
          refine q_iload rfl ?_
          refine q_aload rfl ?_
          refine q_iload rfl ?_
          obtain ⟨⟨u_84, v_84⟩, h⟩ := ite_some h
          obtain ⟨b_84, r_84, h⟩ := Option.bind_eq_some_iff.mp h
          refine q_aald (zl hS 25 (by decide)) (sk hS 25 (by decide) rfl) (by decide) (in_of u_84 v_84) r_84 ?_
          obtain ⟨d_85, h⟩ := ite_some h
          obtain ⟨⟨I0_85, L0_85⟩, e_85, h⟩ := Option.bind_eq_some_iff.mp h
          dsimp only at h
          refine q_fv4V (a_99 X hS (d := d - 1) (by omega) e_85) (by omega) (Nat.le_refl _) (Nat.le_refl _) rfl (Nat.le_of_ble_eq_true rfl) ⟨(zl hS 26 (by decide)), congrArg Prod.fst (sk hS 26 (by decide) rfl), by decide⟩ ?_
          refine q_end ?_
          exact (ih dp d hdp _ _ i3 _ _).2.2 h
    · intro h
      rw [e_96_2] at h
      refine K_of b_96_88 h_96_88 ?_
      refine q_iinc rfl rfl ?_
      refine q_goto ?_
      exact (ih dp d hdp _ _ (i3 + Int32.ofInt (1)) _ _).2.1 h
theorem a_96 (X : GX) {z : Nat} {kd : Nat → Nat × Nat} {Rf : Nat → Nat → Option Nat} (hS : Sh z kd Rf) {n dp d : Nat} (hd : dp ≤ d) {I : (Nat → Nat → Int32)} {L : (Nat → Nat → Int64)} {I1 : (Nat → Nat → Int32)} {L1 : (Nat → Nat → Int64)} (h : g_96 n dp (z, kd, Rf) 0 I L 0 = some (I1, L1)) : Ct X d 96 0 0 [.ref 26, .ref 1, .ref 25] (z, kd, I, L, Rf) (AV (fun τ => τ = (z, kd, I1, L1, Rf))) :=
  Ct_of mu_96 (Nat.le_of_ble_eq_true rfl) ((w_96 X hS n dp d hd I L 0 _ _).1 h)

