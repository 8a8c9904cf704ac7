/-! 201 CutFloorModel.weighs(III)I -/
set_option maxHeartbeats 4000000 in
set_option maxRecDepth 100000 in
def g_201 : Nat → Nat → EN → Nat → (Nat → Nat → Int32) → (Nat → Nat → Int64) → Int32 → Int32 → Int32 →  Option (Int32 × (Nat → Nat → Int32) × (Nat → Nat → Int64))
  | 0, _, _, _, _, _, _, _, _ => none
  | n + 1, dp, e, lab, I, L, i1, i2, i3 =>
    if lab = 0 then (stI (u2 I 105 0 (0 : Int32)) (fun I_2 => (if 1 ≤ dp then (g_202 n (dp - 1) e 0 I_2 L i1).bind (fun ⟨x0_6, I0_6, L0_6⟩ => (if x0_6 = 0 then (if 1 ≤ dp then (g_194 n (dp - 1) e 0 I0_6 L0_6 (-1 : Int32)).bind (fun ⟨x1_49, I1_49, L1_49⟩ => (some (x1_49, I1_49, L1_49))) else none) else (if 1 ≤ dp then (g_197 n (dp - 1) e 0 I0_6 L0_6 i2).bind (fun ⟨x1_13, I1_13, L1_13⟩ => (if x1_13 = 0 then (if 1 ≤ dp then (g_194 n (dp - 1) e 0 I1_13 L1_13 (-1 : Int32)).bind (fun ⟨x2_49, I2_49, L2_49⟩ => (some (x2_49, I2_49, L2_49))) else none) else (if 1 ≤ dp then (g_193 n (dp - 1) e 0 I1_13 L1_13 (Int32.toInt64 i3) (0 : Int64) (9999 : Int64)).bind (fun ⟨x2_25, I2_25, L2_25⟩ => (if x2_25 = 0 then (if 1 ≤ dp then (g_194 n (dp - 1) e 0 I2_25 L2_25 (-1 : Int32)).bind (fun ⟨x3_49, I3_49, L3_49⟩ => (some (x3_49, I3_49, L3_49))) else none) else (if 1 ≤ dp then (g_199 n (dp - 1) e 0 I2_25 L2_25 (((10 : Int32) + ((3 : Int32) * i1)) + i2) i3).bind (fun ⟨x3_41, I3_41, L3_41⟩ => (some (x3_41, I3_41, L3_41))) else none))) else none))) else none))) else none)))
    else none
set_option maxRecDepth 100000 in
theorem e_201_0 (n dp : Nat) (e : EN) (I : (Nat → Nat → Int32)) (L : (Nat → Nat → Int64)) (i1 : Int32) (i2 : Int32) (i3 : Int32) : g_201 (n + 1) dp e 0 I L i1 i2 i3 = (stI (u2 I 105 0 (0 : Int32)) (fun I_2 => (if 1 ≤ dp then (g_202 n (dp - 1) e 0 I_2 L i1).bind (fun ⟨x0_6, I0_6, L0_6⟩ => (if x0_6 = 0 then (if 1 ≤ dp then (g_194 n (dp - 1) e 0 I0_6 L0_6 (-1 : Int32)).bind (fun ⟨x1_49, I1_49, L1_49⟩ => (some (x1_49, I1_49, L1_49))) else none) else (if 1 ≤ dp then (g_197 n (dp - 1) e 0 I0_6 L0_6 i2).bind (fun ⟨x1_13, I1_13, L1_13⟩ => (if x1_13 = 0 then (if 1 ≤ dp then (g_194 n (dp - 1) e 0 I1_13 L1_13 (-1 : Int32)).bind (fun ⟨x2_49, I2_49, L2_49⟩ => (some (x2_49, I2_49, L2_49))) else none) else (if 1 ≤ dp then (g_193 n (dp - 1) e 0 I1_13 L1_13 (Int32.toInt64 i3) (0 : Int64) (9999 : Int64)).bind (fun ⟨x2_25, I2_25, L2_25⟩ => (if x2_25 = 0 then (if 1 ≤ dp then (g_194 n (dp - 1) e 0 I2_25 L2_25 (-1 : Int32)).bind (fun ⟨x3_49, I3_49, L3_49⟩ => (some (x3_49, I3_49, L3_49))) else none) else (if 1 ≤ dp then (g_199 n (dp - 1) e 0 I2_25 L2_25 (((10 : Int32) + ((3 : Int32) * i1)) + i2) i3).bind (fun ⟨x3_41, I3_41, L3_41⟩ => (some (x3_41, I3_41, L3_41))) else none))) else none))) else none))) else none))) := by rw [g_201.eq_2, if_pos (show (0 : Nat) = 0 from rfl)]
set_option maxHeartbeats 8000000 in
set_option maxRecDepth 100000 in
theorem w_201 (X : GX) {z : Nat} {kd : Nat → Nat × Nat} {Rf : Nat → Nat → Option Nat} (hS : Sh z kd Rf) : ∀ (n dp d : Nat), dp ≤ d → ∀ (I : (Nat → Nat → Int32)) (L : (Nat → Nat → Int64)) (i1 : Int32) (i2 : Int32) (i3 : Int32) (r : Int32) (I1 : (Nat → Nat → Int32)) (L1 : (Nat → Nat → Int64)), (g_201 n dp (z, kd, Rf) 0 I L i1 i2 i3 = some (r, I1, L1) → K X d 201 0 0 (AI (fun x τ => x = r ∧ τ = (z, kd, I1, L1, Rf))) 0 [some (.ref 105), some (.int i1), some (.int i2), some (.int i3)] [] (z, kd, I, L, Rf) 0 0) := by
  intro n
  induction n with
  | zero => intro dp d hdp I L i1 i2 i3 r I1 L1; exact fun h => by cases h
  | succ n ih =>
    intro dp d hdp I L i1 i2 i3 r I1 L1
    · intro h
      rw [e_201_0] at h
      refine K_of b_201_0 h_201_0 ?_
      refine q_aload rfl ?_
      refine q_iconst (0) (by decide) ?_
      refine q_putI (c0 := 12) (j := 0) rfl rfl (zl hS 105 (by decide)) (sk hS 105 (by decide) rfl) rfl ?_
      obtain ⟨I_2, nI_2, h⟩ := stI_some h
      refine q_nI nI_2 ?_
      refine q_iload rfl ?_
      obtain ⟨d_6, h⟩ := ite_some h
      obtain ⟨⟨x0_6, I0_6, L0_6⟩, e_6, h⟩ := Option.bind_eq_some_iff.mp h
      dsimp only at h
      refine q_fs1I (a_202 X hS (d := d - 1) (by omega) e_6) (by omega) (Nat.le_refl _) (Nat.le_refl _) rfl (Nat.le_of_ble_eq_true rfl) ?_
      refine q_if_eq (fun c_9 => ?_) (fun c_9 => ?_)
      · rw [if_pos c_9] at h
        refine K_of b_201_47 h_201_47 ?_
        refine q_aload rfl ?_
        refine q_iconst (-1) (by decide) ?_
        obtain ⟨d_49, h⟩ := ite_some h
        obtain ⟨⟨x1_49, I1_49, L1_49⟩, e_49, h⟩ := Option.bind_eq_some_iff.mp h
        dsimp only at h
        refine q_fv2I (a_194 X hS (d := d - 1) (by omega) e_49) (by omega) (Nat.le_refl _) (Nat.le_refl _) rfl (Nat.le_of_ble_eq_true rfl) ⟨(zl hS 105 (by decide)), congrArg Prod.fst (sk hS 105 (by decide) rfl), by decide⟩ ?_
        refine q_end ?_
        refine K_of b_201_52 h_201_52 ?_
        cases h
        exact q_iret rfl (Nat.le_refl _) (Nat.le_refl _) ⟨rfl, rfl⟩
      · rw [if_neg c_9] at h
        refine q_iload rfl ?_
        obtain ⟨d_13, h⟩ := ite_some h
        obtain ⟨⟨x1_13, I1_13, L1_13⟩, e_13, h⟩ := Option.bind_eq_some_iff.mp h
        dsimp only at h
        refine q_fs1I (a_197 X hS (d := d - 1) (by omega) e_13) (by omega) (Nat.le_refl _) (Nat.le_refl _) rfl (Nat.le_of_ble_eq_true rfl) ?_
        refine q_if_eq (fun c_16 => ?_) (fun c_16 => ?_)
        · rw [if_pos c_16] at h
          refine K_of b_201_47 h_201_47 ?_
          refine q_aload rfl ?_
          refine q_iconst (-1) (by decide) ?_
          obtain ⟨d_49, h⟩ := ite_some h
          obtain ⟨⟨x2_49, I2_49, L2_49⟩, e_49, h⟩ := Option.bind_eq_some_iff.mp h
          dsimp only at h
          refine q_fv2I (a_194 X hS (d := d - 1) (by omega) e_49) (by omega) (Nat.le_refl _) (Nat.le_refl _) rfl (Nat.le_of_ble_eq_true rfl) ⟨(zl hS 105 (by decide)), congrArg Prod.fst (sk hS 105 (by decide) rfl), by decide⟩ ?_
          refine q_end ?_
          refine K_of b_201_52 h_201_52 ?_
          cases h
          exact q_iret rfl (Nat.le_refl _) (Nat.le_refl _) ⟨rfl, rfl⟩
        · rw [if_neg c_16] at h
          refine q_iload rfl ?_
          refine q_i2l ?_
          refine q_lconst (0) (by decide) ?_
          refine q_lconst (9999) (by decide) ?_
          obtain ⟨d_25, h⟩ := ite_some h
          obtain ⟨⟨x2_25, I2_25, L2_25⟩, e_25, h⟩ := Option.bind_eq_some_iff.mp h
          dsimp only at h
          refine q_fs3I (a_193 X hS (d := d - 1) (by omega) e_25) (by omega) (Nat.le_refl _) (Nat.le_refl _) rfl (Nat.le_of_ble_eq_true rfl) ?_
          refine q_if_eq (fun c_28 => ?_) (fun c_28 => ?_)
          · rw [if_pos c_28] at h
            refine K_of b_201_47 h_201_47 ?_
            refine q_aload rfl ?_
            refine q_iconst (-1) (by decide) ?_
            obtain ⟨d_49, h⟩ := ite_some h
            obtain ⟨⟨x3_49, I3_49, L3_49⟩, e_49, h⟩ := Option.bind_eq_some_iff.mp h
            dsimp only at h
            refine q_fv2I (a_194 X hS (d := d - 1) (by omega) e_49) (by omega) (Nat.le_refl _) (Nat.le_refl _) rfl (Nat.le_of_ble_eq_true rfl) ⟨(zl hS 105 (by decide)), congrArg Prod.fst (sk hS 105 (by decide) rfl), by decide⟩ ?_
            refine q_end ?_
            refine K_of b_201_52 h_201_52 ?_
            cases h
            exact q_iret rfl (Nat.le_refl _) (Nat.le_refl _) ⟨rfl, rfl⟩
          · rw [if_neg c_28] at h
            refine q_aload rfl ?_
            refine q_iconst (10) (by decide) ?_
            refine q_iconst (3) (by decide) ?_
            refine q_iload rfl ?_
            refine q_imul ?_
            refine q_iadd ?_
            refine q_iload rfl ?_
            refine q_iadd ?_
            refine q_iload rfl ?_
            obtain ⟨d_41, h⟩ := ite_some h
            obtain ⟨⟨x3_41, I3_41, L3_41⟩, e_41, h⟩ := Option.bind_eq_some_iff.mp h
            dsimp only at h
            refine q_fv3I (a_199 X hS (d := d - 1) (by omega) e_41) (by omega) (Nat.le_refl _) (Nat.le_refl _) rfl (Nat.le_of_ble_eq_true rfl) ⟨(zl hS 105 (by decide)), congrArg Prod.fst (sk hS 105 (by decide) rfl), by decide⟩ ?_
            refine q_goto ?_
            refine K_of b_201_52 h_201_52 ?_
            cases h
            exact q_iret rfl (Nat.le_refl _) (Nat.le_refl _) ⟨rfl, rfl⟩
theorem a_201 (X : GX) {z : Nat} {kd : Nat → Nat × Nat} {Rf : Nat → Nat → Option Nat} (hS : Sh z kd Rf) {n dp d : Nat} (hd : dp ≤ d) {I : (Nat → Nat → Int32)} {L : (Nat → Nat → Int64)} {i1 : Int32} {i2 : Int32} {i3 : Int32} {I1 : (Nat → Nat → Int32)} {L1 : (Nat → Nat → Int64)} {r : Int32} (h : g_201 n dp (z, kd, Rf) 0 I L i1 i2 i3 = some (r, I1, L1)) : Ct X d 201 0 0 [.ref 105, .int i1, .int i2, .int i3] (z, kd, I, L, Rf) (AI (fun x τ => x = r ∧ τ = (z, kd, I1, L1, Rf))) :=
  Ct_of mu_201 (Nat.le_of_ble_eq_true rfl) ((w_201 X hS n dp d hd I L i1 i2 i3 _ _ _) h)

/-! 204 CutFloorModel.nOrders()I -/
set_option maxHeartbeats 4000000 in
set_option maxRecDepth 100000 in
def g_204 : Nat → Nat → EN → Nat → (Nat → Nat → Int32) → (Nat → Nat → Int64) → Int32 → Int32 →  Option (Int32 × (Nat → Nat → Int32) × (Nat → Nat → Int64))
  | 0, _, _, _, _, _, _, _ => none
  | n + 1, dp, e, lab, I, L, i1, i2 =>
    if lab = 0 then (g_204 n dp e 1 I L (0 : Int32) (0 : Int32))
    else if lab = 1 then (if (10 : Int32) ≤ i2 then (some (i1, I, L)) else (if 0 ≤ ((60 : Int32) + i2) ∧ (Int32.toNatClampNeg ((60 : Int32) + i2)) < 1570 then (if (I 107 (Int32.toNatClampNeg ((60 : Int32) + i2))) ≤ 0 then (g_204 n dp e 1 I L (i1 + (0 : Int32)) (i2 + Int32.ofInt (1))) else (g_204 n dp e 1 I L (i1 + (1 : Int32)) (i2 + Int32.ofInt (1)))) else none))
    else none
set_option maxRecDepth 100000 in
theorem e_204_0 (n dp : Nat) (e : EN) (I : (Nat → Nat → Int32)) (L : (Nat → Nat → Int64)) (i1 : Int32) (i2 : Int32) : g_204 (n + 1) dp e 0 I L i1 i2 = (g_204 n dp e 1 I L (0 : Int32) (0 : Int32)) := by rw [g_204.eq_2, if_pos (show (0 : Nat) = 0 from rfl)]
set_option maxRecDepth 100000 in
theorem e_204_1 (n dp : Nat) (e : EN) (I : (Nat → Nat → Int32)) (L : (Nat → Nat → Int64)) (i1 : Int32) (i2 : Int32) : g_204 (n + 1) dp e 1 I L i1 i2 = (if (10 : Int32) ≤ i2 then (some (i1, I, L)) else (if 0 ≤ ((60 : Int32) + i2) ∧ (Int32.toNatClampNeg ((60 : Int32) + i2)) < 1570 then (if (I 107 (Int32.toNatClampNeg ((60 : Int32) + i2))) ≤ 0 then (g_204 n dp e 1 I L (i1 + (0 : Int32)) (i2 + Int32.ofInt (1))) else (g_204 n dp e 1 I L (i1 + (1 : Int32)) (i2 + Int32.ofInt (1)))) else none)) := by rw [g_204.eq_2, if_neg (show ¬ ((1 : Nat) = 0) by decide), if_pos (show (1 : Nat) = 1 from rfl)]
set_option maxHeartbeats 8000000 in
set_option maxRecDepth 100000 in
theorem w_204 (X : GX) {z : Nat} {kd : Nat → Nat × Nat} {Rf : Nat → Nat → Option Nat} (hS : Sh z kd Rf) : ∀ (n dp d : Nat), dp ≤ d → ∀ (I : (Nat → Nat → Int32)) (L : (Nat → Nat → Int64)) (i1 : Int32) (i2 : Int32) (r : Int32) (I1 : (Nat → Nat → Int32)) (L1 : (Nat → Nat → Int64)), (g_204 n dp (z, kd, Rf) 0 I L i1 i2 = some (r, I1, L1) → K X d 204 0 0 (AI (fun x τ => x = r ∧ τ = (z, kd, I1, L1, Rf))) 0 [some (.ref 105), none, none] [] (z, kd, I, L, Rf) 0 0) ∧
    (g_204 n dp (z, kd, Rf) 1 I L i1 i2 = some (r, I1, L1) → K X d 204 0 0 (AI (fun x τ => x = r ∧ τ = (z, kd, I1, L1, Rf))) 4 [some (.ref 105), some (.int i1), some (.int i2)] [] (z, kd, I, L, Rf) 0 0) := by
  intro n
  induction n with
  | zero => intro dp d hdp I L i1 i2 r I1 L1; exact ⟨(fun h => by cases h), (fun h => by cases h)⟩
  | succ n ih =>
    intro dp d hdp I L i1 i2 r I1 L1
    refine ⟨?_, ?_⟩
    · intro h
      rw [e_204_0] at h
      refine K_of b_204_0 h_204_0 ?_
      refine q_iconst (0) (by decide) ?_
      refine q_istore (ls1 := [some (.ref 105), some (.int (0 : Int32)), none]) (Nat.le_of_ble_eq_true rfl) rfl ?_
      refine q_iconst (0) (by decide) ?_
      refine q_istore (ls1 := [some (.ref 105), some (.int (0 : Int32)), some (.int (0 : Int32))]) (Nat.le_of_ble_eq_true rfl) rfl ?_
      refine q_end ?_
      exact (ih dp d hdp _ _ (0 : Int32) (0 : Int32) _ _ _).2 h
    · intro h
      rw [e_204_1] at h
      refine K_of b_204_4 h_204_4 ?_
      refine q_iload rfl ?_
      refine q_iconst (10) (by decide) ?_
      refine q_icmp_ge (fun c_7 => ?_) (fun c_7 => ?_)
      · rw [if_pos c_7] at h
        refine K_of b_204_36 h_204_36 ?_
        refine q_iload rfl ?_
        cases h
        exact q_iret rfl (Nat.le_refl _) (Nat.le_refl _) ⟨rfl, rfl⟩
      · rw [if_neg c_7] at h
        refine q_iload rfl ?_
        refine q_aload rfl ?_
        refine q_getRs (c0 := 12) (j := 3) rfl rfl (zl hS 105 (by decide)) (sk hS 105 (by decide) rfl) rfl (by decide) (r_105_3 hS) ?_
        refine q_iconst (60) (by decide) ?_
        refine q_iload rfl ?_
        refine q_iadd ?_
        obtain ⟨⟨u_19, v_19⟩, h⟩ := ite_some h
        refine q_ialN (Int32.toNatClampNeg ((60 : Int32) + i2)) (nx u_19) (zl hS 107 (by decide)) (sk hS 107 (by decide) rfl) v_19 (by decide) ?_
        refine q_if_le (fun c_20 => ?_) (fun c_20 => ?_)
        · rw [if_pos c_20] at h
          refine K_of b_204_27 h_204_27 ?_
          refine q_iconst (0) (by decide) ?_
          refine q_end ?_
          refine K_of b_204_28 h_204_28 ?_
          refine q_iadd ?_
          refine q_istore (ls1 := [some (.ref 105), some (.int (i1 + (0 : Int32))), some (.int i2)]) (Nat.le_of_ble_eq_true rfl) rfl ?_
          refine q_iinc (ls1 := [some (.ref 105), some (.int (i1 + (0 : Int32))), some (.int (i2 + Int32.ofInt (1)))]) rfl rfl ?_
          refine q_goto ?_
          exact (ih dp d hdp _ _ (i1 + (0 : Int32)) (i2 + Int32.ofInt (1)) _ _ _).2 h
        · rw [if_neg c_20] at h
          refine q_iconst (1) (by decide) ?_
          refine q_goto ?_
          refine K_of b_204_28 h_204_28 ?_
          refine q_iadd ?_
          refine q_istore (ls1 := [some (.ref 105), some (.int (i1 + (1 : Int32))), some (.int i2)]) (Nat.le_of_ble_eq_true rfl) rfl ?_
          refine q_iinc (ls1 := [some (.ref 105), some (.int (i1 + (1 : Int32))), some (.int (i2 + Int32.ofInt (1)))]) rfl rfl ?_
          refine q_goto ?_
          exact (ih dp d hdp _ _ (i1 + (1 : Int32)) (i2 + Int32.ofInt (1)) _ _ _).2 h
theorem a_204 (X : GX) {z : Nat} {kd : Nat → Nat × Nat} {Rf : Nat → Nat → Option Nat} (hS : Sh z kd Rf) {n dp d : Nat} (hd : dp ≤ d) {I : (Nat → Nat → Int32)} {L : (Nat → Nat → Int64)} {I1 : (Nat → Nat → Int32)} {L1 : (Nat → Nat → Int64)} {r : Int32} (h : g_204 n dp (z, kd, Rf) 0 I L 0 0 = some (r, I1, L1)) : Ct X d 204 0 0 [.ref 105] (z, kd, I, L, Rf) (AI (fun x τ => x = r ∧ τ = (z, kd, I1, L1, Rf))) :=
  Ct_of mu_204 (Nat.le_of_ble_eq_true rfl) ((w_204 X hS n dp d hd I L 0 0 _ _ _).1 h)

/-! 203 CutFloorModel.put(III)I -/
set_option maxHeartbeats 4000000 in
set_option maxRecDepth 100000 in
def g_203 : Nat → Nat → EN → Nat → (Nat → Nat → Int32) → (Nat → Nat → Int64) → Int32 → Int32 → Int32 →  Option (Int32 × (Nat → Nat → Int32) × (Nat → Nat → Int64))
  | 0, _, _, _, _, _, _, _, _ => none
  | n + 1, dp, e, lab, I, L, i1, i2, i3 =>
    if lab = 0 then (stI (u2 I 105 0 (0 : Int32)) (fun I_2 => (if 1 ≤ dp then (g_202 n (dp - 1) e 0 I_2 L i1).bind (fun ⟨x0_6, I0_6, L0_6⟩ => (if x0_6 = 0 then (if 1 ≤ dp then (g_194 n (dp - 1) e 0 I0_6 L0_6 (-1 : Int32)).bind (fun ⟨x1_49, I1_49, L1_49⟩ => (some (x1_49, I1_49, L1_49))) else none) else (if 1 ≤ dp then (g_193 n (dp - 1) e 0 I0_6 L0_6 (Int32.toInt64 i2) (0 : Int64) (2 : Int64)).bind (fun ⟨x1_18, I1_18, L1_18⟩ => (if x1_18 = 0 then (if 1 ≤ dp then (g_194 n (dp - 1) e 0 I1_18 L1_18 (-1 : Int32)).bind (fun ⟨x2_49, I2_49, L2_49⟩ => (some (x2_49, I2_49, L2_49))) else none) else (if i2 = (2 : Int32) then (if 1 ≤ dp then (g_193 n (dp - 1) e 0 I1_18 L1_18 (Int32.toInt64 i3) (0 : Int64) (8 : Int64)).bind (fun ⟨x2_41, I2_41, L2_41⟩ => (if x2_41 = 0 then (if 1 ≤ dp then (g_194 n (dp - 1) e 0 I2_41 L2_41 (-1 : Int32)).bind (fun ⟨x3_49, I3_49, L3_49⟩ => (some (x3_49, I3_49, L3_49))) else none) else (if i2 = (2 : Int32) then (if i3 ≤ 0 then (g_203 n dp e 1 I2_41 L2_41 i1 i2 i3) else (if 0 ≤ ((60 : Int32) + i1) ∧ (Int32.toNatClampNeg ((60 : Int32) + i1)) < 1570 then (if (I2_41 107 (Int32.toNatClampNeg ((60 : Int32) + i1))) = 0 then (if 1 ≤ dp then (g_204 n (dp - 1) e 0 I2_41 L2_41 0 0).bind (fun ⟨x3_75, I3_75, L3_75⟩ => (if x3_75 = (5 : Int32) then (if 1 ≤ dp then (g_194 n (dp - 1) e 0 I3_75 L3_75 (-3 : Int32)).bind (fun ⟨x4_85, I4_85, L4_85⟩ => (some (x4_85, I4_85, L4_85))) else none) else (g_203 n dp e 1 I3_75 L3_75 i1 i2 i3))) else none) else (g_203 n dp e 1 I2_41 L2_41 i1 i2 i3)) else none)) else (g_203 n dp e 1 I2_41 L2_41 i1 i2 i3)))) else none) else (if 1 ≤ dp then (g_193 n (dp - 1) e 0 I1_18 L1_18 (Int32.toInt64 i3) (0 : Int64) (999 : Int64)).bind (fun ⟨x2_41, I2_41, L2_41⟩ => (if x2_41 = 0 then (if 1 ≤ dp then (g_194 n (dp - 1) e 0 I2_41 L2_41 (-1 : Int32)).bind (fun ⟨x3_49, I3_49, L3_49⟩ => (some (x3_49, I3_49, L3_49))) else none) else (if i2 = (2 : Int32) then (if i3 ≤ 0 then (g_203 n dp e 1 I2_41 L2_41 i1 i2 i3) else (if 0 ≤ ((60 : Int32) + i1) ∧ (Int32.toNatClampNeg ((60 : Int32) + i1)) < 1570 then (if (I2_41 107 (Int32.toNatClampNeg ((60 : Int32) + i1))) = 0 then (if 1 ≤ dp then (g_204 n (dp - 1) e 0 I2_41 L2_41 0 0).bind (fun ⟨x3_75, I3_75, L3_75⟩ => (if x3_75 = (5 : Int32) then (if 1 ≤ dp then (g_194 n (dp - 1) e 0 I3_75 L3_75 (-3 : Int32)).bind (fun ⟨x4_85, I4_85, L4_85⟩ => (some (x4_85, I4_85, L4_85))) else none) else (g_203 n dp e 1 I3_75 L3_75 i1 i2 i3))) else none) else (g_203 n dp e 1 I2_41 L2_41 i1 i2 i3)) else none)) else (g_203 n dp e 1 I2_41 L2_41 i1 i2 i3)))) else none)))) else none))) else none)))
    else if lab = 1 then (if 1 ≤ dp then (g_199 n (dp - 1) e 0 I L (((40 : Int32) + ((10 : Int32) * i2)) + i1) i3).bind (fun ⟨x0_100, I0_100, L0_100⟩ => (some (x0_100, I0_100, L0_100))) else none)
    else none
set_option maxRecDepth 100000 in
theorem e_203_0 (n dp : Nat) (e : EN) (I : (Nat → Nat → Int32)) (L : (Nat → Nat → Int64)) (i1 : Int32) (i2 : Int32) (i3 : Int32) : g_203 (n + 1) dp e 0 I L i1 i2 i3 = (stI (u2 I 105 0 (0 : Int32)) (fun I_2 => (if 1 ≤ dp then (g_202 n (dp - 1) e 0 I_2 L i1).bind (fun ⟨x0_6, I0_6, L0_6⟩ => (if x0_6 = 0 then (if 1 ≤ dp then (g_194 n (dp - 1) e 0 I0_6 L0_6 (-1 : Int32)).bind (fun ⟨x1_49, I1_49, L1_49⟩ => (some (x1_49, I1_49, L1_49))) else none) else (if 1 ≤ dp then (g_193 n (dp - 1) e 0 I0_6 L0_6 (Int32.toInt64 i2) (0 : Int64) (2 : Int64)).bind (fun ⟨x1_18, I1_18, L1_18⟩ => (if x1_18 = 0 then (if 1 ≤ dp then (g_194 n (dp - 1) e 0 I1_18 L1_18 (-1 : Int32)).bind (fun ⟨x2_49, I2_49, L2_49⟩ => (some (x2_49, I2_49, L2_49))) else none) else (if i2 = (2 : Int32) then (if 1 ≤ dp then (g_193 n (dp - 1) e 0 I1_18 L1_18 (Int32.toInt64 i3) (0 : Int64) (8 : Int64)).bind (fun ⟨x2_41, I2_41, L2_41⟩ => (if x2_41 = 0 then (if 1 ≤ dp then (g_194 n (dp - 1) e 0 I2_41 L2_41 (-1 : Int32)).bind (fun ⟨x3_49, I3_49, L3_49⟩ => (some (x3_49, I3_49, L3_49))) else none) else (if i2 = (2 : Int32) then (if i3 ≤ 0 then (g_203 n dp e 1 I2_41 L2_41 i1 i2 i3) else (if 0 ≤ ((60 : Int32) + i1) ∧ (Int32.toNatClampNeg ((60 : Int32) + i1)) < 1570 then (if (I2_41 107 (Int32.toNatClampNeg ((60 : Int32) + i1))) = 0 then (if 1 ≤ dp then (g_204 n (dp - 1) e 0 I2_41 L2_41 0 0).bind (fun ⟨x3_75, I3_75, L3_75⟩ => (if x3_75 = (5 : Int32) then (if 1 ≤ dp then (g_194 n (dp - 1) e 0 I3_75 L3_75 (-3 : Int32)).bind (fun ⟨x4_85, I4_85, L4_85⟩ => (some (x4_85, I4_85, L4_85))) else none) else (g_203 n dp e 1 I3_75 L3_75 i1 i2 i3))) else none) else (g_203 n dp e 1 I2_41 L2_41 i1 i2 i3)) else none)) else (g_203 n dp e 1 I2_41 L2_41 i1 i2 i3)))) else none) else (if 1 ≤ dp then (g_193 n (dp - 1) e 0 I1_18 L1_18 (Int32.toInt64 i3) (0 : Int64) (999 : Int64)).bind (fun ⟨x2_41, I2_41, L2_41⟩ => (if x2_41 = 0 then (if 1 ≤ dp then (g_194 n (dp - 1) e 0 I2_41 L2_41 (-1 : Int32)).bind (fun ⟨x3_49, I3_49, L3_49⟩ => (some (x3_49, I3_49, L3_49))) else none) else (if i2 = (2 : Int32) then (if i3 ≤ 0 then (g_203 n dp e 1 I2_41 L2_41 i1 i2 i3) else (if 0 ≤ ((60 : Int32) + i1) ∧ (Int32.toNatClampNeg ((60 : Int32) + i1)) < 1570 then (if (I2_41 107 (Int32.toNatClampNeg ((60 : Int32) + i1))) = 0 then (if 1 ≤ dp then (g_204 n (dp - 1) e 0 I2_41 L2_41 0 0).bind (fun ⟨x3_75, I3_75, L3_75⟩ => (if x3_75 = (5 : Int32) then (if 1 ≤ dp then (g_194 n (dp - 1) e 0 I3_75 L3_75 (-3 : Int32)).bind (fun ⟨x4_85, I4_85, L4_85⟩ => (some (x4_85, I4_85, L4_85))) else none) else (g_203 n dp e 1 I3_75 L3_75 i1 i2 i3))) else none) else (g_203 n dp e 1 I2_41 L2_41 i1 i2 i3)) else none)) else (g_203 n dp e 1 I2_41 L2_41 i1 i2 i3)))) else none)))) else none))) else none))) := by rw [g_203.eq_2, if_pos (show (0 : Nat) = 0 from rfl)]
set_option maxRecDepth 100000 in
theorem e_203_1 (n dp : Nat) (e : EN) (I : (Nat → Nat → Int32)) (L : (Nat → Nat → Int64)) (i1 : Int32) (i2 : Int32) (i3 : Int32) : g_203 (n + 1) dp e 1 I L i1 i2 i3 = (if 1 ≤ dp then (g_199 n (dp - 1) e 0 I L (((40 : Int32) + ((10 : Int32) * i2)) + i1) i3).bind (fun ⟨x0_100, I0_100, L0_100⟩ => (some (x0_100, I0_100, L0_100))) else none) := by rw [g_203.eq_2, if_neg (show ¬ ((1 : Nat) = 0) by decide), if_pos (show (1 : Nat) = 1 from rfl)]
set_option maxHeartbeats 8000000 in
set_option maxRecDepth 100000 in
theorem w_203 (X : GX) {z : Nat} {kd : Nat → Nat × Nat} {Rf : Nat → Nat → Option Nat} (hS : Sh z kd Rf) : ∀ (n dp d : Nat), dp ≤ d → ∀ (I : (Nat → Nat → Int32)) (L : (Nat → Nat → Int64)) (i1 : Int32) (i2 : Int32) (i3 : Int32) (r : Int32) (I1 : (Nat → Nat → Int32)) (L1 : (Nat → Nat → Int64)), (g_203 n dp (z, kd, Rf) 0 I L i1 i2 i3 = some (r, I1, L1) → K X d 203 0 0 (AI (fun x τ => x = r ∧ τ = (z, kd, I1, L1, Rf))) 0 [some (.ref 105), some (.int i1), some (.int i2), some (.int i3)] [] (z, kd, I, L, Rf) 0 0) ∧
    (g_203 n dp (z, kd, Rf) 1 I L i1 i2 i3 = some (r, I1, L1) → K X d 203 0 0 (AI (fun x τ => x = r ∧ τ = (z, kd, I1, L1, Rf))) 89 [some (.ref 105), some (.int i1), some (.int i2), some (.int i3)] [] (z, kd, I, L, Rf) 0 0) := by
  intro n
  induction n with
  | zero => intro dp d hdp I L i1 i2 i3 r I1 L1; exact ⟨(fun h => by cases h), (fun h => by cases h)⟩
  | succ n ih =>
    intro dp d hdp I L i1 i2 i3 r I1 L1
    refine ⟨?_, ?_⟩
    · intro h
      rw [e_203_0] at h
      refine K_of b_203_0 h_203_0 ?_
      refine q_aload rfl ?_
      refine q_iconst (0) (by decide) ?_
      refine q_putI (c0 := 12) (j := 0) rfl rfl (zl hS 105 (by decide)) (sk hS 105 (by decide) rfl) rfl ?_
      obtain ⟨I_2, nI_2, h⟩ := stI_some h
      refine q_nI nI_2 ?_
      refine q_iload rfl ?_
      obtain ⟨d_6, h⟩ := ite_some h
      obtain ⟨⟨x0_6, I0_6, L0_6⟩, e_6, h⟩ := Option.bind_eq_some_iff.mp h
      dsimp only at h
      refine q_fs1I (a_202 X hS (d := d - 1) (by omega) e_6) (by omega) (Nat.le_refl _) (Nat.le_refl _) rfl (Nat.le_of_ble_eq_true rfl) ?_
      refine q_if_eq (fun c_9 => ?_) (fun c_9 => ?_)
      · rw [if_pos c_9] at h
        refine K_of b_203_47 h_203_47 ?_
        refine q_aload rfl ?_
        refine q_iconst (-1) (by decide) ?_
        obtain ⟨d_49, h⟩ := ite_some h
        obtain ⟨⟨x1_49, I1_49, L1_49⟩, e_49, h⟩ := Option.bind_eq_some_iff.mp h
        dsimp only at h
        refine q_fv2I (a_194 X hS (d := d - 1) (by omega) e_49) (by omega) (Nat.le_refl _) (Nat.le_refl _) rfl (Nat.le_of_ble_eq_true rfl) ⟨(zl hS 105 (by decide)), congrArg Prod.fst (sk hS 105 (by decide) rfl), by decide⟩ ?_
        cases h
        exact q_iret rfl (Nat.le_refl _) (Nat.le_refl _) ⟨rfl, rfl⟩
      · rw [if_neg c_9] at h
        refine q_iload rfl ?_
        refine q_i2l ?_
        refine q_lconst (0) (by decide) ?_
        refine q_lconst (2) (by decide) ?_
        obtain ⟨d_18, h⟩ := ite_some h
        obtain ⟨⟨x1_18, I1_18, L1_18⟩, e_18, h⟩ := Option.bind_eq_some_iff.mp h
        dsimp only at h
        refine q_fs3I (a_193 X hS (d := d - 1) (by omega) e_18) (by omega) (Nat.le_refl _) (Nat.le_refl _) rfl (Nat.le_of_ble_eq_true rfl) ?_
        refine q_if_eq (fun c_21 => ?_) (fun c_21 => ?_)
        · rw [if_pos c_21] at h
          refine K_of b_203_47 h_203_47 ?_
          refine q_aload rfl ?_
          refine q_iconst (-1) (by decide) ?_
          obtain ⟨d_49, h⟩ := ite_some h
          obtain ⟨⟨x2_49, I2_49, L2_49⟩, e_49, h⟩ := Option.bind_eq_some_iff.mp h
          dsimp only at h
          refine q_fv2I (a_194 X hS (d := d - 1) (by omega) e_49) (by omega) (Nat.le_refl _) (Nat.le_refl _) rfl (Nat.le_of_ble_eq_true rfl) ⟨(zl hS 105 (by decide)), congrArg Prod.fst (sk hS 105 (by decide) rfl), by decide⟩ ?_
          cases h
          exact q_iret rfl (Nat.le_refl _) (Nat.le_refl _) ⟨rfl, rfl⟩
        · rw [if_neg c_21] at h
          refine q_iload rfl ?_
          refine q_i2l ?_
          refine q_lconst (0) (by decide) ?_
          refine q_iload rfl ?_
          refine q_iconst (2) (by decide) ?_
          refine q_icmp_ne (fun c_29 => ?_) (fun c_29 => ?_)
          · rw [if_neg c_29] at h
            refine K_of b_203_38 h_203_38 ?_
            refine q_lconst (999) (by decide) ?_
            refine q_end ?_
            refine K_of b_203_41 h_203_41 ?_
            obtain ⟨d_41, h⟩ := ite_some h
            obtain ⟨⟨x2_41, I2_41, L2_41⟩, e_41, h⟩ := Option.bind_eq_some_iff.mp h
            dsimp only at h
            refine q_fs3I (a_193 X hS (d := d - 1) (by omega) e_41) (by omega) (Nat.le_refl _) (Nat.le_refl _) rfl (Nat.le_of_ble_eq_true rfl) ?_
            refine q_if_ne (fun c_44 => ?_) (fun c_44 => ?_)
            · rw [if_neg c_44] at h
              refine K_of b_203_53 h_203_53 ?_
              refine q_iload rfl ?_
              refine q_iconst (2) (by decide) ?_
              refine q_icmp_ne (fun c_55 => ?_) (fun c_55 => ?_)
              · rw [if_neg c_55] at h
                exact (ih dp d hdp _ _ i1 i2 i3 _ _ _).2 h
              · rw [if_pos c_55] at h
                refine q_iload rfl ?_
                refine q_if_le (fun c_59 => ?_) (fun c_59 => ?_)
                · rw [if_pos c_59] at h
                  exact (ih dp d hdp _ _ i1 i2 i3 _ _ _).2 h
                · rw [if_neg c_59] at h
                  refine q_aload rfl ?_
                  refine q_getRs (c0 := 12) (j := 3) rfl rfl (zl hS 105 (by decide)) (sk hS 105 (by decide) rfl) rfl (by decide) (r_105_3 hS) ?_
                  refine q_iconst (60) (by decide) ?_
                  refine q_iload rfl ?_
                  refine q_iadd ?_
                  obtain ⟨⟨u_70, v_70⟩, h⟩ := ite_some h
                  refine q_ialN (Int32.toNatClampNeg ((60 : Int32) + i1)) (nx u_70) (zl hS 107 (by decide)) (sk hS 107 (by decide) rfl) v_70 (by decide) ?_
                  refine q_if_ne (fun c_71 => ?_) (fun c_71 => ?_)
                  · rw [if_neg c_71] at h
                    exact (ih dp d hdp _ _ i1 i2 i3 _ _ _).2 h
                  · rw [if_pos c_71] at h
                    refine q_aload rfl ?_
                    obtain ⟨d_75, h⟩ := ite_some h
                    obtain ⟨⟨x3_75, I3_75, L3_75⟩, e_75, h⟩ := Option.bind_eq_some_iff.mp h
                    dsimp only at h
                    refine q_fv1I (a_204 X hS (d := d - 1) (by omega) e_75) (by omega) (Nat.le_refl _) (Nat.le_refl _) rfl (Nat.le_of_ble_eq_true rfl) ⟨(zl hS 105 (by decide)), congrArg Prod.fst (sk hS 105 (by decide) rfl), by decide⟩ ?_
                    refine q_iconst (5) (by decide) ?_
                    refine q_icmp_ne (fun c_79 => ?_) (fun c_79 => ?_)
                    · rw [if_neg c_79] at h
                      exact (ih dp d hdp _ _ i1 i2 i3 _ _ _).2 h
                    · rw [if_pos c_79] at h
                      refine q_aload rfl ?_
                      refine q_iconst (-3) (by decide) ?_
                      obtain ⟨d_85, h⟩ := ite_some h
                      obtain ⟨⟨x4_85, I4_85, L4_85⟩, e_85, h⟩ := Option.bind_eq_some_iff.mp h
                      dsimp only at h
                      refine q_fv2I (a_194 X hS (d := d - 1) (by omega) e_85) (by omega) (Nat.le_refl _) (Nat.le_refl _) rfl (Nat.le_of_ble_eq_true rfl) ⟨(zl hS 105 (by decide)), congrArg Prod.fst (sk hS 105 (by decide) rfl), by decide⟩ ?_
                      cases h
                      exact q_iret rfl (Nat.le_refl _) (Nat.le_refl _) ⟨rfl, rfl⟩
            · rw [if_pos c_44] at h
              refine q_end ?_
              refine K_of b_203_47 h_203_47 ?_
              refine q_aload rfl ?_
              refine q_iconst (-1) (by decide) ?_
              obtain ⟨d_49, h⟩ := ite_some h
              obtain ⟨⟨x3_49, I3_49, L3_49⟩, e_49, h⟩ := Option.bind_eq_some_iff.mp h
              dsimp only at h
              refine q_fv2I (a_194 X hS (d := d - 1) (by omega) e_49) (by omega) (Nat.le_refl _) (Nat.le_refl _) rfl (Nat.le_of_ble_eq_true rfl) ⟨(zl hS 105 (by decide)), congrArg Prod.fst (sk hS 105 (by decide) rfl), by decide⟩ ?_
              cases h
              exact q_iret rfl (Nat.le_refl _) (Nat.le_refl _) ⟨rfl, rfl⟩
          · rw [if_pos c_29] at h
            refine q_lconst (8) (by decide) ?_
            refine q_goto ?_
            refine K_of b_203_41 h_203_41 ?_
            obtain ⟨d_41, h⟩ := ite_some h
            obtain ⟨⟨x2_41, I2_41, L2_41⟩, e_41, h⟩ := Option.bind_eq_some_iff.mp h
            dsimp only at h
            refine q_fs3I (a_193 X hS (d := d - 1) (by omega) e_41) (by omega) (Nat.le_refl _) (Nat.le_refl _) rfl (Nat.le_of_ble_eq_true rfl) ?_
            refine q_if_ne (fun c_44 => ?_) (fun c_44 => ?_)
            · rw [if_neg c_44] at h
              refine K_of b_203_53 h_203_53 ?_
              refine q_iload rfl ?_
              refine q_iconst (2) (by decide) ?_
              refine q_icmp_ne (fun c_55 => ?_) (fun c_55 => ?_)
              · rw [if_neg c_55] at h
                exact (ih dp d hdp _ _ i1 i2 i3 _ _ _).2 h
              · rw [if_pos c_55] at h
                refine q_iload rfl ?_
                refine q_if_le (fun c_59 => ?_) (fun c_59 => ?_)
                · rw [if_pos c_59] at h
                  exact (ih dp d hdp _ _ i1 i2 i3 _ _ _).2 h
                · rw [if_neg c_59] at h
                  refine q_aload rfl ?_
                  refine q_getRs (c0 := 12) (j := 3) rfl rfl (zl hS 105 (by decide)) (sk hS 105 (by decide) rfl) rfl (by decide) (r_105_3 hS) ?_
                  refine q_iconst (60) (by decide) ?_
                  refine q_iload rfl ?_
                  refine q_iadd ?_
                  obtain ⟨⟨u_70, v_70⟩, h⟩ := ite_some h
                  refine q_ialN (Int32.toNatClampNeg ((60 : Int32) + i1)) (nx u_70) (zl hS 107 (by decide)) (sk hS 107 (by decide) rfl) v_70 (by decide) ?_
                  refine q_if_ne (fun c_71 => ?_) (fun c_71 => ?_)
                  · rw [if_neg c_71] at h
                    exact (ih dp d hdp _ _ i1 i2 i3 _ _ _).2 h
                  · rw [if_pos c_71] at h
                    refine q_aload rfl ?_
                    obtain ⟨d_75, h⟩ := ite_some h
                    obtain ⟨⟨x3_75, I3_75, L3_75⟩, e_75, h⟩ := Option.bind_eq_some_iff.mp h
                    dsimp only at h
                    refine q_fv1I (a_204 X hS (d := d - 1) (by omega) e_75) (by omega) (Nat.le_refl _) (Nat.le_refl _) rfl (Nat.le_of_ble_eq_true rfl) ⟨(zl hS 105 (by decide)), congrArg Prod.fst (sk hS 105 (by decide) rfl), by decide⟩ ?_
                    refine q_iconst (5) (by decide) ?_
                    refine q_icmp_ne (fun c_79 => ?_) (fun c_79 => ?_)
                    · rw [if_neg c_79] at h
                      exact (ih dp d hdp _ _ i1 i2 i3 _ _ _).2 h
                    · rw [if_pos c_79] at h
                      refine q_aload rfl ?_
                      refine q_iconst (-3) (by decide) ?_
                      obtain ⟨d_85, h⟩ := ite_some h
                      obtain ⟨⟨x4_85, I4_85, L4_85⟩, e_85, h⟩ := Option.bind_eq_some_iff.mp h
                      dsimp only at h
                      refine q_fv2I (a_194 X hS (d := d - 1) (by omega) e_85) (by omega) (Nat.le_refl _) (Nat.le_refl _) rfl (Nat.le_of_ble_eq_true rfl) ⟨(zl hS 105 (by decide)), congrArg Prod.fst (sk hS 105 (by decide) rfl), by decide⟩ ?_
                      cases h
                      exact q_iret rfl (Nat.le_refl _) (Nat.le_refl _) ⟨rfl, rfl⟩
            · rw [if_pos c_44] at h
              refine q_end ?_
              refine K_of b_203_47 h_203_47 ?_
              refine q_aload rfl ?_
              refine q_iconst (-1) (by decide) ?_
              obtain ⟨d_49, h⟩ := ite_some h
              obtain ⟨⟨x3_49, I3_49, L3_49⟩, e_49, h⟩ := Option.bind_eq_some_iff.mp h
              dsimp only at h
              refine q_fv2I (a_194 X hS (d := d - 1) (by omega) e_49) (by omega) (Nat.le_refl _) (Nat.le_refl _) rfl (Nat.le_of_ble_eq_true rfl) ⟨(zl hS 105 (by decide)), congrArg Prod.fst (sk hS 105 (by decide) rfl), by decide⟩ ?_
              cases h
              exact q_iret rfl (Nat.le_refl _) (Nat.le_refl _) ⟨rfl, rfl⟩
    · intro h
      rw [e_203_1] at h
      refine K_of b_203_89 h_203_89 ?_
      refine q_aload rfl ?_
      refine q_iconst (40) (by decide) ?_
      refine q_iconst (10) (by decide) ?_
      refine q_iload rfl ?_
      refine q_imul ?_
      refine q_iadd ?_
      refine q_iload rfl ?_
      refine q_iadd ?_
      refine q_iload rfl ?_
      obtain ⟨d_100, h⟩ := ite_some h
      obtain ⟨⟨x0_100, I0_100, L0_100⟩, e_100, h⟩ := Option.bind_eq_some_iff.mp h
      dsimp only at h
      refine q_fv3I (a_199 X hS (d := d - 1) (by omega) e_100) (by omega) (Nat.le_refl _) (Nat.le_refl _) rfl (Nat.le_of_ble_eq_true rfl) ⟨(zl hS 105 (by decide)), congrArg Prod.fst (sk hS 105 (by decide) rfl), by decide⟩ ?_
      cases h
      exact q_iret rfl (Nat.le_refl _) (Nat.le_refl _) ⟨rfl, rfl⟩
theorem a_203 (X : GX) {z : Nat} {kd : Nat → Nat × Nat} {Rf : Nat → Nat → Option Nat} (hS : Sh z kd Rf) {n dp d : Nat} (hd : dp ≤ d) {I : (Nat → Nat → Int32)} {L : (Nat → Nat → Int64)} {i1 : Int32} {i2 : Int32} {i3 : Int32} {I1 : (Nat → Nat → Int32)} {L1 : (Nat → Nat → Int64)} {r : Int32} (h : g_203 n dp (z, kd, Rf) 0 I L i1 i2 i3 = some (r, I1, L1)) : Ct X d 203 0 0 [.ref 105, .int i1, .int i2, .int i3] (z, kd, I, L, Rf) (AI (fun x τ => x = r ∧ τ = (z, kd, I1, L1, Rf))) :=
  Ct_of mu_203 (Nat.le_of_ble_eq_true rfl) ((w_203 X hS n dp d hd I L i1 i2 i3 _ _ _).1 h)

/-! 205 CutFloorModel.man(I)I -/
set_option maxHeartbeats 4000000 in
set_option maxRecDepth 100000 in
def g_205 : Nat → Nat → EN → Nat → (Nat → Nat → Int32) → (Nat → Nat → Int64) → Int32 →  Option (Int32 × (Nat → Nat → Int32) × (Nat → Nat → Int64))
  | 0, _, _, _, _, _, _ => none
  | n + 1, dp, e, lab, I, L, i1 =>
    if lab = 0 then (stI (u2 I 105 0 (0 : Int32)) (fun I_2 => (if 1 ≤ dp then (g_193 n (dp - 1) e 0 I_2 L (Int32.toInt64 i1) (0 : Int64) (15 : Int64)).bind (fun ⟨x0_11, I0_11, L0_11⟩ => (if x0_11 = 0 then (if 1 ≤ dp then (g_194 n (dp - 1) e 0 I0_11 L0_11 (-1 : Int32)).bind (fun ⟨x1_19, I1_19, L1_19⟩ => (some (x1_19, I1_19, L1_19))) else none) else (if (I0_11 107 3) = (4 : Int32) then (if 1 ≤ dp then (g_194 n (dp - 1) e 0 I0_11 L0_11 (-5 : Int32)).bind (fun ⟨x1_36, I1_36, L1_36⟩ => (some (x1_36, I1_36, L1_36))) else none) else (if 0 ≤ ((70 : Int32) + (I0_11 107 3)) ∧ (Int32.toNatClampNeg ((70 : Int32) + (I0_11 107 3))) < 1570 then (stI (u2 I0_11 107 (Int32.toNatClampNeg ((70 : Int32) + (I0_11 107 3))) i1) (fun I_54 => (stI (u2 I_54 107 3 ((I_54 107 3) + (1 : Int32))) (fun I_64 => (if 1 ≤ dp then (g_194 n (dp - 1) e 0 I_64 L0_11 ((I_64 107 3) - (1 : Int32))).bind (fun ⟨x1_74, I1_74, L1_74⟩ => (some (x1_74, I1_74, L1_74))) else none))))) else none)))) else none)))
    else none
set_option maxRecDepth 100000 in
theorem e_205_0 (n dp : Nat) (e : EN) (I : (Nat → Nat → Int32)) (L : (Nat → Nat → Int64)) (i1 : Int32) : g_205 (n + 1) dp e 0 I L i1 = (stI (u2 I 105 0 (0 : Int32)) (fun I_2 => (if 1 ≤ dp then (g_193 n (dp - 1) e 0 I_2 L (Int32.toInt64 i1) (0 : Int64) (15 : Int64)).bind (fun ⟨x0_11, I0_11, L0_11⟩ => (if x0_11 = 0 then (if 1 ≤ dp then (g_194 n (dp - 1) e 0 I0_11 L0_11 (-1 : Int32)).bind (fun ⟨x1_19, I1_19, L1_19⟩ => (some (x1_19, I1_19, L1_19))) else none) else (if (I0_11 107 3) = (4 : Int32) then (if 1 ≤ dp then (g_194 n (dp - 1) e 0 I0_11 L0_11 (-5 : Int32)).bind (fun ⟨x1_36, I1_36, L1_36⟩ => (some (x1_36, I1_36, L1_36))) else none) else (if 0 ≤ ((70 : Int32) + (I0_11 107 3)) ∧ (Int32.toNatClampNeg ((70 : Int32) + (I0_11 107 3))) < 1570 then (stI (u2 I0_11 107 (Int32.toNatClampNeg ((70 : Int32) + (I0_11 107 3))) i1) (fun I_54 => (stI (u2 I_54 107 3 ((I_54 107 3) + (1 : Int32))) (fun I_64 => (if 1 ≤ dp then (g_194 n (dp - 1) e 0 I_64 L0_11 ((I_64 107 3) - (1 : Int32))).bind (fun ⟨x1_74, I1_74, L1_74⟩ => (some (x1_74, I1_74, L1_74))) else none))))) else none)))) else none))) := by rw [g_205.eq_2, if_pos (show (0 : Nat) = 0 from rfl)]
set_option maxHeartbeats 8000000 in
set_option maxRecDepth 100000 in
theorem w_205 (X : GX) {z : Nat} {kd : Nat → Nat × Nat} {Rf : Nat → Nat → Option Nat} (hS : Sh z kd Rf) : ∀ (n dp d : Nat), dp ≤ d → ∀ (I : (Nat → Nat → Int32)) (L : (Nat → Nat → Int64)) (i1 : Int32) (r : Int32) (I1 : (Nat → Nat → Int32)) (L1 : (Nat → Nat → Int64)), (g_205 n dp (z, kd, Rf) 0 I L i1 = some (r, I1, L1) → K X d 205 0 0 (AI (fun x τ => x = r ∧ τ = (z, kd, I1, L1, Rf))) 0 [some (.ref 105), some (.int i1)] [] (z, kd, I, L, Rf) 0 0) := by
  intro n
  induction n with
  | zero => intro dp d hdp I L i1 r I1 L1; exact fun h => by cases h
  | succ n ih =>
    intro dp d hdp I L i1 r I1 L1
    · intro h
      rw [e_205_0] at h
      refine K_of b_205_0 h_205_0 ?_
      refine q_aload rfl ?_
      refine q_iconst (0) (by decide) ?_
      refine q_putI (c0 := 12) (j := 0) rfl rfl (zl hS 105 (by decide)) (sk hS 105 (by decide) rfl) rfl ?_
      obtain ⟨I_2, nI_2, h⟩ := stI_some h
      refine q_nI nI_2 ?_
      refine q_iload rfl ?_
      refine q_i2l ?_
      refine q_lconst (0) (by decide) ?_
      refine q_lconst (15) (by decide) ?_
      obtain ⟨d_11, h⟩ := ite_some h
      obtain ⟨⟨x0_11, I0_11, L0_11⟩, e_11, h⟩ := Option.bind_eq_some_iff.mp h
      dsimp only at h
      refine q_fs3I (a_193 X hS (d := d - 1) (by omega) e_11) (by omega) (Nat.le_refl _) (Nat.le_refl _) rfl (Nat.le_of_ble_eq_true rfl) ?_
      refine q_if_ne (fun c_14 => ?_) (fun c_14 => ?_)
      · rw [if_neg c_14] at h
        refine K_of b_205_23 h_205_23 ?_
        refine q_aload rfl ?_
        refine q_getRs (c0 := 12) (j := 3) rfl rfl (zl hS 105 (by decide)) (sk hS 105 (by decide) rfl) rfl (by decide) (r_105_3 hS) ?_
        refine q_iconst (3) (by decide) ?_
        refine q_ialN (3) rfl (zl hS 107 (by decide)) (sk hS 107 (by decide) rfl) (by decide) (by decide) ?_
        refine q_iconst (4) (by decide) ?_
        refine q_icmp_ne (fun c_30 => ?_) (fun c_30 => ?_)
        · rw [if_neg c_30] at h
          refine K_of b_205_40 h_205_40 ?_
          refine q_aload rfl ?_
          refine q_getRs (c0 := 12) (j := 3) rfl rfl (zl hS 105 (by decide)) (sk hS 105 (by decide) rfl) rfl (by decide) (r_105_3 hS) ?_
          refine q_iconst (70) (by decide) ?_
          refine q_aload rfl ?_
          refine q_getRs (c0 := 12) (j := 3) rfl rfl (zl hS 105 (by decide)) (sk hS 105 (by decide) rfl) rfl (by decide) (r_105_3 hS) ?_
          refine q_iconst (3) (by decide) ?_
          refine q_ialN (3) rfl (zl hS 107 (by decide)) (sk hS 107 (by decide) rfl) (by decide) (by decide) ?_
          refine q_iadd ?_
          refine q_iload rfl ?_
          obtain ⟨⟨u_54, v_54⟩, h⟩ := ite_some h
          refine q_iasN (Int32.toNatClampNeg ((70 : Int32) + (I0_11 107 3))) (nx u_54) (zl hS 107 (by decide)) (sk hS 107 (by decide) rfl) v_54 (by decide) ?_
          obtain ⟨I_54, nI_54, h⟩ := stI_some h
          refine q_nI nI_54 ?_
          refine q_aload rfl ?_
          refine q_getRs (c0 := 12) (j := 3) rfl rfl (zl hS 105 (by decide)) (sk hS 105 (by decide) rfl) rfl (by decide) (r_105_3 hS) ?_
          refine q_iconst (3) (by decide) ?_
          refine q_dup2 rfl rfl ?_
          refine q_ialN (3) rfl (zl hS 107 (by decide)) (sk hS 107 (by decide) rfl) (by decide) (by decide) ?_
          refine q_iconst (1) (by decide) ?_
          refine q_iadd ?_
          refine q_iasN (3) rfl (zl hS 107 (by decide)) (sk hS 107 (by decide) rfl) (by decide) (by decide) ?_
          obtain ⟨I_64, nI_64, h⟩ := stI_some h
          refine q_nI nI_64 ?_
          refine q_aload rfl ?_
          refine q_aload rfl ?_
          refine q_getRs (c0 := 12) (j := 3) rfl rfl (zl hS 105 (by decide)) (sk hS 105 (by decide) rfl) rfl (by decide) (r_105_3 hS) ?_
          refine q_iconst (3) (by decide) ?_
          refine q_ialN (3) rfl (zl hS 107 (by decide)) (sk hS 107 (by decide) rfl) (by decide) (by decide) ?_
          refine q_iconst (1) (by decide) ?_
          refine q_isub ?_
          obtain ⟨d_74, h⟩ := ite_some h
          obtain ⟨⟨x1_74, I1_74, L1_74⟩, e_74, h⟩ := Option.bind_eq_some_iff.mp h
          dsimp only at h
          refine q_fv2I (a_194 X hS (d := d - 1) (by omega) e_74) (by omega) (Nat.le_refl _) (Nat.le_refl _) rfl (Nat.le_of_ble_eq_true rfl) ⟨(zl hS 105 (by decide)), congrArg Prod.fst (sk hS 105 (by decide) rfl), by decide⟩ ?_
          cases h
          exact q_iret rfl (Nat.le_refl _) (Nat.le_refl _) ⟨rfl, rfl⟩
        · rw [if_pos c_30] at h
          refine q_aload rfl ?_
          refine q_iconst (-5) (by decide) ?_
          obtain ⟨d_36, h⟩ := ite_some h
          obtain ⟨⟨x1_36, I1_36, L1_36⟩, e_36, h⟩ := Option.bind_eq_some_iff.mp h
          dsimp only at h
          refine q_fv2I (a_194 X hS (d := d - 1) (by omega) e_36) (by omega) (Nat.le_refl _) (Nat.le_refl _) rfl (Nat.le_of_ble_eq_true rfl) ⟨(zl hS 105 (by decide)), congrArg Prod.fst (sk hS 105 (by decide) rfl), by decide⟩ ?_
          cases h
          exact q_iret rfl (Nat.le_refl _) (Nat.le_refl _) ⟨rfl, rfl⟩
      · rw [if_pos c_14] at h
        refine q_aload rfl ?_
        refine q_iconst (-1) (by decide) ?_
        obtain ⟨d_19, h⟩ := ite_some h
        obtain ⟨⟨x1_19, I1_19, L1_19⟩, e_19, h⟩ := Option.bind_eq_some_iff.mp h
        dsimp only at h
        refine q_fv2I (a_194 X hS (d := d - 1) (by omega) e_19) (by omega) (Nat.le_refl _) (Nat.le_refl _) rfl (Nat.le_of_ble_eq_true rfl) ⟨(zl hS 105 (by decide)), congrArg Prod.fst (sk hS 105 (by decide) rfl), by decide⟩ ?_
        cases h
        exact q_iret rfl (Nat.le_refl _) (Nat.le_refl _) ⟨rfl, rfl⟩
theorem a_205 (X : GX) {z : Nat} {kd : Nat → Nat × Nat} {Rf : Nat → Nat → Option Nat} (hS : Sh z kd Rf) {n dp d : Nat} (hd : dp ≤ d) {I : (Nat → Nat → Int32)} {L : (Nat → Nat → Int64)} {i1 : Int32} {I1 : (Nat → Nat → Int32)} {L1 : (Nat → Nat → Int64)} {r : Int32} (h : g_205 n dp (z, kd, Rf) 0 I L i1 = some (r, I1, L1)) : Ct X d 205 0 0 [.ref 105, .int i1] (z, kd, I, L, Rf) (AI (fun x τ => x = r ∧ τ = (z, kd, I1, L1, Rf))) :=
  Ct_of mu_205 (Nat.le_of_ble_eq_true rfl) ((w_205 X hS n dp d hd I L i1 _ _ _) h)

/-! 206 CutFloorModel.skills(II)I -/
set_option maxHeartbeats 4000000 in
set_option maxRecDepth 100000 in
def g_206 : Nat → Nat → EN → Nat → (Nat → Nat → Int32) → (Nat → Nat → Int64) → Int32 → Int32 →  Option (Int32 × (Nat → Nat → Int32) × (Nat → Nat → Int64))
  | 0, _, _, _, _, _, _, _ => none
  | n + 1, dp, e, lab, I, L, i1, i2 =>
    if lab = 0 then (stI (u2 I 105 0 (0 : Int32)) (fun I_2 => (if 1 ≤ dp then (g_193 n (dp - 1) e 0 I_2 L (Int32.toInt64 i2) (0 : Int64) (15 : Int64)).bind (fun ⟨x0_11, I0_11, L0_11⟩ => (if x0_11 = 0 then (if 1 ≤ dp then (g_194 n (dp - 1) e 0 I0_11 L0_11 (-1 : Int32)).bind (fun ⟨x1_19, I1_19, L1_19⟩ => (some (x1_19, I1_19, L1_19))) else none) else (if 1 ≤ dp then (g_193 n (dp - 1) e 0 I0_11 L0_11 (Int32.toInt64 i1) (0 : Int64) ((Int32.toInt64 (I0_11 107 3)) - (1 : Int64))).bind (fun ⟨x1_35, I1_35, L1_35⟩ => (if x1_35 = 0 then (if 1 ≤ dp then (g_194 n (dp - 1) e 0 I1_35 L1_35 (-2 : Int32)).bind (fun ⟨x2_56, I2_56, L2_56⟩ => (some (x2_56, I2_56, L2_56))) else none) else (if 1 ≤ dp then (g_199 n (dp - 1) e 0 I1_35 L1_35 ((70 : Int32) + i1) i2).bind (fun ⟨x2_47, I2_47, L2_47⟩ => (some (x2_47, I2_47, L2_47))) else none))) else none))) else none)))
    else none
set_option maxRecDepth 100000 in
theorem e_206_0 (n dp : Nat) (e : EN) (I : (Nat → Nat → Int32)) (L : (Nat → Nat → Int64)) (i1 : Int32) (i2 : Int32) : g_206 (n + 1) dp e 0 I L i1 i2 = (stI (u2 I 105 0 (0 : Int32)) (fun I_2 => (if 1 ≤ dp then (g_193 n (dp - 1) e 0 I_2 L (Int32.toInt64 i2) (0 : Int64) (15 : Int64)).bind (fun ⟨x0_11, I0_11, L0_11⟩ => (if x0_11 = 0 then (if 1 ≤ dp then (g_194 n (dp - 1) e 0 I0_11 L0_11 (-1 : Int32)).bind (fun ⟨x1_19, I1_19, L1_19⟩ => (some (x1_19, I1_19, L1_19))) else none) else (if 1 ≤ dp then (g_193 n (dp - 1) e 0 I0_11 L0_11 (Int32.toInt64 i1) (0 : Int64) ((Int32.toInt64 (I0_11 107 3)) - (1 : Int64))).bind (fun ⟨x1_35, I1_35, L1_35⟩ => (if x1_35 = 0 then (if 1 ≤ dp then (g_194 n (dp - 1) e 0 I1_35 L1_35 (-2 : Int32)).bind (fun ⟨x2_56, I2_56, L2_56⟩ => (some (x2_56, I2_56, L2_56))) else none) else (if 1 ≤ dp then (g_199 n (dp - 1) e 0 I1_35 L1_35 ((70 : Int32) + i1) i2).bind (fun ⟨x2_47, I2_47, L2_47⟩ => (some (x2_47, I2_47, L2_47))) else none))) else none))) else none))) := by rw [g_206.eq_2, if_pos (show (0 : Nat) = 0 from rfl)]
set_option maxHeartbeats 8000000 in
set_option maxRecDepth 100000 in
theorem w_206 (X : GX) {z : Nat} {kd : Nat → Nat × Nat} {Rf : Nat → Nat → Option Nat} (hS : Sh z kd Rf) : ∀ (n dp d : Nat), dp ≤ d → ∀ (I : (Nat → Nat → Int32)) (L : (Nat → Nat → Int64)) (i1 : Int32) (i2 : Int32) (r : Int32) (I1 : (Nat → Nat → Int32)) (L1 : (Nat → Nat → Int64)), (g_206 n dp (z, kd, Rf) 0 I L i1 i2 = some (r, I1, L1) → K X d 206 0 0 (AI (fun x τ => x = r ∧ τ = (z, kd, I1, L1, Rf))) 0 [some (.ref 105), some (.int i1), some (.int i2)] [] (z, kd, I, L, Rf) 0 0) := by
  intro n
  induction n with
  | zero => intro dp d hdp I L i1 i2 r I1 L1; exact fun h => by cases h
  | succ n ih =>
    intro dp d hdp I L i1 i2 r I1 L1
    · intro h
      rw [e_206_0] at h
      refine K_of b_206_0 h_206_0 ?_
      refine q_aload rfl ?_
      refine q_iconst (0) (by decide) ?_
      refine q_putI (c0 := 12) (j := 0) rfl rfl (zl hS 105 (by decide)) (sk hS 105 (by decide) rfl) rfl ?_
      obtain ⟨I_2, nI_2, h⟩ := stI_some h
      refine q_nI nI_2 ?_
      refine q_iload rfl ?_
      refine q_i2l ?_
      refine q_lconst (0) (by decide) ?_
      refine q_lconst (15) (by decide) ?_
      obtain ⟨d_11, h⟩ := ite_some h
      obtain ⟨⟨x0_11, I0_11, L0_11⟩, e_11, h⟩ := Option.bind_eq_some_iff.mp h
      dsimp only at h
      refine q_fs3I (a_193 X hS (d := d - 1) (by omega) e_11) (by omega) (Nat.le_refl _) (Nat.le_refl _) rfl (Nat.le_of_ble_eq_true rfl) ?_
      refine q_if_ne (fun c_14 => ?_) (fun c_14 => ?_)
      · rw [if_neg c_14] at h
        refine K_of b_206_23 h_206_23 ?_
        refine q_iload rfl ?_
        refine q_i2l ?_
        refine q_lconst (0) (by decide) ?_
        refine q_aload rfl ?_
        refine q_getRs (c0 := 12) (j := 3) rfl rfl (zl hS 105 (by decide)) (sk hS 105 (by decide) rfl) rfl (by decide) (r_105_3 hS) ?_
        refine q_iconst (3) (by decide) ?_
        refine q_ialN (3) rfl (zl hS 107 (by decide)) (sk hS 107 (by decide) rfl) (by decide) (by decide) ?_
        refine q_i2l ?_
        refine q_lconst (1) (by decide) ?_
        refine q_lsub ?_
        obtain ⟨d_35, h⟩ := ite_some h
        obtain ⟨⟨x1_35, I1_35, L1_35⟩, e_35, h⟩ := Option.bind_eq_some_iff.mp h
        dsimp only at h
        refine q_fs3I (a_193 X hS (d := d - 1) (by omega) e_35) (by omega) (Nat.le_refl _) (Nat.le_refl _) rfl (Nat.le_of_ble_eq_true rfl) ?_
        refine q_if_eq (fun c_38 => ?_) (fun c_38 => ?_)
        · rw [if_pos c_38] at h
          refine K_of b_206_53 h_206_53 ?_
          refine q_aload rfl ?_
          refine q_iconst (-2) (by decide) ?_
          obtain ⟨d_56, h⟩ := ite_some h
          obtain ⟨⟨x2_56, I2_56, L2_56⟩, e_56, h⟩ := Option.bind_eq_some_iff.mp h
          dsimp only at h
          refine q_fv2I (a_194 X hS (d := d - 1) (by omega) e_56) (by omega) (Nat.le_refl _) (Nat.le_refl _) rfl (Nat.le_of_ble_eq_true rfl) ⟨(zl hS 105 (by decide)), congrArg Prod.fst (sk hS 105 (by decide) rfl), by decide⟩ ?_
          refine q_end ?_
          refine K_of b_206_59 h_206_59 ?_
          cases h
          exact q_iret rfl (Nat.le_refl _) (Nat.le_refl _) ⟨rfl, rfl⟩
        · rw [if_neg c_38] at h
          refine q_aload rfl ?_
          refine q_iconst (70) (by decide) ?_
          refine q_iload rfl ?_
          refine q_iadd ?_
          refine q_iload rfl ?_
          obtain ⟨d_47, h⟩ := ite_some h
          obtain ⟨⟨x2_47, I2_47, L2_47⟩, e_47, h⟩ := Option.bind_eq_some_iff.mp h
          dsimp only at h
          refine q_fv3I (a_199 X hS (d := d - 1) (by omega) e_47) (by omega) (Nat.le_refl _) (Nat.le_refl _) rfl (Nat.le_of_ble_eq_true rfl) ⟨(zl hS 105 (by decide)), congrArg Prod.fst (sk hS 105 (by decide) rfl), by decide⟩ ?_
          refine q_goto ?_
          refine K_of b_206_59 h_206_59 ?_
          cases h
          exact q_iret rfl (Nat.le_refl _) (Nat.le_refl _) ⟨rfl, rfl⟩
      · rw [if_pos c_14] at h
        refine q_aload rfl ?_
        refine q_iconst (-1) (by decide) ?_
        obtain ⟨d_19, h⟩ := ite_some h
        obtain ⟨⟨x1_19, I1_19, L1_19⟩, e_19, h⟩ := Option.bind_eq_some_iff.mp h
        dsimp only at h
        refine q_fv2I (a_194 X hS (d := d - 1) (by omega) e_19) (by omega) (Nat.le_refl _) (Nat.le_refl _) rfl (Nat.le_of_ble_eq_true rfl) ⟨(zl hS 105 (by decide)), congrArg Prod.fst (sk hS 105 (by decide) rfl), by decide⟩ ?_
        cases h
        exact q_iret rfl (Nat.le_refl _) (Nat.le_refl _) ⟨rfl, rfl⟩
theorem a_206 (X : GX) {z : Nat} {kd : Nat → Nat × Nat} {Rf : Nat → Nat → Option Nat} (hS : Sh z kd Rf) {n dp d : Nat} (hd : dp ≤ d) {I : (Nat → Nat → Int32)} {L : (Nat → Nat → Int64)} {i1 : Int32} {i2 : Int32} {I1 : (Nat → Nat → Int32)} {L1 : (Nat → Nat → Int64)} {r : Int32} (h : g_206 n dp (z, kd, Rf) 0 I L i1 i2 = some (r, I1, L1)) : Ct X d 206 0 0 [.ref 105, .int i1, .int i2] (z, kd, I, L, Rf) (AI (fun x τ => x = r ∧ τ = (z, kd, I1, L1, Rf))) :=
  Ct_of mu_206 (Nat.le_of_ble_eq_true rfl) ((w_206 X hS n dp d hd I L i1 i2 _ _ _) h)

/-! 207 CutFloorModel.terms(II)I -/
set_option maxHeartbeats 4000000 in
set_option maxRecDepth 100000 in
def g_207 : Nat → Nat → EN → Nat → (Nat → Nat → Int32) → (Nat → Nat → Int64) → Int32 → Int32 →  Option (Int32 × (Nat → Nat → Int32) × (Nat → Nat → Int64))
  | 0, _, _, _, _, _, _, _ => none
  | n + 1, dp, e, lab, I, L, i1, i2 =>
    if lab = 0 then (stI (u2 I 105 0 (0 : Int32)) (fun I_2 => (if 1 ≤ dp then (g_193 n (dp - 1) e 0 I_2 L (Int32.toInt64 i1) (0 : Int64) (1 : Int64)).bind (fun ⟨x0_9, I0_9, L0_9⟩ => (if x0_9 = 0 then (if 1 ≤ dp then (g_194 n (dp - 1) e 0 I0_9 L0_9 (-1 : Int32)).bind (fun ⟨x1_50, I1_50, L1_50⟩ => (some (x1_50, I1_50, L1_50))) else none) else (if i1 = 0 then (if 1 ≤ dp then (g_193 n (dp - 1) e 0 I0_9 L0_9 (Int32.toInt64 i2) (0 : Int64) (99 : Int64)).bind (fun ⟨x1_31, I1_31, L1_31⟩ => (if x1_31 = 0 then (if 1 ≤ dp then (g_194 n (dp - 1) e 0 I1_31 L1_31 (-1 : Int32)).bind (fun ⟨x2_50, I2_50, L2_50⟩ => (some (x2_50, I2_50, L2_50))) else none) else (if 1 ≤ dp then (g_199 n (dp - 1) e 0 I1_31 L1_31 ((4 : Int32) + i1) i2).bind (fun ⟨x2_42, I2_42, L2_42⟩ => (some (x2_42, I2_42, L2_42))) else none))) else none) else (if 1 ≤ dp then (g_193 n (dp - 1) e 0 I0_9 L0_9 (Int32.toInt64 i2) (0 : Int64) (100 : Int64)).bind (fun ⟨x1_31, I1_31, L1_31⟩ => (if x1_31 = 0 then (if 1 ≤ dp then (g_194 n (dp - 1) e 0 I1_31 L1_31 (-1 : Int32)).bind (fun ⟨x2_50, I2_50, L2_50⟩ => (some (x2_50, I2_50, L2_50))) else none) else (if 1 ≤ dp then (g_199 n (dp - 1) e 0 I1_31 L1_31 ((4 : Int32) + i1) i2).bind (fun ⟨x2_42, I2_42, L2_42⟩ => (some (x2_42, I2_42, L2_42))) else none))) else none)))) else none)))
    else none
set_option maxRecDepth 100000 in
theorem e_207_0 (n dp : Nat) (e : EN) (I : (Nat → Nat → Int32)) (L : (Nat → Nat → Int64)) (i1 : Int32) (i2 : Int32) : g_207 (n + 1) dp e 0 I L i1 i2 = (stI (u2 I 105 0 (0 : Int32)) (fun I_2 => (if 1 ≤ dp then (g_193 n (dp - 1) e 0 I_2 L (Int32.toInt64 i1) (0 : Int64) (1 : Int64)).bind (fun ⟨x0_9, I0_9, L0_9⟩ => (if x0_9 = 0 then (if 1 ≤ dp then (g_194 n (dp - 1) e 0 I0_9 L0_9 (-1 : Int32)).bind (fun ⟨x1_50, I1_50, L1_50⟩ => (some (x1_50, I1_50, L1_50))) else none) else (if i1 = 0 then (if 1 ≤ dp then (g_193 n (dp - 1) e 0 I0_9 L0_9 (Int32.toInt64 i2) (0 : Int64) (99 : Int64)).bind (fun ⟨x1_31, I1_31, L1_31⟩ => (if x1_31 = 0 then (if 1 ≤ dp then (g_194 n (dp - 1) e 0 I1_31 L1_31 (-1 : Int32)).bind (fun ⟨x2_50, I2_50, L2_50⟩ => (some (x2_50, I2_50, L2_50))) else none) else (if 1 ≤ dp then (g_199 n (dp - 1) e 0 I1_31 L1_31 ((4 : Int32) + i1) i2).bind (fun ⟨x2_42, I2_42, L2_42⟩ => (some (x2_42, I2_42, L2_42))) else none))) else none) else (if 1 ≤ dp then (g_193 n (dp - 1) e 0 I0_9 L0_9 (Int32.toInt64 i2) (0 : Int64) (100 : Int64)).bind (fun ⟨x1_31, I1_31, L1_31⟩ => (if x1_31 = 0 then (if 1 ≤ dp then (g_194 n (dp - 1) e 0 I1_31 L1_31 (-1 : Int32)).bind (fun ⟨x2_50, I2_50, L2_50⟩ => (some (x2_50, I2_50, L2_50))) else none) else (if 1 ≤ dp then (g_199 n (dp - 1) e 0 I1_31 L1_31 ((4 : Int32) + i1) i2).bind (fun ⟨x2_42, I2_42, L2_42⟩ => (some (x2_42, I2_42, L2_42))) else none))) else none)))) else none))) := by rw [g_207.eq_2, if_pos (show (0 : Nat) = 0 from rfl)]
set_option maxHeartbeats 8000000 in
set_option maxRecDepth 100000 in
theorem w_207 (X : GX) {z : Nat} {kd : Nat → Nat × Nat} {Rf : Nat → Nat → Option Nat} (hS : Sh z kd Rf) : ∀ (n dp d : Nat), dp ≤ d → ∀ (I : (Nat → Nat → Int32)) (L : (Nat → Nat → Int64)) (i1 : Int32) (i2 : Int32) (r : Int32) (I1 : (Nat → Nat → Int32)) (L1 : (Nat → Nat → Int64)), (g_207 n dp (z, kd, Rf) 0 I L i1 i2 = some (r, I1, L1) → K X d 207 0 0 (AI (fun x τ => x = r ∧ τ = (z, kd, I1, L1, Rf))) 0 [some (.ref 105), some (.int i1), some (.int i2)] [] (z, kd, I, L, Rf) 0 0) := by
  intro n
  induction n with
  | zero => intro dp d hdp I L i1 i2 r I1 L1; exact fun h => by cases h
  | succ n ih =>
    intro dp d hdp I L i1 i2 r I1 L1
    · intro h
      rw [e_207_0] at h
      refine K_of b_207_0 h_207_0 ?_
      refine q_aload rfl ?_
      refine q_iconst (0) (by decide) ?_
      refine q_putI (c0 := 12) (j := 0) rfl rfl (zl hS 105 (by decide)) (sk hS 105 (by decide) rfl) rfl ?_
      obtain ⟨I_2, nI_2, h⟩ := stI_some h
      refine q_nI nI_2 ?_
      refine q_iload rfl ?_
      refine q_i2l ?_
      refine q_lconst (0) (by decide) ?_
      refine q_lconst (1) (by decide) ?_
      obtain ⟨d_9, h⟩ := ite_some h
      obtain ⟨⟨x0_9, I0_9, L0_9⟩, e_9, h⟩ := Option.bind_eq_some_iff.mp h
      dsimp only at h
      refine q_fs3I (a_193 X hS (d := d - 1) (by omega) e_9) (by omega) (Nat.le_refl _) (Nat.le_refl _) rfl (Nat.le_of_ble_eq_true rfl) ?_
      refine q_if_eq (fun c_12 => ?_) (fun c_12 => ?_)
      · rw [if_pos c_12] at h
        refine K_of b_207_48 h_207_48 ?_
        refine q_aload rfl ?_
        refine q_iconst (-1) (by decide) ?_
        obtain ⟨d_50, h⟩ := ite_some h
        obtain ⟨⟨x1_50, I1_50, L1_50⟩, e_50, h⟩ := Option.bind_eq_some_iff.mp h
        dsimp only at h
        refine q_fv2I (a_194 X hS (d := d - 1) (by omega) e_50) (by omega) (Nat.le_refl _) (Nat.le_refl _) rfl (Nat.le_of_ble_eq_true rfl) ⟨(zl hS 105 (by decide)), congrArg Prod.fst (sk hS 105 (by decide) rfl), by decide⟩ ?_
        refine q_end ?_
        refine K_of b_207_53 h_207_53 ?_
        cases h
        exact q_iret rfl (Nat.le_refl _) (Nat.le_refl _) ⟨rfl, rfl⟩
      · rw [if_neg c_12] at h
        refine q_iload rfl ?_
        refine q_i2l ?_
        refine q_lconst (0) (by decide) ?_
        refine q_iload rfl ?_
        refine q_if_ne (fun c_19 => ?_) (fun c_19 => ?_)
        · rw [if_neg c_19] at h
          refine K_of b_207_28 h_207_28 ?_
          refine q_lconst (100) (by decide) ?_
          refine q_end ?_
          refine K_of b_207_31 h_207_31 ?_
          obtain ⟨d_31, h⟩ := ite_some h
          obtain ⟨⟨x1_31, I1_31, L1_31⟩, e_31, h⟩ := Option.bind_eq_some_iff.mp h
          dsimp only at h
          refine q_fs3I (a_193 X hS (d := d - 1) (by omega) e_31) (by omega) (Nat.le_refl _) (Nat.le_refl _) rfl (Nat.le_of_ble_eq_true rfl) ?_
          refine q_if_eq (fun c_34 => ?_) (fun c_34 => ?_)
          · rw [if_pos c_34] at h
            refine K_of b_207_48 h_207_48 ?_
            refine q_aload rfl ?_
            refine q_iconst (-1) (by decide) ?_
            obtain ⟨d_50, h⟩ := ite_some h
            obtain ⟨⟨x2_50, I2_50, L2_50⟩, e_50, h⟩ := Option.bind_eq_some_iff.mp h
            dsimp only at h
            refine q_fv2I (a_194 X hS (d := d - 1) (by omega) e_50) (by omega) (Nat.le_refl _) (Nat.le_refl _) rfl (Nat.le_of_ble_eq_true rfl) ⟨(zl hS 105 (by decide)), congrArg Prod.fst (sk hS 105 (by decide) rfl), by decide⟩ ?_
            refine q_end ?_
            refine K_of b_207_53 h_207_53 ?_
            cases h
            exact q_iret rfl (Nat.le_refl _) (Nat.le_refl _) ⟨rfl, rfl⟩
          · rw [if_neg c_34] at h
            refine q_aload rfl ?_
            refine q_iconst (4) (by decide) ?_
            refine q_iload rfl ?_
            refine q_iadd ?_
            refine q_iload rfl ?_
            obtain ⟨d_42, h⟩ := ite_some h
            obtain ⟨⟨x2_42, I2_42, L2_42⟩, e_42, h⟩ := Option.bind_eq_some_iff.mp h
            dsimp only at h
            refine q_fv3I (a_199 X hS (d := d - 1) (by omega) e_42) (by omega) (Nat.le_refl _) (Nat.le_refl _) rfl (Nat.le_of_ble_eq_true rfl) ⟨(zl hS 105 (by decide)), congrArg Prod.fst (sk hS 105 (by decide) rfl), by decide⟩ ?_
            refine q_goto ?_
            refine K_of b_207_53 h_207_53 ?_
            cases h
            exact q_iret rfl (Nat.le_refl _) (Nat.le_refl _) ⟨rfl, rfl⟩
        · rw [if_pos c_19] at h
          refine q_lconst (99) (by decide) ?_
          refine q_goto ?_
          refine K_of b_207_31 h_207_31 ?_
          obtain ⟨d_31, h⟩ := ite_some h
          obtain ⟨⟨x1_31, I1_31, L1_31⟩, e_31, h⟩ := Option.bind_eq_some_iff.mp h
          dsimp only at h
          refine q_fs3I (a_193 X hS (d := d - 1) (by omega) e_31) (by omega) (Nat.le_refl _) (Nat.le_refl _) rfl (Nat.le_of_ble_eq_true rfl) ?_
          refine q_if_eq (fun c_34 => ?_) (fun c_34 => ?_)
          · rw [if_pos c_34] at h
            refine K_of b_207_48 h_207_48 ?_
            refine q_aload rfl ?_
            refine q_iconst (-1) (by decide) ?_
            obtain ⟨d_50, h⟩ := ite_some h
            obtain ⟨⟨x2_50, I2_50, L2_50⟩, e_50, h⟩ := Option.bind_eq_some_iff.mp h
            dsimp only at h
            refine q_fv2I (a_194 X hS (d := d - 1) (by omega) e_50) (by omega) (Nat.le_refl _) (Nat.le_refl _) rfl (Nat.le_of_ble_eq_true rfl) ⟨(zl hS 105 (by decide)), congrArg Prod.fst (sk hS 105 (by decide) rfl), by decide⟩ ?_
            refine q_end ?_
            refine K_of b_207_53 h_207_53 ?_
            cases h
            exact q_iret rfl (Nat.le_refl _) (Nat.le_refl _) ⟨rfl, rfl⟩
          · rw [if_neg c_34] at h
            refine q_aload rfl ?_
            refine q_iconst (4) (by decide) ?_
            refine q_iload rfl ?_
            refine q_iadd ?_
            refine q_iload rfl ?_
            obtain ⟨d_42, h⟩ := ite_some h
            obtain ⟨⟨x2_42, I2_42, L2_42⟩, e_42, h⟩ := Option.bind_eq_some_iff.mp h
            dsimp only at h
            refine q_fv3I (a_199 X hS (d := d - 1) (by omega) e_42) (by omega) (Nat.le_refl _) (Nat.le_refl _) rfl (Nat.le_of_ble_eq_true rfl) ⟨(zl hS 105 (by decide)), congrArg Prod.fst (sk hS 105 (by decide) rfl), by decide⟩ ?_
            refine q_goto ?_
            refine K_of b_207_53 h_207_53 ?_
            cases h
            exact q_iret rfl (Nat.le_refl _) (Nat.le_refl _) ⟨rfl, rfl⟩
theorem a_207 (X : GX) {z : Nat} {kd : Nat → Nat × Nat} {Rf : Nat → Nat → Option Nat} (hS : Sh z kd Rf) {n dp d : Nat} (hd : dp ≤ d) {I : (Nat → Nat → Int32)} {L : (Nat → Nat → Int64)} {i1 : Int32} {i2 : Int32} {I1 : (Nat → Nat → Int32)} {L1 : (Nat → Nat → Int64)} {r : Int32} (h : g_207 n dp (z, kd, Rf) 0 I L i1 i2 = some (r, I1, L1)) : Ct X d 207 0 0 [.ref 105, .int i1, .int i2] (z, kd, I, L, Rf) (AI (fun x τ => x = r ∧ τ = (z, kd, I1, L1, Rf))) :=
  Ct_of mu_207 (Nat.le_of_ble_eq_true rfl) ((w_207 X hS n dp d hd I L i1 i2 _ _ _) h)

/-! 209 CutFloorModel.four(I)V -/
set_option maxHeartbeats 4000000 in
set_option maxRecDepth 100000 in
def g_209 : Nat → Nat → EN → Nat → (Nat → Nat → Int32) → (Nat → Nat → Int64) → Int32 → Int32 →  Option ((Nat → Nat → Int32) × (Nat → Nat → Int64))
  | 0, _, _, _, _, _, _, _ => none
  | n + 1, dp, e, lab, I, L, i1, i2 =>
    if lab = 0 then (g_209 n dp e 1 I L i1 (24 : Int32))
    else if lab = 1 then (if i2 < 0 then (some (I, L)) else (if 0 ≤ (I 105 7) ∧ (Int32.toNatClampNeg (I 105 7)) < 400 then (stI (u2 I 110 (Int32.toNatClampNeg (I 105 7)) ((i1 >>> (i2 &&& 31)) &&& (255 : Int32))) (fun I_22 => (stI (u2 I_22 105 7 ((I_22 105 7) + (1 : Int32))) (fun I_30 => (g_209 n dp e 1 I_30 L i1 (i2 + Int32.ofInt (-8))))))) else none))
    else none
set_option maxRecDepth 100000 in
theorem e_209_0 (n dp : Nat) (e : EN) (I : (Nat → Nat → Int32)) (L : (Nat → Nat → Int64)) (i1 : Int32) (i2 : Int32) : g_209 (n + 1) dp e 0 I L i1 i2 = (g_209 n dp e 1 I L i1 (24 : Int32)) := by rw [g_209.eq_2, if_pos (show (0 : Nat) = 0 from rfl)]
set_option maxRecDepth 100000 in
theorem e_209_1 (n dp : Nat) (e : EN) (I : (Nat → Nat → Int32)) (L : (Nat → Nat → Int64)) (i1 : Int32) (i2 : Int32) : g_209 (n + 1) dp e 1 I L i1 i2 = (if i2 < 0 then (some (I, L)) else (if 0 ≤ (I 105 7) ∧ (Int32.toNatClampNeg (I 105 7)) < 400 then (stI (u2 I 110 (Int32.toNatClampNeg (I 105 7)) ((i1 >>> (i2 &&& 31)) &&& (255 : Int32))) (fun I_22 => (stI (u2 I_22 105 7 ((I_22 105 7) + (1 : Int32))) (fun I_30 => (g_209 n dp e 1 I_30 L i1 (i2 + Int32.ofInt (-8))))))) else none)) := by rw [g_209.eq_2, if_neg (show ¬ ((1 : Nat) = 0) by decide), if_pos (show (1 : Nat) = 1 from rfl)]
set_option maxHeartbeats 8000000 in
set_option maxRecDepth 100000 in
theorem w_209 (X : GX) {z : Nat} {kd : Nat → Nat × Nat} {Rf : Nat → Nat → Option Nat} (hS : Sh z kd Rf) : ∀ (n dp d : Nat), dp ≤ d → ∀ (I : (Nat → Nat → Int32)) (L : (Nat → Nat → Int64)) (i1 : Int32) (i2 : Int32) (I1 : (Nat → Nat → Int32)) (L1 : (Nat → Nat → Int64)), (g_209 n dp (z, kd, Rf) 0 I L i1 i2 = some (I1, L1) → K X d 209 0 0 (AV (fun τ => τ = (z, kd, I1, L1, Rf))) 0 [some (.ref 105), some (.int i1), none] [] (z, kd, I, L, Rf) 0 0) ∧
    (g_209 n dp (z, kd, Rf) 1 I L i1 i2 = some (I1, L1) → K X d 209 0 0 (AV (fun τ => τ = (z, kd, I1, L1, Rf))) 3 [some (.ref 105), some (.int i1), some (.int i2)] [] (z, kd, I, L, Rf) 0 0) := by
  intro n
  induction n with
  | zero => intro dp d hdp I L i1 i2 I1 L1; exact ⟨(fun h => by cases h), (fun h => by cases h)⟩
  | succ n ih =>
    intro dp d hdp I L i1 i2 I1 L1
    refine ⟨?_, ?_⟩
    · intro h
      rw [e_209_0] at h
      refine K_of b_209_0 h_209_0 ?_
      refine q_iconst (24) (by decide) ?_
      refine q_istore (ls1 := [some (.ref 105), some (.int i1), some (.int (24 : Int32))]) (Nat.le_of_ble_eq_true rfl) rfl ?_
      refine q_end ?_
      exact (ih dp d hdp _ _ i1 (24 : Int32) _ _).2 h
    · intro h
      rw [e_209_1] at h
      refine K_of b_209_3 h_209_3 ?_
      refine q_iload rfl ?_
      refine q_if_lt (fun c_4 => ?_) (fun c_4 => ?_)
      · rw [if_pos c_4] at h
        refine K_of b_209_39 h_209_39 ?_
        cases h
        exact q_vret rfl (Nat.le_refl _) (Nat.le_refl _) rfl
      · rw [if_neg c_4] at h
        refine q_aload rfl ?_
        refine q_getRs (c0 := 12) (j := 6) rfl rfl (zl hS 105 (by decide)) (sk hS 105 (by decide) rfl) rfl (by decide) (r_105_6 hS) ?_
        refine q_aload rfl ?_
        refine q_getI (c0 := 12) (j := 7) rfl rfl (zl hS 105 (by decide)) (sk hS 105 (by decide) rfl) (Or.inl rfl) (by decide) ?_
        refine q_iload rfl ?_
        refine q_iload rfl ?_
        refine q_ishr ?_
        refine q_iconst (255) (by decide) ?_
        refine q_iand ?_
        obtain ⟨⟨u_22, v_22⟩, h⟩ := ite_some h
        refine q_iasN (Int32.toNatClampNeg (I 105 7)) (nx u_22) (zl hS 110 (by decide)) (sk hS 110 (by decide) rfl) v_22 (by decide) ?_
        obtain ⟨I_22, nI_22, h⟩ := stI_some h
        refine q_nI nI_22 ?_
        refine q_aload rfl ?_
        refine q_dup rfl ?_
        refine q_getI (c0 := 12) (j := 7) rfl rfl (zl hS 105 (by decide)) (sk hS 105 (by decide) rfl) (Or.inl rfl) (by decide) ?_
        refine q_iconst (1) (by decide) ?_
        refine q_iadd ?_
        refine q_putI (c0 := 12) (j := 7) rfl rfl (zl hS 105 (by decide)) (sk hS 105 (by decide) rfl) rfl ?_
        obtain ⟨I_30, nI_30, h⟩ := stI_some h
        refine q_nI nI_30 ?_
        refine q_iinc (ls1 := [some (.ref 105), some (.int i1), some (.int (i2 + Int32.ofInt (-8)))]) rfl rfl ?_
        refine q_goto ?_
        exact (ih dp d hdp _ _ i1 (i2 + Int32.ofInt (-8)) _ _).2 h
theorem a_209 (X : GX) {z : Nat} {kd : Nat → Nat × Nat} {Rf : Nat → Nat → Option Nat} (hS : Sh z kd Rf) {n dp d : Nat} (hd : dp ≤ d) {I : (Nat → Nat → Int32)} {L : (Nat → Nat → Int64)} {i1 : Int32} {I1 : (Nat → Nat → Int32)} {L1 : (Nat → Nat → Int64)} (h : g_209 n dp (z, kd, Rf) 0 I L i1 0 = some (I1, L1)) : Ct X d 209 0 0 [.ref 105, .int i1] (z, kd, I, L, Rf) (AV (fun τ => τ = (z, kd, I1, L1, Rf))) :=
  Ct_of mu_209 (Nat.le_of_ble_eq_true rfl) ((w_209 X hS n dp d hd I L i1 0 _ _).1 h)

/-! 208 CutFloorModel.feed(IIIII)I -/
set_option maxHeartbeats 4000000 in
set_option maxRecDepth 100000 in
def g_208 : Nat → Nat → EN → Nat → (Nat → Nat → Int32) → (Nat → Nat → Int64) → Int32 → Int32 → Int32 → Int32 → Int32 →  Option (Int32 × (Nat → Nat → Int32) × (Nat → Nat → Int64))
  | 0, _, _, _, _, _, _, _, _, _, _ => none
  | n + 1, dp, e, lab, I, L, i1, i2, i3, i4, i5 =>
    if lab = 0 then (stI (u2 I 105 0 (0 : Int32)) (fun I_2 => (if ((I_2 105 7) + (20 : Int32)) ≤ (400 : Int32) then (if 1 ≤ dp then (g_209 n (dp - 1) e 0 I_2 L i1 0).bind (fun ⟨I0_22, L0_22⟩ => (if 1 ≤ dp then (g_209 n (dp - 1) e 0 I0_22 L0_22 i2 0).bind (fun ⟨I1_27, L1_27⟩ => (if 1 ≤ dp then (g_209 n (dp - 1) e 0 I1_27 L1_27 i3 0).bind (fun ⟨I2_32, L2_32⟩ => (if 1 ≤ dp then (g_209 n (dp - 1) e 0 I2_32 L2_32 i4 0).bind (fun ⟨I3_38, L3_38⟩ => (if 1 ≤ dp then (g_209 n (dp - 1) e 0 I3_38 L3_38 i5 0).bind (fun ⟨I4_44, L4_44⟩ => (some ((I4_44 105 7), I4_44, L4_44))) else none)) else none)) else none)) else none)) else none) else (some ((-1 : Int32), I_2, L)))))
    else none
set_option maxRecDepth 100000 in
theorem e_208_0 (n dp : Nat) (e : EN) (I : (Nat → Nat → Int32)) (L : (Nat → Nat → Int64)) (i1 : Int32) (i2 : Int32) (i3 : Int32) (i4 : Int32) (i5 : Int32) : g_208 (n + 1) dp e 0 I L i1 i2 i3 i4 i5 = (stI (u2 I 105 0 (0 : Int32)) (fun I_2 => (if ((I_2 105 7) + (20 : Int32)) ≤ (400 : Int32) then (if 1 ≤ dp then (g_209 n (dp - 1) e 0 I_2 L i1 0).bind (fun ⟨I0_22, L0_22⟩ => (if 1 ≤ dp then (g_209 n (dp - 1) e 0 I0_22 L0_22 i2 0).bind (fun ⟨I1_27, L1_27⟩ => (if 1 ≤ dp then (g_209 n (dp - 1) e 0 I1_27 L1_27 i3 0).bind (fun ⟨I2_32, L2_32⟩ => (if 1 ≤ dp then (g_209 n (dp - 1) e 0 I2_32 L2_32 i4 0).bind (fun ⟨I3_38, L3_38⟩ => (if 1 ≤ dp then (g_209 n (dp - 1) e 0 I3_38 L3_38 i5 0).bind (fun ⟨I4_44, L4_44⟩ => (some ((I4_44 105 7), I4_44, L4_44))) else none)) else none)) else none)) else none)) else none) else (some ((-1 : Int32), I_2, L))))) := by rw [g_208.eq_2, if_pos (show (0 : Nat) = 0 from rfl)]
set_option maxHeartbeats 8000000 in
set_option maxRecDepth 100000 in
theorem w_208 (X : GX) {z : Nat} {kd : Nat → Nat × Nat} {Rf : Nat → Nat → Option Nat} (hS : Sh z kd Rf) : ∀ (n dp d : Nat), dp ≤ d → ∀ (I : (Nat → Nat → Int32)) (L : (Nat → Nat → Int64)) (i1 : Int32) (i2 : Int32) (i3 : Int32) (i4 : Int32) (i5 : Int32) (r : Int32) (I1 : (Nat → Nat → Int32)) (L1 : (Nat → Nat → Int64)), (g_208 n dp (z, kd, Rf) 0 I L i1 i2 i3 i4 i5 = some (r, I1, L1) → K X d 208 0 0 (AI (fun x τ => x = r ∧ τ = (z, kd, I1, L1, Rf))) 0 [some (.ref 105), some (.int i1), some (.int i2), some (.int i3), some (.int i4), some (.int i5)] [] (z, kd, I, L, Rf) 0 0) := by
  intro n
  induction n with
  | zero => intro dp d hdp I L i1 i2 i3 i4 i5 r I1 L1; exact fun h => by cases h
  | succ n ih =>
    intro dp d hdp I L i1 i2 i3 i4 i5 r I1 L1
    · intro h
      rw [e_208_0] at h
      refine K_of b_208_0 h_208_0 ?_
      refine q_aload rfl ?_
      refine q_iconst (0) (by decide) ?_
      refine q_putI (c0 := 12) (j := 0) rfl rfl (zl hS 105 (by decide)) (sk hS 105 (by decide) rfl) rfl ?_
      obtain ⟨I_2, nI_2, h⟩ := stI_some h
      refine q_nI nI_2 ?_
      refine q_aload rfl ?_
      refine q_getI (c0 := 12) (j := 7) rfl rfl (zl hS 105 (by decide)) (sk hS 105 (by decide) rfl) (Or.inl rfl) (by decide) ?_
      refine q_iconst (20) (by decide) ?_
      refine q_iadd ?_
      refine q_iconst (400) (by decide) ?_
      refine q_icmp_le (fun c_15 => ?_) (fun c_15 => ?_)
      · rw [if_pos c_15] at h
        refine K_of b_208_20 h_208_20 ?_
        refine q_aload rfl ?_
        refine q_iload rfl ?_
        obtain ⟨d_22, h⟩ := ite_some h
        obtain ⟨⟨I0_22, L0_22⟩, e_22, h⟩ := Option.bind_eq_some_iff.mp h
        dsimp only at h
        refine q_fv2V (a_209 X hS (d := d - 1) (by omega) e_22) (by omega) (Nat.le_refl _) (Nat.le_refl _) rfl (Nat.le_of_ble_eq_true rfl) ⟨(zl hS 105 (by decide)), congrArg Prod.fst (sk hS 105 (by decide) rfl), by decide⟩ ?_
        refine q_aload rfl ?_
        refine q_iload rfl ?_
        obtain ⟨d_27, h⟩ := ite_some h
        obtain ⟨⟨I1_27, L1_27⟩, e_27, h⟩ := Option.bind_eq_some_iff.mp h
        dsimp only at h
        refine q_fv2V (a_209 X hS (d := d - 1) (by omega) e_27) (by omega) (Nat.le_refl _) (Nat.le_refl _) rfl (Nat.le_of_ble_eq_true rfl) ⟨(zl hS 105 (by decide)), congrArg Prod.fst (sk hS 105 (by decide) rfl), by decide⟩ ?_
        refine q_aload rfl ?_
        refine q_iload rfl ?_
        obtain ⟨d_32, h⟩ := ite_some h
        obtain ⟨⟨I2_32, L2_32⟩, e_32, h⟩ := Option.bind_eq_some_iff.mp h
        dsimp only at h
        refine q_fv2V (a_209 X hS (d := d - 1) (by omega) e_32) (by omega) (Nat.le_refl _) (Nat.le_refl _) rfl (Nat.le_of_ble_eq_true rfl) ⟨(zl hS 105 (by decide)), congrArg Prod.fst (sk hS 105 (by decide) rfl), by decide⟩ ?_
        refine q_aload rfl ?_
        refine q_iload rfl ?_
        obtain ⟨d_38, h⟩ := ite_some h
        obtain ⟨⟨I3_38, L3_38⟩, e_38, h⟩ := Option.bind_eq_some_iff.mp h
        dsimp only at h
        refine q_fv2V (a_209 X hS (d := d - 1) (by omega) e_38) (by omega) (Nat.le_refl _) (Nat.le_refl _) rfl (Nat.le_of_ble_eq_true rfl) ⟨(zl hS 105 (by decide)), congrArg Prod.fst (sk hS 105 (by decide) rfl), by decide⟩ ?_
        refine q_aload rfl ?_
        refine q_iload rfl ?_
        obtain ⟨d_44, h⟩ := ite_some h
        obtain ⟨⟨I4_44, L4_44⟩, e_44, h⟩ := Option.bind_eq_some_iff.mp h
        dsimp only at h
        refine q_fv2V (a_209 X hS (d := d - 1) (by omega) e_44) (by omega) (Nat.le_refl _) (Nat.le_refl _) rfl (Nat.le_of_ble_eq_true rfl) ⟨(zl hS 105 (by decide)), congrArg Prod.fst (sk hS 105 (by decide) rfl), by decide⟩ ?_
        refine q_aload rfl ?_
        refine q_getI (c0 := 12) (j := 7) rfl rfl (zl hS 105 (by decide)) (sk hS 105 (by decide) rfl) (Or.inl rfl) (by decide) ?_
        cases h
        exact q_iret rfl (Nat.le_refl _) (Nat.le_refl _) ⟨rfl, rfl⟩
      · rw [if_neg c_15] at h
        refine q_iconst (-1) (by decide) ?_
        cases h
        exact q_iret rfl (Nat.le_refl _) (Nat.le_refl _) ⟨rfl, rfl⟩
theorem a_208 (X : GX) {z : Nat} {kd : Nat → Nat × Nat} {Rf : Nat → Nat → Option Nat} (hS : Sh z kd Rf) {n dp d : Nat} (hd : dp ≤ d) {I : (Nat → Nat → Int32)} {L : (Nat → Nat → Int64)} {i1 : Int32} {i2 : Int32} {i3 : Int32} {i4 : Int32} {i5 : Int32} {I1 : (Nat → Nat → Int32)} {L1 : (Nat → Nat → Int64)} {r : Int32} (h : g_208 n dp (z, kd, Rf) 0 I L i1 i2 i3 i4 i5 = some (r, I1, L1)) : Ct X d 208 0 0 [.ref 105, .int i1, .int i2, .int i3, .int i4, .int i5] (z, kd, I, L, Rf) (AI (fun x τ => x = r ∧ τ = (z, kd, I1, L1, Rf))) :=
  Ct_of mu_208 (Nat.le_of_ble_eq_true rfl) ((w_208 X hS n dp d hd I L i1 i2 i3 i4 i5 _ _ _) h)

/-! 210 CutFloorModel.end(I)I -/
set_option maxHeartbeats 4000000 in
set_option maxRecDepth 100000 in
def g_210 : Nat → Nat → EN → Nat → (Nat → Nat → Int32) → (Nat → Nat → Int64) → Int32 →  Option (Int32 × (Nat → Nat → Int32) × (Nat → Nat → Int64))
  | 0, _, _, _, _, _, _ => none
  | n + 1, dp, e, lab, I, L, i1 =>
    if lab = 0 then (stI (u2 I 105 0 (0 : Int32)) (fun I_2 => (if i1 < 0 then (some ((-1 : Int32), I_2, L)) else (if i1 ≤ (I_2 105 7) then (stI (u2 I_2 105 7 i1) (fun I_21 => (some (i1, I_21, L)))) else (some ((-1 : Int32), I_2, L))))))
    else none
set_option maxRecDepth 100000 in
theorem e_210_0 (n dp : Nat) (e : EN) (I : (Nat → Nat → Int32)) (L : (Nat → Nat → Int64)) (i1 : Int32) : g_210 (n + 1) dp e 0 I L i1 = (stI (u2 I 105 0 (0 : Int32)) (fun I_2 => (if i1 < 0 then (some ((-1 : Int32), I_2, L)) else (if i1 ≤ (I_2 105 7) then (stI (u2 I_2 105 7 i1) (fun I_21 => (some (i1, I_21, L)))) else (some ((-1 : Int32), I_2, L)))))) := by rw [g_210.eq_2, if_pos (show (0 : Nat) = 0 from rfl)]
set_option maxHeartbeats 8000000 in
set_option maxRecDepth 100000 in
theorem w_210 (X : GX) {z : Nat} {kd : Nat → Nat × Nat} {Rf : Nat → Nat → Option Nat} (hS : Sh z kd Rf) : ∀ (n dp d : Nat), dp ≤ d → ∀ (I : (Nat → Nat → Int32)) (L : (Nat → Nat → Int64)) (i1 : Int32) (r : Int32) (I1 : (Nat → Nat → Int32)) (L1 : (Nat → Nat → Int64)), (g_210 n dp (z, kd, Rf) 0 I L i1 = some (r, I1, L1) → K X d 210 0 0 (AI (fun x τ => x = r ∧ τ = (z, kd, I1, L1, Rf))) 0 [some (.ref 105), some (.int i1)] [] (z, kd, I, L, Rf) 0 0) := by
  intro n
  induction n with
  | zero => intro dp d hdp I L i1 r I1 L1; exact fun h => by cases h
  | succ n ih =>
    intro dp d hdp I L i1 r I1 L1
    · intro h
      rw [e_210_0] at h
      refine K_of b_210_0 h_210_0 ?_
      refine q_aload rfl ?_
      refine q_iconst (0) (by decide) ?_
      refine q_putI (c0 := 12) (j := 0) rfl rfl (zl hS 105 (by decide)) (sk hS 105 (by decide) rfl) rfl ?_
      obtain ⟨I_2, nI_2, h⟩ := stI_some h
      refine q_nI nI_2 ?_
      refine q_iload rfl ?_
      refine q_if_lt (fun c_6 => ?_) (fun c_6 => ?_)
      · rw [if_pos c_6] at h
        refine K_of b_210_17 h_210_17 ?_
        refine q_iconst (-1) (by decide) ?_
        cases h
        exact q_iret rfl (Nat.le_refl _) (Nat.le_refl _) ⟨rfl, rfl⟩
      · rw [if_neg c_6] at h
        refine q_iload rfl ?_
        refine q_aload rfl ?_
        refine q_getI (c0 := 12) (j := 7) rfl rfl (zl hS 105 (by decide)) (sk hS 105 (by decide) rfl) (Or.inl rfl) (by decide) ?_
        refine q_icmp_le (fun c_14 => ?_) (fun c_14 => ?_)
        · rw [if_pos c_14] at h
          refine K_of b_210_19 h_210_19 ?_
          refine q_aload rfl ?_
          refine q_iload rfl ?_
          refine q_putI (c0 := 12) (j := 7) rfl rfl (zl hS 105 (by decide)) (sk hS 105 (by decide) rfl) rfl ?_
          obtain ⟨I_21, nI_21, h⟩ := stI_some h
          refine q_nI nI_21 ?_
          refine q_iload rfl ?_
          cases h
          exact q_iret rfl (Nat.le_refl _) (Nat.le_refl _) ⟨rfl, rfl⟩
        · rw [if_neg c_14] at h
          refine q_end ?_
          refine K_of b_210_17 h_210_17 ?_
          refine q_iconst (-1) (by decide) ?_
          cases h
          exact q_iret rfl (Nat.le_refl _) (Nat.le_refl _) ⟨rfl, rfl⟩
theorem a_210 (X : GX) {z : Nat} {kd : Nat → Nat × Nat} {Rf : Nat → Nat → Option Nat} (hS : Sh z kd Rf) {n dp d : Nat} (hd : dp ≤ d) {I : (Nat → Nat → Int32)} {L : (Nat → Nat → Int64)} {i1 : Int32} {I1 : (Nat → Nat → Int32)} {L1 : (Nat → Nat → Int64)} {r : Int32} (h : g_210 n dp (z, kd, Rf) 0 I L i1 = some (r, I1, L1)) : Ct X d 210 0 0 [.ref 105, .int i1] (z, kd, I, L, Rf) (AI (fun x τ => x = r ∧ τ = (z, kd, I1, L1, Rf))) :=
  Ct_of mu_210 (Nat.le_of_ble_eq_true rfl) ((w_210 X hS n dp d hd I L i1 _ _ _) h)

/-! 211 CutFloorModel.fault()I -/
set_option maxHeartbeats 4000000 in
set_option maxRecDepth 100000 in
def g_211 : Nat → Nat → EN → Nat → (Nat → Nat → Int32) → (Nat → Nat → Int64) →  Option (Int32 × (Nat → Nat → Int32) × (Nat → Nat → Int64))
  | 0, _, _, _, _, _ => none
  | n + 1, dp, e, lab, I, L =>
    if lab = 0 then (stI (u2 I 105 0 (0 : Int32)) (fun I_2 => (some ((I_2 105 12), I_2, L))))
    else none
set_option maxRecDepth 100000 in
theorem e_211_0 (n dp : Nat) (e : EN) (I : (Nat → Nat → Int32)) (L : (Nat → Nat → Int64)) : g_211 (n + 1) dp e 0 I L = (stI (u2 I 105 0 (0 : Int32)) (fun I_2 => (some ((I_2 105 12), I_2, L)))) := by rw [g_211.eq_2, if_pos (show (0 : Nat) = 0 from rfl)]
set_option maxHeartbeats 8000000 in
set_option maxRecDepth 100000 in
theorem w_211 (X : GX) {z : Nat} {kd : Nat → Nat × Nat} {Rf : Nat → Nat → Option Nat} (hS : Sh z kd Rf) : ∀ (n dp d : Nat), dp ≤ d → ∀ (I : (Nat → Nat → Int32)) (L : (Nat → Nat → Int64)) (r : Int32) (I1 : (Nat → Nat → Int32)) (L1 : (Nat → Nat → Int64)), (g_211 n dp (z, kd, Rf) 0 I L = some (r, I1, L1) → K X d 211 0 0 (AI (fun x τ => x = r ∧ τ = (z, kd, I1, L1, Rf))) 0 [some (.ref 105)] [] (z, kd, I, L, Rf) 0 0) := by
  intro n
  induction n with
  | zero => intro dp d hdp I L r I1 L1; exact fun h => by cases h
  | succ n ih =>
    intro dp d hdp I L r I1 L1
    · intro h
      rw [e_211_0] at h
      refine K_of b_211_0 h_211_0 ?_
      refine q_aload rfl ?_
      refine q_iconst (0) (by decide) ?_
      refine q_putI (c0 := 12) (j := 0) rfl rfl (zl hS 105 (by decide)) (sk hS 105 (by decide) rfl) rfl ?_
      obtain ⟨I_2, nI_2, h⟩ := stI_some h
      refine q_nI nI_2 ?_
      refine q_aload rfl ?_
      refine q_getI (c0 := 12) (j := 12) rfl rfl (zl hS 105 (by decide)) (sk hS 105 (by decide) rfl) (Or.inl rfl) (by decide) ?_
      cases h
      exact q_iret rfl (Nat.le_refl _) (Nat.le_refl _) ⟨rfl, rfl⟩
theorem a_211 (X : GX) {z : Nat} {kd : Nat → Nat × Nat} {Rf : Nat → Nat → Option Nat} (hS : Sh z kd Rf) {n dp d : Nat} (hd : dp ≤ d) {I : (Nat → Nat → Int32)} {L : (Nat → Nat → Int64)} {I1 : (Nat → Nat → Int32)} {L1 : (Nat → Nat → Int64)} {r : Int32} (h : g_211 n dp (z, kd, Rf) 0 I L = some (r, I1, L1)) : Ct X d 211 0 0 [.ref 105] (z, kd, I, L, Rf) (AI (fun x τ => x = r ∧ τ = (z, kd, I1, L1, Rf))) :=
  Ct_of mu_211 (Nat.le_of_ble_eq_true rfl) ((w_211 X hS n dp d hd I L _ _ _) h)

/-! 215 CutFloorModel.isSmall(I)Z -/
set_option maxHeartbeats 4000000 in
set_option maxRecDepth 100000 in
def g_215 : Nat → Nat → EN → Nat → (Nat → Nat → Int32) → (Nat → Nat → Int64) → Int32 →  Option (Int32 × (Nat → Nat → Int32) × (Nat → Nat → Int64))
  | 0, _, _, _, _, _, _ => none
  | n + 1, dp, e, lab, I, L, i0 =>
    if lab = 0 then (if i0 < (97 : Int32) then (some ((0 : Int32), I, L)) else (if (122 : Int32) < i0 then (some ((0 : Int32), I, L)) else (some ((1 : Int32), I, L))))
    else none
set_option maxRecDepth 100000 in
theorem e_215_0 (n dp : Nat) (e : EN) (I : (Nat → Nat → Int32)) (L : (Nat → Nat → Int64)) (i0 : Int32) : g_215 (n + 1) dp e 0 I L i0 = (if i0 < (97 : Int32) then (some ((0 : Int32), I, L)) else (if (122 : Int32) < i0 then (some ((0 : Int32), I, L)) else (some ((1 : Int32), I, L)))) := by rw [g_215.eq_2, if_pos (show (0 : Nat) = 0 from rfl)]
set_option maxHeartbeats 8000000 in
set_option maxRecDepth 100000 in
theorem w_215 (X : GX) {z : Nat} {kd : Nat → Nat × Nat} {Rf : Nat → Nat → Option Nat} (hS : Sh z kd Rf) : ∀ (n dp d : Nat), dp ≤ d → ∀ (I : (Nat → Nat → Int32)) (L : (Nat → Nat → Int64)) (i0 : Int32) (r : Int32) (I1 : (Nat → Nat → Int32)) (L1 : (Nat → Nat → Int64)), (g_215 n dp (z, kd, Rf) 0 I L i0 = some (r, I1, L1) → K X d 215 0 0 (AI (fun x τ => x = r ∧ τ = (z, kd, I1, L1, Rf))) 0 [some (.int i0)] [] (z, kd, I, L, Rf) 0 0) := by
  intro n
  induction n with
  | zero => intro dp d hdp I L i0 r I1 L1; exact fun h => by cases h
  | succ n ih =>
    intro dp d hdp I L i0 r I1 L1
    · intro h
      rw [e_215_0] at h
      refine K_of b_215_0 h_215_0 ?_
      refine q_iload rfl ?_
      refine q_iconst (97) (by decide) ?_
      refine q_icmp_lt (fun c_3 => ?_) (fun c_3 => ?_)
      · rw [if_pos c_3] at h
        refine K_of b_215_16 h_215_16 ?_
        refine q_iconst (0) (by decide) ?_
        refine q_end ?_
        refine K_of b_215_17 h_215_17 ?_
        cases h
        exact q_iret rfl (Nat.le_refl _) (Nat.le_refl _) ⟨rfl, rfl⟩
      · rw [if_neg c_3] at h
        refine q_iload rfl ?_
        refine q_iconst (122) (by decide) ?_
        refine q_icmp_gt (fun c_9 => ?_) (fun c_9 => ?_)
        · rw [if_pos c_9] at h
          refine K_of b_215_16 h_215_16 ?_
          refine q_iconst (0) (by decide) ?_
          refine q_end ?_
          refine K_of b_215_17 h_215_17 ?_
          cases h
          exact q_iret rfl (Nat.le_refl _) (Nat.le_refl _) ⟨rfl, rfl⟩
        · rw [if_neg c_9] at h
          refine q_iconst (1) (by decide) ?_
          refine q_goto ?_
          refine K_of b_215_17 h_215_17 ?_
          cases h
          exact q_iret rfl (Nat.le_refl _) (Nat.le_refl _) ⟨rfl, rfl⟩
theorem a_215 (X : GX) {z : Nat} {kd : Nat → Nat × Nat} {Rf : Nat → Nat → Option Nat} (hS : Sh z kd Rf) {n dp d : Nat} (hd : dp ≤ d) {I : (Nat → Nat → Int32)} {L : (Nat → Nat → Int64)} {i0 : Int32} {I1 : (Nat → Nat → Int32)} {L1 : (Nat → Nat → Int64)} {r : Int32} (h : g_215 n dp (z, kd, Rf) 0 I L i0 = some (r, I1, L1)) : Ct X d 215 0 0 [.int i0] (z, kd, I, L, Rf) (AI (fun x τ => x = r ∧ τ = (z, kd, I1, L1, Rf))) :=
  Ct_of mu_215 (Nat.le_of_ble_eq_true rfl) ((w_215 X hS n dp d hd I L i0 _ _ _) h)

/-! 216 CutFloorModel.isDigit(I)Z -/
set_option maxHeartbeats 4000000 in
set_option maxRecDepth 100000 in
def g_216 : Nat → Nat → EN → Nat → (Nat → Nat → Int32) → (Nat → Nat → Int64) → Int32 →  Option (Int32 × (Nat → Nat → Int32) × (Nat → Nat → Int64))
  | 0, _, _, _, _, _, _ => none
  | n + 1, dp, e, lab, I, L, i0 =>
    if lab = 0 then (if i0 < (48 : Int32) then (some ((0 : Int32), I, L)) else (if (57 : Int32) < i0 then (some ((0 : Int32), I, L)) else (some ((1 : Int32), I, L))))
    else none
set_option maxRecDepth 100000 in
theorem e_216_0 (n dp : Nat) (e : EN) (I : (Nat → Nat → Int32)) (L : (Nat → Nat → Int64)) (i0 : Int32) : g_216 (n + 1) dp e 0 I L i0 = (if i0 < (48 : Int32) then (some ((0 : Int32), I, L)) else (if (57 : Int32) < i0 then (some ((0 : Int32), I, L)) else (some ((1 : Int32), I, L)))) := by rw [g_216.eq_2, if_pos (show (0 : Nat) = 0 from rfl)]
set_option maxHeartbeats 8000000 in
set_option maxRecDepth 100000 in
theorem w_216 (X : GX) {z : Nat} {kd : Nat → Nat × Nat} {Rf : Nat → Nat → Option Nat} (hS : Sh z kd Rf) : ∀ (n dp d : Nat), dp ≤ d → ∀ (I : (Nat → Nat → Int32)) (L : (Nat → Nat → Int64)) (i0 : Int32) (r : Int32) (I1 : (Nat → Nat → Int32)) (L1 : (Nat → Nat → Int64)), (g_216 n dp (z, kd, Rf) 0 I L i0 = some (r, I1, L1) → K X d 216 0 0 (AI (fun x τ => x = r ∧ τ = (z, kd, I1, L1, Rf))) 0 [some (.int i0)] [] (z, kd, I, L, Rf) 0 0) := by
  intro n
  induction n with
  | zero => intro dp d hdp I L i0 r I1 L1; exact fun h => by cases h
  | succ n ih =>
    intro dp d hdp I L i0 r I1 L1
    · intro h
      rw [e_216_0] at h
      refine K_of b_216_0 h_216_0 ?_
      refine q_iload rfl ?_
      refine q_iconst (48) (by decide) ?_
      refine q_icmp_lt (fun c_3 => ?_) (fun c_3 => ?_)
      · rw [if_pos c_3] at h
        refine K_of b_216_16 h_216_16 ?_
        refine q_iconst (0) (by decide) ?_
        refine q_end ?_
        refine K_of b_216_17 h_216_17 ?_
        cases h
        exact q_iret rfl (Nat.le_refl _) (Nat.le_refl _) ⟨rfl, rfl⟩
      · rw [if_neg c_3] at h
        refine q_iload rfl ?_
        refine q_iconst (57) (by decide) ?_
        refine q_icmp_gt (fun c_9 => ?_) (fun c_9 => ?_)
        · rw [if_pos c_9] at h
          refine K_of b_216_16 h_216_16 ?_
          refine q_iconst (0) (by decide) ?_
          refine q_end ?_
          refine K_of b_216_17 h_216_17 ?_
          cases h
          exact q_iret rfl (Nat.le_refl _) (Nat.le_refl _) ⟨rfl, rfl⟩
        · rw [if_neg c_9] at h
          refine q_iconst (1) (by decide) ?_
          refine q_goto ?_
          refine K_of b_216_17 h_216_17 ?_
          cases h
          exact q_iret rfl (Nat.le_refl _) (Nat.le_refl _) ⟨rfl, rfl⟩
theorem a_216 (X : GX) {z : Nat} {kd : Nat → Nat × Nat} {Rf : Nat → Nat → Option Nat} (hS : Sh z kd Rf) {n dp d : Nat} (hd : dp ≤ d) {I : (Nat → Nat → Int32)} {L : (Nat → Nat → Int64)} {i0 : Int32} {I1 : (Nat → Nat → Int32)} {L1 : (Nat → Nat → Int64)} {r : Int32} (h : g_216 n dp (z, kd, Rf) 0 I L i0 = some (r, I1, L1)) : Ct X d 216 0 0 [.int i0] (z, kd, I, L, Rf) (AI (fun x τ => x = r ∧ τ = (z, kd, I1, L1, Rf))) :=
  Ct_of mu_216 (Nat.le_of_ble_eq_true rfl) ((w_216 X hS n dp d hd I L i0 _ _ _) h)

/-! 214 CutFloorModel.next()V -/
set_option maxHeartbeats 4000000 in
set_option maxRecDepth 100000 in
def g_214 : Nat → Nat → EN → Nat → (Nat → Nat → Int32) → (Nat → Nat → Int64) →  Option ((Nat → Nat → Int32) × (Nat → Nat → Int64))
  | 0, _, _, _, _, _ => none
  | n + 1, dp, e, lab, I, L =>
    if lab = 0 then (stI (u2 I 105 8 (I 105 9)) (fun I_5 => (g_214 n dp e 1 I_5 L)))
    else if lab = 1 then (if (I 105 7) ≤ (I 105 8) then (g_214 n dp e 2 I L) else (if 0 ≤ (I 105 8) ∧ (Int32.toNatClampNeg (I 105 8)) < 400 then (if (I 110 (Int32.toNatClampNeg (I 105 8))) = (32 : Int32) then (stI (u2 I 105 8 ((I 105 8) + (1 : Int32))) (fun I_40 => (g_214 n dp e 1 I_40 L))) else (g_214 n dp e 2 I L)) else none))
    else if lab = 2 then (stI (u2 I 105 9 (I 105 8)) (fun I_51 => (stI (u2 L 105 11 (0 : Int64)) (fun L_56 => (if (I_51 105 8) = (I_51 105 7) then (stI (u2 I_51 105 10 (0 : Int32)) (fun I_114 => (if (I_114 105 10) = (3 : Int32) then (if 0 ≤ (I_114 105 8) ∧ (Int32.toNatClampNeg (I_114 105 8)) < 400 then (stI (u2 L_56 105 11 (Int32.toInt64 (I_114 110 (Int32.toNatClampNeg (I_114 105 8))))) (fun L_136 => (stI (u2 I_114 105 9 ((I_114 105 9) + (1 : Int32))) (fun I_146 => (g_214 n dp e 3 I_146 L_136))))) else none) else (g_214 n dp e 3 I_114 L_56)))) else (if 0 ≤ (I_51 105 8) ∧ (Int32.toNatClampNeg (I_51 105 8)) < 400 then (if 1 ≤ dp then (g_215 n (dp - 1) e 0 I_51 L_56 (I_51 110 (Int32.toNatClampNeg (I_51 105 8)))).bind (fun ⟨x0_84, I0_84, L0_84⟩ => (if x0_84 = 0 then (if 0 ≤ (I0_84 105 8) ∧ (Int32.toNatClampNeg (I0_84 105 8)) < 400 then (if 1 ≤ dp then (g_216 n (dp - 1) e 0 I0_84 L0_84 (I0_84 110 (Int32.toNatClampNeg (I0_84 105 8)))).bind (fun ⟨x1_103, I1_103, L1_103⟩ => (if x1_103 = 0 then (stI (u2 I1_103 105 10 (3 : Int32)) (fun I_114 => (if (I_114 105 10) = (3 : Int32) then (if 0 ≤ (I_114 105 8) ∧ (Int32.toNatClampNeg (I_114 105 8)) < 400 then (stI (u2 L1_103 105 11 (Int32.toInt64 (I_114 110 (Int32.toNatClampNeg (I_114 105 8))))) (fun L_136 => (stI (u2 I_114 105 9 ((I_114 105 9) + (1 : Int32))) (fun I_146 => (g_214 n dp e 3 I_146 L_136))))) else none) else (g_214 n dp e 3 I_114 L1_103)))) else (stI (u2 I1_103 105 10 (2 : Int32)) (fun I_114 => (if (I_114 105 10) = (3 : Int32) then (if 0 ≤ (I_114 105 8) ∧ (Int32.toNatClampNeg (I_114 105 8)) < 400 then (stI (u2 L1_103 105 11 (Int32.toInt64 (I_114 110 (Int32.toNatClampNeg (I_114 105 8))))) (fun L_136 => (stI (u2 I_114 105 9 ((I_114 105 9) + (1 : Int32))) (fun I_146 => (g_214 n dp e 3 I_146 L_136))))) else none) else (g_214 n dp e 3 I_114 L1_103)))))) else none) else none) else (stI (u2 I0_84 105 10 (1 : Int32)) (fun I_114 => (if (I_114 105 10) = (3 : Int32) then (if 0 ≤ (I_114 105 8) ∧ (Int32.toNatClampNeg (I_114 105 8)) < 400 then (stI (u2 L0_84 105 11 (Int32.toInt64 (I_114 110 (Int32.toNatClampNeg (I_114 105 8))))) (fun L_136 => (stI (u2 I_114 105 9 ((I_114 105 9) + (1 : Int32))) (fun I_146 => (g_214 n dp e 3 I_146 L_136))))) else none) else (g_214 n dp e 3 I_114 L0_84)))))) else none) else none))))))
    else if lab = 3 then (if (I 105 10) = (1 : Int32) then (if (I 105 7) ≤ (I 105 9) then (g_214 n dp e 4 I L) else (if 0 ≤ (I 105 9) ∧ (Int32.toNatClampNeg (I 105 9)) < 400 then (if 1 ≤ dp then (g_215 n (dp - 1) e 0 I L (I 110 (Int32.toNatClampNeg (I 105 9)))).bind (fun ⟨x0_177, I0_177, L0_177⟩ => (if x0_177 = 0 then (g_214 n dp e 4 I0_177 L0_177) else (if (10 : Int32) ≤ ((I0_177 105 9) - (I0_177 105 8)) then (stI (u2 L0_177 105 11 (-1 : Int64)) (fun L_227 => (stI (u2 I0_177 105 9 ((I0_177 105 9) + (1 : Int32))) (fun I_237 => (g_214 n dp e 3 I_237 L_227))))) else (if 0 ≤ (I0_177 105 9) ∧ (Int32.toNatClampNeg (I0_177 105 9)) < 400 then (stI (u2 L0_177 105 11 ((((L0_177 105 11) * (32 : Int64)) + (Int32.toInt64 (I0_177 110 (Int32.toNatClampNeg (I0_177 105 9))))) - (96 : Int64))) (fun L_227 => (stI (u2 I0_177 105 9 ((I0_177 105 9) + (1 : Int32))) (fun I_237 => (g_214 n dp e 3 I_237 L_227))))) else none)))) else none) else none)) else (g_214 n dp e 4 I L))
    else if lab = 4 then (if (I 105 10) = (2 : Int32) then (if (I 105 7) ≤ (I 105 9) then (some (I, L)) else (if 0 ≤ (I 105 9) ∧ (Int32.toNatClampNeg (I 105 9)) < 400 then (if 1 ≤ dp then (g_216 n (dp - 1) e 0 I L (I 110 (Int32.toNatClampNeg (I 105 9)))).bind (fun ⟨x0_271, I0_271, L0_271⟩ => (if x0_271 = 0 then (some (I0_271, L0_271)) else (if (lg_cmp (L0_271 105 11) (1000000 : Int64)) ≤ 0 then (if 0 ≤ (I0_271 105 9) ∧ (Int32.toNatClampNeg (I0_271 105 9)) < 400 then (stI (u2 L0_271 105 11 ((((L0_271 105 11) * (10 : Int64)) + (Int32.toInt64 (I0_271 110 (Int32.toNatClampNeg (I0_271 105 9))))) - (48 : Int64))) (fun L_319 => (stI (u2 I0_271 105 9 ((I0_271 105 9) + (1 : Int32))) (fun I_329 => (g_214 n dp e 4 I_329 L_319))))) else none) else (stI (u2 L0_271 105 11 (L0_271 105 11)) (fun L_319 => (stI (u2 I0_271 105 9 ((I0_271 105 9) + (1 : Int32))) (fun I_329 => (g_214 n dp e 4 I_329 L_319)))))))) else none) else none)) else (some (I, L)))
    else none
set_option maxRecDepth 100000 in
theorem e_214_0 (n dp : Nat) (e : EN) (I : (Nat → Nat → Int32)) (L : (Nat → Nat → Int64)) : g_214 (n + 1) dp e 0 I L = (stI (u2 I 105 8 (I 105 9)) (fun I_5 => (g_214 n dp e 1 I_5 L))) := by rw [g_214.eq_2, if_pos (show (0 : Nat) = 0 from rfl)]
set_option maxRecDepth 100000 in
theorem e_214_1 (n dp : Nat) (e : EN) (I : (Nat → Nat → Int32)) (L : (Nat → Nat → Int64)) : g_214 (n + 1) dp e 1 I L = (if (I 105 7) ≤ (I 105 8) then (g_214 n dp e 2 I L) else (if 0 ≤ (I 105 8) ∧ (Int32.toNatClampNeg (I 105 8)) < 400 then (if (I 110 (Int32.toNatClampNeg (I 105 8))) = (32 : Int32) then (stI (u2 I 105 8 ((I 105 8) + (1 : Int32))) (fun I_40 => (g_214 n dp e 1 I_40 L))) else (g_214 n dp e 2 I L)) else none)) := by rw [g_214.eq_2, if_neg (show ¬ ((1 : Nat) = 0) by decide), if_pos (show (1 : Nat) = 1 from rfl)]
set_option maxRecDepth 100000 in
theorem e_214_2 (n dp : Nat) (e : EN) (I : (Nat → Nat → Int32)) (L : (Nat → Nat → Int64)) : g_214 (n + 1) dp e 2 I L = (stI (u2 I 105 9 (I 105 8)) (fun I_51 => (stI (u2 L 105 11 (0 : Int64)) (fun L_56 => (if (I_51 105 8) = (I_51 105 7) then (stI (u2 I_51 105 10 (0 : Int32)) (fun I_114 => (if (I_114 105 10) = (3 : Int32) then (if 0 ≤ (I_114 105 8) ∧ (Int32.toNatClampNeg (I_114 105 8)) < 400 then (stI (u2 L_56 105 11 (Int32.toInt64 (I_114 110 (Int32.toNatClampNeg (I_114 105 8))))) (fun L_136 => (stI (u2 I_114 105 9 ((I_114 105 9) + (1 : Int32))) (fun I_146 => (g_214 n dp e 3 I_146 L_136))))) else none) else (g_214 n dp e 3 I_114 L_56)))) else (if 0 ≤ (I_51 105 8) ∧ (Int32.toNatClampNeg (I_51 105 8)) < 400 then (if 1 ≤ dp then (g_215 n (dp - 1) e 0 I_51 L_56 (I_51 110 (Int32.toNatClampNeg (I_51 105 8)))).bind (fun ⟨x0_84, I0_84, L0_84⟩ => (if x0_84 = 0 then (if 0 ≤ (I0_84 105 8) ∧ (Int32.toNatClampNeg (I0_84 105 8)) < 400 then (if 1 ≤ dp then (g_216 n (dp - 1) e 0 I0_84 L0_84 (I0_84 110 (Int32.toNatClampNeg (I0_84 105 8)))).bind (fun ⟨x1_103, I1_103, L1_103⟩ => (if x1_103 = 0 then (stI (u2 I1_103 105 10 (3 : Int32)) (fun I_114 => (if (I_114 105 10) = (3 : Int32) then (if 0 ≤ (I_114 105 8) ∧ (Int32.toNatClampNeg (I_114 105 8)) < 400 then (stI (u2 L1_103 105 11 (Int32.toInt64 (I_114 110 (Int32.toNatClampNeg (I_114 105 8))))) (fun L_136 => (stI (u2 I_114 105 9 ((I_114 105 9) + (1 : Int32))) (fun I_146 => (g_214 n dp e 3 I_146 L_136))))) else none) else (g_214 n dp e 3 I_114 L1_103)))) else (stI (u2 I1_103 105 10 (2 : Int32)) (fun I_114 => (if (I_114 105 10) = (3 : Int32) then (if 0 ≤ (I_114 105 8) ∧ (Int32.toNatClampNeg (I_114 105 8)) < 400 then (stI (u2 L1_103 105 11 (Int32.toInt64 (I_114 110 (Int32.toNatClampNeg (I_114 105 8))))) (fun L_136 => (stI (u2 I_114 105 9 ((I_114 105 9) + (1 : Int32))) (fun I_146 => (g_214 n dp e 3 I_146 L_136))))) else none) else (g_214 n dp e 3 I_114 L1_103)))))) else none) else none) else (stI (u2 I0_84 105 10 (1 : Int32)) (fun I_114 => (if (I_114 105 10) = (3 : Int32) then (if 0 ≤ (I_114 105 8) ∧ (Int32.toNatClampNeg (I_114 105 8)) < 400 then (stI (u2 L0_84 105 11 (Int32.toInt64 (I_114 110 (Int32.toNatClampNeg (I_114 105 8))))) (fun L_136 => (stI (u2 I_114 105 9 ((I_114 105 9) + (1 : Int32))) (fun I_146 => (g_214 n dp e 3 I_146 L_136))))) else none) else (g_214 n dp e 3 I_114 L0_84)))))) else none) else none)))))) := by rw [g_214.eq_2, if_neg (show ¬ ((2 : Nat) = 0) by decide), if_neg (show ¬ ((2 : Nat) = 1) by decide), if_pos (show (2 : Nat) = 2 from rfl)]
set_option maxRecDepth 100000 in
theorem e_214_3 (n dp : Nat) (e : EN) (I : (Nat → Nat → Int32)) (L : (Nat → Nat → Int64)) : g_214 (n + 1) dp e 3 I L = (if (I 105 10) = (1 : Int32) then (if (I 105 7) ≤ (I 105 9) then (g_214 n dp e 4 I L) else (if 0 ≤ (I 105 9) ∧ (Int32.toNatClampNeg (I 105 9)) < 400 then (if 1 ≤ dp then (g_215 n (dp - 1) e 0 I L (I 110 (Int32.toNatClampNeg (I 105 9)))).bind (fun ⟨x0_177, I0_177, L0_177⟩ => (if x0_177 = 0 then (g_214 n dp e 4 I0_177 L0_177) else (if (10 : Int32) ≤ ((I0_177 105 9) - (I0_177 105 8)) then (stI (u2 L0_177 105 11 (-1 : Int64)) (fun L_227 => (stI (u2 I0_177 105 9 ((I0_177 105 9) + (1 : Int32))) (fun I_237 => (g_214 n dp e 3 I_237 L_227))))) else (if 0 ≤ (I0_177 105 9) ∧ (Int32.toNatClampNeg (I0_177 105 9)) < 400 then (stI (u2 L0_177 105 11 ((((L0_177 105 11) * (32 : Int64)) + (Int32.toInt64 (I0_177 110 (Int32.toNatClampNeg (I0_177 105 9))))) - (96 : Int64))) (fun L_227 => (stI (u2 I0_177 105 9 ((I0_177 105 9) + (1 : Int32))) (fun I_237 => (g_214 n dp e 3 I_237 L_227))))) else none)))) else none) else none)) else (g_214 n dp e 4 I L)) := by rw [g_214.eq_2, if_neg (show ¬ ((3 : Nat) = 0) by decide), if_neg (show ¬ ((3 : Nat) = 1) by decide), if_neg (show ¬ ((3 : Nat) = 2) by decide), if_pos (show (3 : Nat) = 3 from rfl)]
set_option maxRecDepth 100000 in
theorem e_214_4 (n dp : Nat) (e : EN) (I : (Nat → Nat → Int32)) (L : (Nat → Nat → Int64)) : g_214 (n + 1) dp e 4 I L = (if (I 105 10) = (2 : Int32) then (if (I 105 7) ≤ (I 105 9) then (some (I, L)) else (if 0 ≤ (I 105 9) ∧ (Int32.toNatClampNeg (I 105 9)) < 400 then (if 1 ≤ dp then (g_216 n (dp - 1) e 0 I L (I 110 (Int32.toNatClampNeg (I 105 9)))).bind (fun ⟨x0_271, I0_271, L0_271⟩ => (if x0_271 = 0 then (some (I0_271, L0_271)) else (if (lg_cmp (L0_271 105 11) (1000000 : Int64)) ≤ 0 then (if 0 ≤ (I0_271 105 9) ∧ (Int32.toNatClampNeg (I0_271 105 9)) < 400 then (stI (u2 L0_271 105 11 ((((L0_271 105 11) * (10 : Int64)) + (Int32.toInt64 (I0_271 110 (Int32.toNatClampNeg (I0_271 105 9))))) - (48 : Int64))) (fun L_319 => (stI (u2 I0_271 105 9 ((I0_271 105 9) + (1 : Int32))) (fun I_329 => (g_214 n dp e 4 I_329 L_319))))) else none) else (stI (u2 L0_271 105 11 (L0_271 105 11)) (fun L_319 => (stI (u2 I0_271 105 9 ((I0_271 105 9) + (1 : Int32))) (fun I_329 => (g_214 n dp e 4 I_329 L_319)))))))) else none) else none)) else (some (I, L))) := by rw [g_214.eq_2, if_neg (show ¬ ((4 : Nat) = 0) by decide), if_neg (show ¬ ((4 : Nat) = 1) by decide), if_neg (show ¬ ((4 : Nat) = 2) by decide), if_neg (show ¬ ((4 : Nat) = 3) by decide), if_pos (show (4 : Nat) = 4 from rfl)]
set_option maxHeartbeats 8000000 in
set_option maxRecDepth 100000 in
theorem w_214 (X : GX) {z : Nat} {kd : Nat → Nat × Nat} {Rf : Nat → Nat → Option Nat} (hS : Sh z kd Rf) : ∀ (n dp d : Nat), dp ≤ d → ∀ (I : (Nat → Nat → Int32)) (L : (Nat → Nat → Int64)) (I1 : (Nat → Nat → Int32)) (L1 : (Nat → Nat → Int64)), (g_214 n dp (z, kd, Rf) 0 I L = some (I1, L1) → K X d 214 0 0 (AV (fun τ => τ = (z, kd, I1, L1, Rf))) 0 [some (.ref 105)] [] (z, kd, I, L, Rf) 0 0) ∧
    (g_214 n dp (z, kd, Rf) 1 I L = some (I1, L1) → K X d 214 0 0 (AV (fun τ => τ = (z, kd, I1, L1, Rf))) 8 [some (.ref 105)] [] (z, kd, I, L, Rf) 0 0) ∧
    (g_214 n dp (z, kd, Rf) 2 I L = some (I1, L1) → K X d 214 0 0 (AV (fun τ => τ = (z, kd, I1, L1, Rf))) 46 [some (.ref 105)] [] (z, kd, I, L, Rf) 0 0) ∧
    (g_214 n dp (z, kd, Rf) 3 I L = some (I1, L1) → K X d 214 0 0 (AV (fun τ => τ = (z, kd, I1, L1, Rf))) 149 [some (.ref 105)] [] (z, kd, I, L, Rf) 0 0) ∧
    (g_214 n dp (z, kd, Rf) 4 I L = some (I1, L1) → K X d 214 0 0 (AV (fun τ => τ = (z, kd, I1, L1, Rf))) 243 [some (.ref 105)] [] (z, kd, I, L, Rf) 0 0) := by
  intro n
  induction n with
  | zero => intro dp d hdp I L I1 L1; exact ⟨(fun h => by cases h), (fun h => by cases h), (fun h => by cases h), (fun h => by cases h), (fun h => by cases h)⟩
  | succ n ih =>
    intro dp d hdp I L I1 L1
    refine ⟨?_, ?_, ?_, ?_, ?_⟩
    · intro h
      rw [e_214_0] at h
      refine K_of b_214_0 h_214_0 ?_
      refine q_aload rfl ?_
      refine q_aload rfl ?_
      refine q_getI (c0 := 12) (j := 9) rfl rfl (zl hS 105 (by decide)) (sk hS 105 (by decide) rfl) (Or.inl rfl) (by decide) ?_
      refine q_putI (c0 := 12) (j := 8) rfl rfl (zl hS 105 (by decide)) (sk hS 105 (by decide) rfl) rfl ?_
      obtain ⟨I_5, nI_5, h⟩ := stI_some h
      refine q_nI nI_5 ?_
      refine q_end ?_
      exact (ih dp d hdp _ _ _ _).2.1 h
    · intro h
      rw [e_214_1] at h
      refine K_of b_214_8 h_214_8 ?_
      refine q_aload rfl ?_
      refine q_getI (c0 := 12) (j := 8) rfl rfl (zl hS 105 (by decide)) (sk hS 105 (by decide) rfl) (Or.inl rfl) (by decide) ?_
      refine q_aload rfl ?_
      refine q_getI (c0 := 12) (j := 7) rfl rfl (zl hS 105 (by decide)) (sk hS 105 (by decide) rfl) (Or.inl rfl) (by decide) ?_
      refine q_icmp_ge (fun c_16 => ?_) (fun c_16 => ?_)
      · rw [if_pos c_16] at h
        exact (ih dp d hdp _ _ _ _).2.2.1 h
      · rw [if_neg c_16] at h
        refine q_aload rfl ?_
        refine q_getRs (c0 := 12) (j := 6) rfl rfl (zl hS 105 (by decide)) (sk hS 105 (by decide) rfl) rfl (by decide) (r_105_6 hS) ?_
        refine q_aload rfl ?_
        refine q_getI (c0 := 12) (j := 8) rfl rfl (zl hS 105 (by decide)) (sk hS 105 (by decide) rfl) (Or.inl rfl) (by decide) ?_
        obtain ⟨⟨u_27, v_27⟩, h⟩ := ite_some h
        refine q_ialN (Int32.toNatClampNeg (I 105 8)) (nx u_27) (zl hS 110 (by decide)) (sk hS 110 (by decide) rfl) v_27 (by decide) ?_
        refine q_iconst (32) (by decide) ?_
        refine q_icmp_ne (fun c_30 => ?_) (fun c_30 => ?_)
        · rw [if_neg c_30] at h
          exact (ih dp d hdp _ _ _ _).2.2.1 h
        · rw [if_pos c_30] at h
          refine q_aload rfl ?_
          refine q_dup rfl ?_
          refine q_getI (c0 := 12) (j := 8) rfl rfl (zl hS 105 (by decide)) (sk hS 105 (by decide) rfl) (Or.inl rfl) (by decide) ?_
          refine q_iconst (1) (by decide) ?_
          refine q_iadd ?_
          refine q_putI (c0 := 12) (j := 8) rfl rfl (zl hS 105 (by decide)) (sk hS 105 (by decide) rfl) rfl ?_
          obtain ⟨I_40, nI_40, h⟩ := stI_some h
          refine q_nI nI_40 ?_
          refine q_goto ?_
          exact (ih dp d hdp _ _ _ _).2.1 h
    · intro h
      rw [e_214_2] at h
      refine K_of b_214_46 h_214_46 ?_
      refine q_aload rfl ?_
      refine q_aload rfl ?_
      refine q_getI (c0 := 12) (j := 8) rfl rfl (zl hS 105 (by decide)) (sk hS 105 (by decide) rfl) (Or.inl rfl) (by decide) ?_
      refine q_putI (c0 := 12) (j := 9) rfl rfl (zl hS 105 (by decide)) (sk hS 105 (by decide) rfl) rfl ?_
      obtain ⟨I_51, nI_51, h⟩ := stI_some h
      refine q_nI nI_51 ?_
      refine q_aload rfl ?_
      refine q_lconst (0) (by decide) ?_
      refine q_putL (c0 := 12) (j := 11) rfl rfl (zl hS 105 (by decide)) (sk hS 105 (by decide) rfl) rfl ?_
      obtain ⟨L_56, nL_56, h⟩ := stI_some h
      refine q_nL nL_56 ?_
      refine q_aload rfl ?_
      refine q_aload rfl ?_
      refine q_getI (c0 := 12) (j := 8) rfl rfl (zl hS 105 (by decide)) (sk hS 105 (by decide) rfl) (Or.inl rfl) (by decide) ?_
      refine q_aload rfl ?_
      refine q_getI (c0 := 12) (j := 7) rfl rfl (zl hS 105 (by decide)) (sk hS 105 (by decide) rfl) (Or.inl rfl) (by decide) ?_
      refine q_icmp_ne (fun c_68 => ?_) (fun c_68 => ?_)
      · rw [if_neg c_68] at h
        refine K_of b_214_75 h_214_75 ?_
        refine q_aload rfl ?_
        refine q_getRs (c0 := 12) (j := 6) rfl rfl (zl hS 105 (by decide)) (sk hS 105 (by decide) rfl) rfl (by decide) (r_105_6 hS) ?_
        refine q_aload rfl ?_
        refine q_getI (c0 := 12) (j := 8) rfl rfl (zl hS 105 (by decide)) (sk hS 105 (by decide) rfl) (Or.inl rfl) (by decide) ?_
        obtain ⟨⟨u_83, v_83⟩, h⟩ := ite_some h
        refine q_ialN (Int32.toNatClampNeg (I_51 105 8)) (nx u_83) (zl hS 110 (by decide)) (sk hS 110 (by decide) rfl) v_83 (by decide) ?_
        obtain ⟨d_84, h⟩ := ite_some h
        obtain ⟨⟨x0_84, I0_84, L0_84⟩, e_84, h⟩ := Option.bind_eq_some_iff.mp h
        dsimp only at h
        refine q_fs1I (a_215 X hS (d := d - 1) (by omega) e_84) (by omega) (Nat.le_refl _) (Nat.le_refl _) rfl (Nat.le_of_ble_eq_true rfl) ?_
        refine q_if_eq (fun c_87 => ?_) (fun c_87 => ?_)
        · rw [if_pos c_87] at h
          refine K_of b_214_94 h_214_94 ?_
          refine q_aload rfl ?_
          refine q_getRs (c0 := 12) (j := 6) rfl rfl (zl hS 105 (by decide)) (sk hS 105 (by decide) rfl) rfl (by decide) (r_105_6 hS) ?_
          refine q_aload rfl ?_
          refine q_getI (c0 := 12) (j := 8) rfl rfl (zl hS 105 (by decide)) (sk hS 105 (by decide) rfl) (Or.inl rfl) (by decide) ?_
          obtain ⟨⟨u_102, v_102⟩, h⟩ := ite_some h
          refine q_ialN (Int32.toNatClampNeg (I0_84 105 8)) (nx u_102) (zl hS 110 (by decide)) (sk hS 110 (by decide) rfl) v_102 (by decide) ?_
          obtain ⟨d_103, h⟩ := ite_some h
          obtain ⟨⟨x1_103, I1_103, L1_103⟩, e_103, h⟩ := Option.bind_eq_some_iff.mp h
          dsimp only at h
          refine q_fs1I (a_216 X hS (d := d - 1) (by omega) e_103) (by omega) (Nat.le_refl _) (Nat.le_refl _) rfl (Nat.le_of_ble_eq_true rfl) ?_
          refine q_if_eq (fun c_106 => ?_) (fun c_106 => ?_)
          · rw [if_pos c_106] at h
            refine K_of b_214_113 h_214_113 ?_
            refine q_iconst (3) (by decide) ?_
            refine q_end ?_
            refine K_of b_214_114 h_214_114 ?_
            refine q_putI (c0 := 12) (j := 10) rfl rfl (zl hS 105 (by decide)) (sk hS 105 (by decide) rfl) rfl ?_
            obtain ⟨I_114, nI_114, h⟩ := stI_some h
            refine q_nI nI_114 ?_
            refine q_aload rfl ?_
            refine q_getI (c0 := 12) (j := 10) rfl rfl (zl hS 105 (by decide)) (sk hS 105 (by decide) rfl) (Or.inl rfl) (by decide) ?_
            refine q_iconst (3) (by decide) ?_
            refine q_icmp_ne (fun c_122 => ?_) (fun c_122 => ?_)
            · rw [if_neg c_122] at h
              exact (ih dp d hdp _ _ _ _).2.2.2.1 h
            · rw [if_pos c_122] at h
              refine q_aload rfl ?_
              refine q_aload rfl ?_
              refine q_getRs (c0 := 12) (j := 6) rfl rfl (zl hS 105 (by decide)) (sk hS 105 (by decide) rfl) rfl (by decide) (r_105_6 hS) ?_
              refine q_aload rfl ?_
              refine q_getI (c0 := 12) (j := 8) rfl rfl (zl hS 105 (by decide)) (sk hS 105 (by decide) rfl) (Or.inl rfl) (by decide) ?_
              obtain ⟨⟨u_134, v_134⟩, h⟩ := ite_some h
              refine q_ialN (Int32.toNatClampNeg (I_114 105 8)) (nx u_134) (zl hS 110 (by decide)) (sk hS 110 (by decide) rfl) v_134 (by decide) ?_
              refine q_i2l ?_
              refine q_putL (c0 := 12) (j := 11) rfl rfl (zl hS 105 (by decide)) (sk hS 105 (by decide) rfl) rfl ?_
              obtain ⟨L_136, nL_136, h⟩ := stI_some h
              refine q_nL nL_136 ?_
              refine q_aload rfl ?_
              refine q_dup rfl ?_
              refine q_getI (c0 := 12) (j := 9) rfl rfl (zl hS 105 (by decide)) (sk hS 105 (by decide) rfl) (Or.inl rfl) (by decide) ?_
              refine q_iconst (1) (by decide) ?_
              refine q_iadd ?_
              refine q_putI (c0 := 12) (j := 9) rfl rfl (zl hS 105 (by decide)) (sk hS 105 (by decide) rfl) rfl ?_
              obtain ⟨I_146, nI_146, h⟩ := stI_some h
              refine q_nI nI_146 ?_
              refine q_end ?_
              exact (ih dp d hdp _ _ _ _).2.2.2.1 h
          · rw [if_neg c_106] at h
            refine q_iconst (2) (by decide) ?_
            refine q_goto ?_
            refine K_of b_214_114 h_214_114 ?_
            refine q_putI (c0 := 12) (j := 10) rfl rfl (zl hS 105 (by decide)) (sk hS 105 (by decide) rfl) rfl ?_
            obtain ⟨I_114, nI_114, h⟩ := stI_some h
            refine q_nI nI_114 ?_
            refine q_aload rfl ?_
            refine q_getI (c0 := 12) (j := 10) rfl rfl (zl hS 105 (by decide)) (sk hS 105 (by decide) rfl) (Or.inl rfl) (by decide) ?_
            refine q_iconst (3) (by decide) ?_
            refine q_icmp_ne (fun c_122 => ?_) (fun c_122 => ?_)
            · rw [if_neg c_122] at h
              exact (ih dp d hdp _ _ _ _).2.2.2.1 h
            · rw [if_pos c_122] at h
              refine q_aload rfl ?_
              refine q_aload rfl ?_
              refine q_getRs (c0 := 12) (j := 6) rfl rfl (zl hS 105 (by decide)) (sk hS 105 (by decide) rfl) rfl (by decide) (r_105_6 hS) ?_
              refine q_aload rfl ?_
              refine q_getI (c0 := 12) (j := 8) rfl rfl (zl hS 105 (by decide)) (sk hS 105 (by decide) rfl) (Or.inl rfl) (by decide) ?_
              obtain ⟨⟨u_134, v_134⟩, h⟩ := ite_some h
              refine q_ialN (Int32.toNatClampNeg (I_114 105 8)) (nx u_134) (zl hS 110 (by decide)) (sk hS 110 (by decide) rfl) v_134 (by decide) ?_
              refine q_i2l ?_
              refine q_putL (c0 := 12) (j := 11) rfl rfl (zl hS 105 (by decide)) (sk hS 105 (by decide) rfl) rfl ?_
              obtain ⟨L_136, nL_136, h⟩ := stI_some h
              refine q_nL nL_136 ?_
              refine q_aload rfl ?_
              refine q_dup rfl ?_
              refine q_getI (c0 := 12) (j := 9) rfl rfl (zl hS 105 (by decide)) (sk hS 105 (by decide) rfl) (Or.inl rfl) (by decide) ?_
              refine q_iconst (1) (by decide) ?_
              refine q_iadd ?_
              refine q_putI (c0 := 12) (j := 9) rfl rfl (zl hS 105 (by decide)) (sk hS 105 (by decide) rfl) rfl ?_
              obtain ⟨I_146, nI_146, h⟩ := stI_some h
              refine q_nI nI_146 ?_
              refine q_end ?_
              exact (ih dp d hdp _ _ _ _).2.2.2.1 h
        · rw [if_neg c_87] at h
          refine q_iconst (1) (by decide) ?_
          refine q_goto ?_
          refine K_of b_214_114 h_214_114 ?_
          refine q_putI (c0 := 12) (j := 10) rfl rfl (zl hS 105 (by decide)) (sk hS 105 (by decide) rfl) rfl ?_
          obtain ⟨I_114, nI_114, h⟩ := stI_some h
          refine q_nI nI_114 ?_
          refine q_aload rfl ?_
          refine q_getI (c0 := 12) (j := 10) rfl rfl (zl hS 105 (by decide)) (sk hS 105 (by decide) rfl) (Or.inl rfl) (by decide) ?_
          refine q_iconst (3) (by decide) ?_
          refine q_icmp_ne (fun c_122 => ?_) (fun c_122 => ?_)
          · rw [if_neg c_122] at h
            exact (ih dp d hdp _ _ _ _).2.2.2.1 h
          · rw [if_pos c_122] at h
            refine q_aload rfl ?_
            refine q_aload rfl ?_
            refine q_getRs (c0 := 12) (j := 6) rfl rfl (zl hS 105 (by decide)) (sk hS 105 (by decide) rfl) rfl (by decide) (r_105_6 hS) ?_
            refine q_aload rfl ?_
            refine q_getI (c0 := 12) (j := 8) rfl rfl (zl hS 105 (by decide)) (sk hS 105 (by decide) rfl) (Or.inl rfl) (by decide) ?_
            obtain ⟨⟨u_134, v_134⟩, h⟩ := ite_some h
            refine q_ialN (Int32.toNatClampNeg (I_114 105 8)) (nx u_134) (zl hS 110 (by decide)) (sk hS 110 (by decide) rfl) v_134 (by decide) ?_
            refine q_i2l ?_
            refine q_putL (c0 := 12) (j := 11) rfl rfl (zl hS 105 (by decide)) (sk hS 105 (by decide) rfl) rfl ?_
            obtain ⟨L_136, nL_136, h⟩ := stI_some h
            refine q_nL nL_136 ?_
            refine q_aload rfl ?_
            refine q_dup rfl ?_
            refine q_getI (c0 := 12) (j := 9) rfl rfl (zl hS 105 (by decide)) (sk hS 105 (by decide) rfl) (Or.inl rfl) (by decide) ?_
            refine q_iconst (1) (by decide) ?_
            refine q_iadd ?_
            refine q_putI (c0 := 12) (j := 9) rfl rfl (zl hS 105 (by decide)) (sk hS 105 (by decide) rfl) rfl ?_
            obtain ⟨I_146, nI_146, h⟩ := stI_some h
            refine q_nI nI_146 ?_
            refine q_end ?_
            exact (ih dp d hdp _ _ _ _).2.2.2.1 h
      · rw [if_pos c_68] at h
        refine q_iconst (0) (by decide) ?_
        refine q_goto ?_
        refine K_of b_214_114 h_214_114 ?_
        refine q_putI (c0 := 12) (j := 10) rfl rfl (zl hS 105 (by decide)) (sk hS 105 (by decide) rfl) rfl ?_
        obtain ⟨I_114, nI_114, h⟩ := stI_some h
        refine q_nI nI_114 ?_
        refine q_aload rfl ?_
        refine q_getI (c0 := 12) (j := 10) rfl rfl (zl hS 105 (by decide)) (sk hS 105 (by decide) rfl) (Or.inl rfl) (by decide) ?_
        refine q_iconst (3) (by decide) ?_
        refine q_icmp_ne (fun c_122 => ?_) (fun c_122 => ?_)
        · rw [if_neg c_122] at h
          exact (ih dp d hdp _ _ _ _).2.2.2.1 h
        · rw [if_pos c_122] at h
          refine q_aload rfl ?_
          refine q_aload rfl ?_
          refine q_getRs (c0 := 12) (j := 6) rfl rfl (zl hS 105 (by decide)) (sk hS 105 (by decide) rfl) rfl (by decide) (r_105_6 hS) ?_
          refine q_aload rfl ?_
          refine q_getI (c0 := 12) (j := 8) rfl rfl (zl hS 105 (by decide)) (sk hS 105 (by decide) rfl) (Or.inl rfl) (by decide) ?_
          obtain ⟨⟨u_134, v_134⟩, h⟩ := ite_some h
          refine q_ialN (Int32.toNatClampNeg (I_114 105 8)) (nx u_134) (zl hS 110 (by decide)) (sk hS 110 (by decide) rfl) v_134 (by decide) ?_
          refine q_i2l ?_
          refine q_putL (c0 := 12) (j := 11) rfl rfl (zl hS 105 (by decide)) (sk hS 105 (by decide) rfl) rfl ?_
          obtain ⟨L_136, nL_136, h⟩ := stI_some h
          refine q_nL nL_136 ?_
          refine q_aload rfl ?_
          refine q_dup rfl ?_
          refine q_getI (c0 := 12) (j := 9) rfl rfl (zl hS 105 (by decide)) (sk hS 105 (by decide) rfl) (Or.inl rfl) (by decide) ?_
          refine q_iconst (1) (by decide) ?_
          refine q_iadd ?_
          refine q_putI (c0 := 12) (j := 9) rfl rfl (zl hS 105 (by decide)) (sk hS 105 (by decide) rfl) rfl ?_
          obtain ⟨I_146, nI_146, h⟩ := stI_some h
          refine q_nI nI_146 ?_
          refine q_end ?_
          exact (ih dp d hdp _ _ _ _).2.2.2.1 h
    · intro h
      rw [e_214_3] at h
      refine K_of b_214_149 h_214_149 ?_
      refine q_aload rfl ?_
      refine q_getI (c0 := 12) (j := 10) rfl rfl (zl hS 105 (by decide)) (sk hS 105 (by decide) rfl) (Or.inl rfl) (by decide) ?_
      refine q_iconst (1) (by decide) ?_
      refine q_icmp_ne (fun c_154 => ?_) (fun c_154 => ?_)
      · rw [if_neg c_154] at h
        exact (ih dp d hdp _ _ _ _).2.2.2.2 h
      · rw [if_pos c_154] at h
        refine q_aload rfl ?_
        refine q_getI (c0 := 12) (j := 9) rfl rfl (zl hS 105 (by decide)) (sk hS 105 (by decide) rfl) (Or.inl rfl) (by decide) ?_
        refine q_aload rfl ?_
        refine q_getI (c0 := 12) (j := 7) rfl rfl (zl hS 105 (by decide)) (sk hS 105 (by decide) rfl) (Or.inl rfl) (by decide) ?_
        refine q_icmp_ge (fun c_165 => ?_) (fun c_165 => ?_)
        · rw [if_pos c_165] at h
          exact (ih dp d hdp _ _ _ _).2.2.2.2 h
        · rw [if_neg c_165] at h
          refine q_aload rfl ?_
          refine q_getRs (c0 := 12) (j := 6) rfl rfl (zl hS 105 (by decide)) (sk hS 105 (by decide) rfl) rfl (by decide) (r_105_6 hS) ?_
          refine q_aload rfl ?_
          refine q_getI (c0 := 12) (j := 9) rfl rfl (zl hS 105 (by decide)) (sk hS 105 (by decide) rfl) (Or.inl rfl) (by decide) ?_
          obtain ⟨⟨u_176, v_176⟩, h⟩ := ite_some h
          refine q_ialN (Int32.toNatClampNeg (I 105 9)) (nx u_176) (zl hS 110 (by decide)) (sk hS 110 (by decide) rfl) v_176 (by decide) ?_
          obtain ⟨d_177, h⟩ := ite_some h
          obtain ⟨⟨x0_177, I0_177, L0_177⟩, e_177, h⟩ := Option.bind_eq_some_iff.mp h
          dsimp only at h
          refine q_fs1I (a_215 X hS (d := d - 1) (by omega) e_177) (by omega) (Nat.le_refl _) (Nat.le_refl _) rfl (Nat.le_of_ble_eq_true rfl) ?_
          refine q_if_eq (fun c_180 => ?_) (fun c_180 => ?_)
          · rw [if_pos c_180] at h
            exact (ih dp d hdp _ _ _ _).2.2.2.2 h
          · rw [if_neg c_180] at h
            refine q_aload rfl ?_
            refine q_aload rfl ?_
            refine q_getI (c0 := 12) (j := 9) rfl rfl (zl hS 105 (by decide)) (sk hS 105 (by decide) rfl) (Or.inl rfl) (by decide) ?_
            refine q_aload rfl ?_
            refine q_getI (c0 := 12) (j := 8) rfl rfl (zl hS 105 (by decide)) (sk hS 105 (by decide) rfl) (Or.inl rfl) (by decide) ?_
            refine q_isub ?_
            refine q_iconst (10) (by decide) ?_
            refine q_icmp_ge (fun c_195 => ?_) (fun c_195 => ?_)
            · rw [if_pos c_195] at h
              refine K_of b_214_224 h_214_224 ?_
              refine q_lconst (-1) (by decide) ?_
              refine q_end ?_
              refine K_of b_214_227 h_214_227 ?_
              refine q_putL (c0 := 12) (j := 11) rfl rfl (zl hS 105 (by decide)) (sk hS 105 (by decide) rfl) rfl ?_
              obtain ⟨L_227, nL_227, h⟩ := stI_some h
              refine q_nL nL_227 ?_
              refine q_aload rfl ?_
              refine q_dup rfl ?_
              refine q_getI (c0 := 12) (j := 9) rfl rfl (zl hS 105 (by decide)) (sk hS 105 (by decide) rfl) (Or.inl rfl) (by decide) ?_
              refine q_iconst (1) (by decide) ?_
              refine q_iadd ?_
              refine q_putI (c0 := 12) (j := 9) rfl rfl (zl hS 105 (by decide)) (sk hS 105 (by decide) rfl) rfl ?_
              obtain ⟨I_237, nI_237, h⟩ := stI_some h
              refine q_nI nI_237 ?_
              refine q_goto ?_
              exact (ih dp d hdp _ _ _ _).2.2.2.1 h
            · rw [if_neg c_195] at h
              refine q_aload rfl ?_
              refine q_getL (c0 := 12) (j := 11) rfl rfl (zl hS 105 (by decide)) (sk hS 105 (by decide) rfl) rfl (by decide) ?_
              refine q_lconst (32) (by decide) ?_
              refine q_lmul ?_
              refine q_aload rfl ?_
              refine q_getRs (c0 := 12) (j := 6) rfl rfl (zl hS 105 (by decide)) (sk hS 105 (by decide) rfl) rfl (by decide) (r_105_6 hS) ?_
              refine q_aload rfl ?_
              refine q_getI (c0 := 12) (j := 9) rfl rfl (zl hS 105 (by decide)) (sk hS 105 (by decide) rfl) (Or.inl rfl) (by decide) ?_
              obtain ⟨⟨u_214, v_214⟩, h⟩ := ite_some h
              refine q_ialN (Int32.toNatClampNeg (I0_177 105 9)) (nx u_214) (zl hS 110 (by decide)) (sk hS 110 (by decide) rfl) v_214 (by decide) ?_
              refine q_i2l ?_
              refine q_ladd ?_
              refine q_lconst (96) (by decide) ?_
              refine q_lsub ?_
              refine q_goto ?_
              refine K_of b_214_227 h_214_227 ?_
              refine q_putL (c0 := 12) (j := 11) rfl rfl (zl hS 105 (by decide)) (sk hS 105 (by decide) rfl) rfl ?_
              obtain ⟨L_227, nL_227, h⟩ := stI_some h
              refine q_nL nL_227 ?_
              refine q_aload rfl ?_
              refine q_dup rfl ?_
              refine q_getI (c0 := 12) (j := 9) rfl rfl (zl hS 105 (by decide)) (sk hS 105 (by decide) rfl) (Or.inl rfl) (by decide) ?_
              refine q_iconst (1) (by decide) ?_
              refine q_iadd ?_
              refine q_putI (c0 := 12) (j := 9) rfl rfl (zl hS 105 (by decide)) (sk hS 105 (by decide) rfl) rfl ?_
              obtain ⟨I_237, nI_237, h⟩ := stI_some h
              refine q_nI nI_237 ?_
              refine q_goto ?_
              exact (ih dp d hdp _ _ _ _).2.2.2.1 h
    · intro h
      rw [e_214_4] at h
      refine K_of b_214_243 h_214_243 ?_
      refine q_aload rfl ?_
      refine q_getI (c0 := 12) (j := 10) rfl rfl (zl hS 105 (by decide)) (sk hS 105 (by decide) rfl) (Or.inl rfl) (by decide) ?_
      refine q_iconst (2) (by decide) ?_
      refine q_icmp_ne (fun c_248 => ?_) (fun c_248 => ?_)
      · rw [if_neg c_248] at h
        refine K_of b_214_335 h_214_335 ?_
        cases h
        exact q_vret rfl (Nat.le_refl _) (Nat.le_refl _) rfl
      · rw [if_pos c_248] at h
        refine q_aload rfl ?_
        refine q_getI (c0 := 12) (j := 9) rfl rfl (zl hS 105 (by decide)) (sk hS 105 (by decide) rfl) (Or.inl rfl) (by decide) ?_
        refine q_aload rfl ?_
        refine q_getI (c0 := 12) (j := 7) rfl rfl (zl hS 105 (by decide)) (sk hS 105 (by decide) rfl) (Or.inl rfl) (by decide) ?_
        refine q_icmp_ge (fun c_259 => ?_) (fun c_259 => ?_)
        · rw [if_pos c_259] at h
          refine K_of b_214_335 h_214_335 ?_
          cases h
          exact q_vret rfl (Nat.le_refl _) (Nat.le_refl _) rfl
        · rw [if_neg c_259] at h
          refine q_aload rfl ?_
          refine q_getRs (c0 := 12) (j := 6) rfl rfl (zl hS 105 (by decide)) (sk hS 105 (by decide) rfl) rfl (by decide) (r_105_6 hS) ?_
          refine q_aload rfl ?_
          refine q_getI (c0 := 12) (j := 9) rfl rfl (zl hS 105 (by decide)) (sk hS 105 (by decide) rfl) (Or.inl rfl) (by decide) ?_
          obtain ⟨⟨u_270, v_270⟩, h⟩ := ite_some h
          refine q_ialN (Int32.toNatClampNeg (I 105 9)) (nx u_270) (zl hS 110 (by decide)) (sk hS 110 (by decide) rfl) v_270 (by decide) ?_
          obtain ⟨d_271, h⟩ := ite_some h
          obtain ⟨⟨x0_271, I0_271, L0_271⟩, e_271, h⟩ := Option.bind_eq_some_iff.mp h
          dsimp only at h
          refine q_fs1I (a_216 X hS (d := d - 1) (by omega) e_271) (by omega) (Nat.le_refl _) (Nat.le_refl _) rfl (Nat.le_of_ble_eq_true rfl) ?_
          refine q_if_eq (fun c_274 => ?_) (fun c_274 => ?_)
          · rw [if_pos c_274] at h
            refine K_of b_214_335 h_214_335 ?_
            cases h
            exact q_vret rfl (Nat.le_refl _) (Nat.le_refl _) rfl
          · rw [if_neg c_274] at h
            refine q_aload rfl ?_
            refine q_aload rfl ?_
            refine q_getL (c0 := 12) (j := 11) rfl rfl (zl hS 105 (by decide)) (sk hS 105 (by decide) rfl) rfl (by decide) ?_
            refine q_lconst (1000000) (by decide) ?_
            refine q_lcmp ?_
            refine q_if_le (fun c_286 => ?_) (fun c_286 => ?_)
            · rw [if_pos c_286] at h
              refine K_of b_214_296 h_214_296 ?_
              refine q_aload rfl ?_
              refine q_getL (c0 := 12) (j := 11) rfl rfl (zl hS 105 (by decide)) (sk hS 105 (by decide) rfl) rfl (by decide) ?_
              refine q_lconst (10) (by decide) ?_
              refine q_lmul ?_
              refine q_aload rfl ?_
              refine q_getRs (c0 := 12) (j := 6) rfl rfl (zl hS 105 (by decide)) (sk hS 105 (by decide) rfl) rfl (by decide) (r_105_6 hS) ?_
              refine q_aload rfl ?_
              refine q_getI (c0 := 12) (j := 9) rfl rfl (zl hS 105 (by decide)) (sk hS 105 (by decide) rfl) (Or.inl rfl) (by decide) ?_
              obtain ⟨⟨u_312, v_312⟩, h⟩ := ite_some h
              refine q_ialN (Int32.toNatClampNeg (I0_271 105 9)) (nx u_312) (zl hS 110 (by decide)) (sk hS 110 (by decide) rfl) v_312 (by decide) ?_
              refine q_i2l ?_
              refine q_ladd ?_
              refine q_lconst (48) (by decide) ?_
              refine q_lsub ?_
              refine q_end ?_
              refine K_of b_214_319 h_214_319 ?_
              refine q_putL (c0 := 12) (j := 11) rfl rfl (zl hS 105 (by decide)) (sk hS 105 (by decide) rfl) rfl ?_
              obtain ⟨L_319, nL_319, h⟩ := stI_some h
              refine q_nL nL_319 ?_
              refine q_aload rfl ?_
              refine q_dup rfl ?_
              refine q_getI (c0 := 12) (j := 9) rfl rfl (zl hS 105 (by decide)) (sk hS 105 (by decide) rfl) (Or.inl rfl) (by decide) ?_
              refine q_iconst (1) (by decide) ?_
              refine q_iadd ?_
              refine q_putI (c0 := 12) (j := 9) rfl rfl (zl hS 105 (by decide)) (sk hS 105 (by decide) rfl) rfl ?_
              obtain ⟨I_329, nI_329, h⟩ := stI_some h
              refine q_nI nI_329 ?_
              refine q_goto ?_
              exact (ih dp d hdp _ _ _ _).2.2.2.2 h
            · rw [if_neg c_286] at h
              refine q_aload rfl ?_
              refine q_getL (c0 := 12) (j := 11) rfl rfl (zl hS 105 (by decide)) (sk hS 105 (by decide) rfl) rfl (by decide) ?_
              refine q_goto ?_
              refine K_of b_214_319 h_214_319 ?_
              refine q_putL (c0 := 12) (j := 11) rfl rfl (zl hS 105 (by decide)) (sk hS 105 (by decide) rfl) rfl ?_
              obtain ⟨L_319, nL_319, h⟩ := stI_some h
              refine q_nL nL_319 ?_
              refine q_aload rfl ?_
              refine q_dup rfl ?_
              refine q_getI (c0 := 12) (j := 9) rfl rfl (zl hS 105 (by decide)) (sk hS 105 (by decide) rfl) (Or.inl rfl) (by decide) ?_
              refine q_iconst (1) (by decide) ?_
              refine q_iadd ?_
              refine q_putI (c0 := 12) (j := 9) rfl rfl (zl hS 105 (by decide)) (sk hS 105 (by decide) rfl) rfl ?_
              obtain ⟨I_329, nI_329, h⟩ := stI_some h
              refine q_nI nI_329 ?_
              refine q_goto ?_
              exact (ih dp d hdp _ _ _ _).2.2.2.2 h
theorem a_214 (X : GX) {z : Nat} {kd : Nat → Nat × Nat} {Rf : Nat → Nat → Option Nat} (hS : Sh z kd Rf) {n dp d : Nat} (hd : dp ≤ d) {I : (Nat → Nat → Int32)} {L : (Nat → Nat → Int64)} {I1 : (Nat → Nat → Int32)} {L1 : (Nat → Nat → Int64)} (h : g_214 n dp (z, kd, Rf) 0 I L = some (I1, L1)) : Ct X d 214 0 0 [.ref 105] (z, kd, I, L, Rf) (AV (fun τ => τ = (z, kd, I1, L1, Rf))) :=
  Ct_of mu_214 (Nat.le_of_ble_eq_true rfl) ((w_214 X hS n dp d hd I L _ _).1 h)

/-! 213 CutFloorModel.begin()V -/
set_option maxHeartbeats 4000000 in
set_option maxRecDepth 100000 in
def g_213 : Nat → Nat → EN → Nat → (Nat → Nat → Int32) → (Nat → Nat → Int64) →  Option ((Nat → Nat → Int32) × (Nat → Nat → Int64))
  | 0, _, _, _, _, _ => none
  | n + 1, dp, e, lab, I, L =>
    if lab = 0 then (stI (u2 I 105 9 (0 : Int32)) (fun I_2 => (stI (u2 I_2 105 13 (0 : Int32)) (fun I_7 => (stI (u2 I_7 105 12 (-1 : Int32)) (fun I_12 => (if 1 ≤ dp then (g_214 n (dp - 1) e 0 I_12 L).bind (fun ⟨I0_16, L0_16⟩ => (some (I0_16, L0_16))) else none)))))))
    else none
set_option maxRecDepth 100000 in
theorem e_213_0 (n dp : Nat) (e : EN) (I : (Nat → Nat → Int32)) (L : (Nat → Nat → Int64)) : g_213 (n + 1) dp e 0 I L = (stI (u2 I 105 9 (0 : Int32)) (fun I_2 => (stI (u2 I_2 105 13 (0 : Int32)) (fun I_7 => (stI (u2 I_7 105 12 (-1 : Int32)) (fun I_12 => (if 1 ≤ dp then (g_214 n (dp - 1) e 0 I_12 L).bind (fun ⟨I0_16, L0_16⟩ => (some (I0_16, L0_16))) else none))))))) := by rw [g_213.eq_2, if_pos (show (0 : Nat) = 0 from rfl)]
set_option maxHeartbeats 8000000 in
set_option maxRecDepth 100000 in
theorem w_213 (X : GX) {z : Nat} {kd : Nat → Nat × Nat} {Rf : Nat → Nat → Option Nat} (hS : Sh z kd Rf) : ∀ (n dp d : Nat), dp ≤ d → ∀ (I : (Nat → Nat → Int32)) (L : (Nat → Nat → Int64)) (I1 : (Nat → Nat → Int32)) (L1 : (Nat → Nat → Int64)), (g_213 n dp (z, kd, Rf) 0 I L = some (I1, L1) → K X d 213 0 0 (AV (fun τ => τ = (z, kd, I1, L1, Rf))) 0 [some (.ref 105)] [] (z, kd, I, L, Rf) 0 0) := by
  intro n
  induction n with
  | zero => intro dp d hdp I L I1 L1; exact fun h => by cases h
  | succ n ih =>
    intro dp d hdp I L I1 L1
    · intro h
      rw [e_213_0] at h
      refine K_of b_213_0 h_213_0 ?_
      refine q_aload rfl ?_
      refine q_iconst (0) (by decide) ?_
      refine q_putI (c0 := 12) (j := 9) rfl rfl (zl hS 105 (by decide)) (sk hS 105 (by decide) rfl) rfl ?_
      obtain ⟨I_2, nI_2, h⟩ := stI_some h
      refine q_nI nI_2 ?_
      refine q_aload rfl ?_
      refine q_iconst (0) (by decide) ?_
      refine q_putZ (c0 := 12) (j := 13) rfl rfl (zl hS 105 (by decide)) (sk hS 105 (by decide) rfl) rfl (Or.inl rfl) ?_
      obtain ⟨I_7, nI_7, h⟩ := stI_some h
      refine q_nI nI_7 ?_
      refine q_aload rfl ?_
      refine q_iconst (-1) (by decide) ?_
      refine q_putI (c0 := 12) (j := 12) rfl rfl (zl hS 105 (by decide)) (sk hS 105 (by decide) rfl) rfl ?_
      obtain ⟨I_12, nI_12, h⟩ := stI_some h
      refine q_nI nI_12 ?_
      refine q_aload rfl ?_
      obtain ⟨d_16, h⟩ := ite_some h
      obtain ⟨⟨I0_16, L0_16⟩, e_16, h⟩ := Option.bind_eq_some_iff.mp h
      dsimp only at h
      refine q_fv1V (a_214 X hS (d := d - 1) (by omega) e_16) (by omega) (Nat.le_refl _) (Nat.le_refl _) rfl (Nat.le_of_ble_eq_true rfl) ⟨(zl hS 105 (by decide)), congrArg Prod.fst (sk hS 105 (by decide) rfl), by decide⟩ ?_
      cases h
      exact q_vret rfl (Nat.le_refl _) (Nat.le_refl _) rfl
theorem a_213 (X : GX) {z : Nat} {kd : Nat → Nat × Nat} {Rf : Nat → Nat → Option Nat} (hS : Sh z kd Rf) {n dp d : Nat} (hd : dp ≤ d) {I : (Nat → Nat → Int32)} {L : (Nat → Nat → Int64)} {I1 : (Nat → Nat → Int32)} {L1 : (Nat → Nat → Int64)} (h : g_213 n dp (z, kd, Rf) 0 I L = some (I1, L1)) : Ct X d 213 0 0 [.ref 105] (z, kd, I, L, Rf) (AV (fun τ => τ = (z, kd, I1, L1, Rf))) :=
  Ct_of mu_213 (Nat.le_of_ble_eq_true rfl) ((w_213 X hS n dp d hd I L _ _) h)

/-! 218 CutFloorModel.isWord(J)Z -/
set_option maxHeartbeats 4000000 in
set_option maxRecDepth 100000 in
def g_218 : Nat → Nat → EN → Nat → (Nat → Nat → Int32) → (Nat → Nat → Int64) → Int64 →  Option (Int32 × (Nat → Nat → Int32) × (Nat → Nat → Int64))
  | 0, _, _, _, _, _, _ => none
  | n + 1, dp, e, lab, I, L, j1 =>
    if lab = 0 then (if (I 105 10) = (1 : Int32) then (if (lg_cmp (L 105 11) j1) = 0 then (some ((1 : Int32), I, L)) else (some ((0 : Int32), I, L))) else (some ((0 : Int32), I, L)))
    else none
set_option maxRecDepth 100000 in
theorem e_218_0 (n dp : Nat) (e : EN) (I : (Nat → Nat → Int32)) (L : (Nat → Nat → Int64)) (j1 : Int64) : g_218 (n + 1) dp e 0 I L j1 = (if (I 105 10) = (1 : Int32) then (if (lg_cmp (L 105 11) j1) = 0 then (some ((1 : Int32), I, L)) else (some ((0 : Int32), I, L))) else (some ((0 : Int32), I, L))) := by rw [g_218.eq_2, if_pos (show (0 : Nat) = 0 from rfl)]
set_option maxHeartbeats 8000000 in
set_option maxRecDepth 100000 in
theorem w_218 (X : GX) {z : Nat} {kd : Nat → Nat × Nat} {Rf : Nat → Nat → Option Nat} (hS : Sh z kd Rf) : ∀ (n dp d : Nat), dp ≤ d → ∀ (I : (Nat → Nat → Int32)) (L : (Nat → Nat → Int64)) (j1 : Int64) (r : Int32) (I1 : (Nat → Nat → Int32)) (L1 : (Nat → Nat → Int64)), (g_218 n dp (z, kd, Rf) 0 I L j1 = some (r, I1, L1) → K X d 218 0 0 (AI (fun x τ => x = r ∧ τ = (z, kd, I1, L1, Rf))) 0 [some (.ref 105), some (.long j1), none] [] (z, kd, I, L, Rf) 0 0) := by
  intro n
  induction n with
  | zero => intro dp d hdp I L j1 r I1 L1; exact fun h => by cases h
  | succ n ih =>
    intro dp d hdp I L j1 r I1 L1
    · intro h
      rw [e_218_0] at h
      refine K_of b_218_0 h_218_0 ?_
      refine q_aload rfl ?_
      refine q_getI (c0 := 12) (j := 10) rfl rfl (zl hS 105 (by decide)) (sk hS 105 (by decide) rfl) (Or.inl rfl) (by decide) ?_
      refine q_iconst (1) (by decide) ?_
      refine q_icmp_ne (fun c_5 => ?_) (fun c_5 => ?_)
      · rw [if_neg c_5] at h
        refine K_of b_218_21 h_218_21 ?_
        refine q_iconst (0) (by decide) ?_
        refine q_end ?_
        refine K_of b_218_22 h_218_22 ?_
        cases h
        exact q_iret rfl (Nat.le_refl _) (Nat.le_refl _) ⟨rfl, rfl⟩
      · rw [if_pos c_5] at h
        refine q_aload rfl ?_
        refine q_getL (c0 := 12) (j := 11) rfl rfl (zl hS 105 (by decide)) (sk hS 105 (by decide) rfl) rfl (by decide) ?_
        refine q_lload rfl ?_
        refine q_lcmp ?_
        refine q_if_ne (fun c_14 => ?_) (fun c_14 => ?_)
        · rw [if_neg c_14] at h
          refine K_of b_218_21 h_218_21 ?_
          refine q_iconst (0) (by decide) ?_
          refine q_end ?_
          refine K_of b_218_22 h_218_22 ?_
          cases h
          exact q_iret rfl (Nat.le_refl _) (Nat.le_refl _) ⟨rfl, rfl⟩
        · rw [if_pos c_14] at h
          refine q_iconst (1) (by decide) ?_
          refine q_goto ?_
          refine K_of b_218_22 h_218_22 ?_
          cases h
          exact q_iret rfl (Nat.le_refl _) (Nat.le_refl _) ⟨rfl, rfl⟩
theorem a_218 (X : GX) {z : Nat} {kd : Nat → Nat × Nat} {Rf : Nat → Nat → Option Nat} (hS : Sh z kd Rf) {n dp d : Nat} (hd : dp ≤ d) {I : (Nat → Nat → Int32)} {L : (Nat → Nat → Int64)} {j1 : Int64} {I1 : (Nat → Nat → Int32)} {L1 : (Nat → Nat → Int64)} {r : Int32} (h : g_218 n dp (z, kd, Rf) 0 I L j1 = some (r, I1, L1)) : Ct X d 218 0 0 [.ref 105, .long j1] (z, kd, I, L, Rf) (AI (fun x τ => x = r ∧ τ = (z, kd, I1, L1, Rf))) :=
  Ct_of mu_218 (Nat.le_of_ble_eq_true rfl) ((w_218 X hS n dp d hd I L j1 _ _ _) h)

/-! 219 CutFloorModel.must(Z)V -/
set_option maxHeartbeats 4000000 in
set_option maxRecDepth 100000 in
def g_219 : Nat → Nat → EN → Nat → (Nat → Nat → Int32) → (Nat → Nat → Int64) → Int32 →  Option ((Nat → Nat → Int32) × (Nat → Nat → Int64))
  | 0, _, _, _, _, _, _ => none
  | n + 1, dp, e, lab, I, L, i1 =>
    if lab = 0 then (if (I 105 13) = 0 then (if i1 = 0 then (stI (u2 I 105 13 (1 : Int32)) (fun I_13 => (stI (u2 I_13 105 12 (I_13 105 8)) (fun I_21 => (g_219 n dp e 1 I_21 L i1))))) else (g_219 n dp e 1 I L i1)) else (g_219 n dp e 1 I L i1))
    else if lab = 1 then (if (I 105 13) = 0 then (if 1 ≤ dp then (g_214 n (dp - 1) e 0 I L).bind (fun ⟨I0_32, L0_32⟩ => (some (I0_32, L0_32))) else none) else (some (I, L)))
    else none
set_option maxRecDepth 100000 in
theorem e_219_0 (n dp : Nat) (e : EN) (I : (Nat → Nat → Int32)) (L : (Nat → Nat → Int64)) (i1 : Int32) : g_219 (n + 1) dp e 0 I L i1 = (if (I 105 13) = 0 then (if i1 = 0 then (stI (u2 I 105 13 (1 : Int32)) (fun I_13 => (stI (u2 I_13 105 12 (I_13 105 8)) (fun I_21 => (g_219 n dp e 1 I_21 L i1))))) else (g_219 n dp e 1 I L i1)) else (g_219 n dp e 1 I L i1)) := by rw [g_219.eq_2, if_pos (show (0 : Nat) = 0 from rfl)]
set_option maxRecDepth 100000 in
theorem e_219_1 (n dp : Nat) (e : EN) (I : (Nat → Nat → Int32)) (L : (Nat → Nat → Int64)) (i1 : Int32) : g_219 (n + 1) dp e 1 I L i1 = (if (I 105 13) = 0 then (if 1 ≤ dp then (g_214 n (dp - 1) e 0 I L).bind (fun ⟨I0_32, L0_32⟩ => (some (I0_32, L0_32))) else none) else (some (I, L))) := by rw [g_219.eq_2, if_neg (show ¬ ((1 : Nat) = 0) by decide), if_pos (show (1 : Nat) = 1 from rfl)]
set_option maxHeartbeats 8000000 in
set_option maxRecDepth 100000 in
theorem w_219 (X : GX) {z : Nat} {kd : Nat → Nat × Nat} {Rf : Nat → Nat → Option Nat} (hS : Sh z kd Rf) : ∀ (n dp d : Nat), dp ≤ d → ∀ (I : (Nat → Nat → Int32)) (L : (Nat → Nat → Int64)) (i1 : Int32) (I1 : (Nat → Nat → Int32)) (L1 : (Nat → Nat → Int64)), (g_219 n dp (z, kd, Rf) 0 I L i1 = some (I1, L1) → K X d 219 0 0 (AV (fun τ => τ = (z, kd, I1, L1, Rf))) 0 [some (.ref 105), some (.int i1)] [] (z, kd, I, L, Rf) 0 0) ∧
    (g_219 n dp (z, kd, Rf) 1 I L i1 = some (I1, L1) → K X d 219 0 0 (AV (fun τ => τ = (z, kd, I1, L1, Rf))) 24 [some (.ref 105), some (.int i1)] [] (z, kd, I, L, Rf) 0 0) := by
  intro n
  induction n with
  | zero => intro dp d hdp I L i1 I1 L1; exact ⟨(fun h => by cases h), (fun h => by cases h)⟩
  | succ n ih =>
    intro dp d hdp I L i1 I1 L1
    refine ⟨?_, ?_⟩
    · intro h
      rw [e_219_0] at h
      refine K_of b_219_0 h_219_0 ?_
      refine q_aload rfl ?_
      refine q_getI (c0 := 12) (j := 13) rfl rfl (zl hS 105 (by decide)) (sk hS 105 (by decide) rfl) (Or.inr rfl) (by decide) ?_
      refine q_if_ne (fun c_4 => ?_) (fun c_4 => ?_)
      · rw [if_neg c_4] at h
        exact (ih dp d hdp _ _ i1 _ _).2 h
      · rw [if_pos c_4] at h
        refine q_iload rfl ?_
        refine q_if_ne (fun c_8 => ?_) (fun c_8 => ?_)
        · rw [if_neg c_8] at h
          exact (ih dp d hdp _ _ i1 _ _).2 h
        · rw [if_pos c_8] at h
          refine q_aload rfl ?_
          refine q_iconst (1) (by decide) ?_
          refine q_putZ (c0 := 12) (j := 13) rfl rfl (zl hS 105 (by decide)) (sk hS 105 (by decide) rfl) rfl (Or.inr rfl) ?_
          obtain ⟨I_13, nI_13, h⟩ := stI_some h
          refine q_nI nI_13 ?_
          refine q_aload rfl ?_
          refine q_aload rfl ?_
          refine q_getI (c0 := 12) (j := 8) rfl rfl (zl hS 105 (by decide)) (sk hS 105 (by decide) rfl) (Or.inl rfl) (by decide) ?_
          refine q_putI (c0 := 12) (j := 12) rfl rfl (zl hS 105 (by decide)) (sk hS 105 (by decide) rfl) rfl ?_
          obtain ⟨I_21, nI_21, h⟩ := stI_some h
          refine q_nI nI_21 ?_
          refine q_end ?_
          exact (ih dp d hdp _ _ i1 _ _).2 h
    · intro h
      rw [e_219_1] at h
      refine K_of b_219_24 h_219_24 ?_
      refine q_aload rfl ?_
      refine q_getI (c0 := 12) (j := 13) rfl rfl (zl hS 105 (by decide)) (sk hS 105 (by decide) rfl) (Or.inr rfl) (by decide) ?_
      refine q_if_ne (fun c_28 => ?_) (fun c_28 => ?_)
      · rw [if_neg c_28] at h
        refine K_of b_219_35 h_219_35 ?_
        cases h
        exact q_vret rfl (Nat.le_refl _) (Nat.le_refl _) rfl
      · rw [if_pos c_28] at h
        refine q_aload rfl ?_
        obtain ⟨d_32, h⟩ := ite_some h
        obtain ⟨⟨I0_32, L0_32⟩, e_32, h⟩ := Option.bind_eq_some_iff.mp h
        dsimp only at h
        refine q_fv1V (a_214 X hS (d := d - 1) (by omega) e_32) (by omega) (Nat.le_refl _) (Nat.le_refl _) rfl (Nat.le_of_ble_eq_true rfl) ⟨(zl hS 105 (by decide)), congrArg Prod.fst (sk hS 105 (by decide) rfl), by decide⟩ ?_
        refine q_end ?_
        refine K_of b_219_35 h_219_35 ?_
        cases h
        exact q_vret rfl (Nat.le_refl _) (Nat.le_refl _) rfl
theorem a_219 (X : GX) {z : Nat} {kd : Nat → Nat × Nat} {Rf : Nat → Nat → Option Nat} (hS : Sh z kd Rf) {n dp d : Nat} (hd : dp ≤ d) {I : (Nat → Nat → Int32)} {L : (Nat → Nat → Int64)} {i1 : Int32} {I1 : (Nat → Nat → Int32)} {L1 : (Nat → Nat → Int64)} (h : g_219 n dp (z, kd, Rf) 0 I L i1 = some (I1, L1)) : Ct X d 219 0 0 [.ref 105, .int i1] (z, kd, I, L, Rf) (AV (fun τ => τ = (z, kd, I1, L1, Rf))) :=
  Ct_of mu_219 (Nat.le_of_ble_eq_true rfl) ((w_219 X hS n dp d hd I L i1 _ _).1 h)

/-! 221 CutFloorModel.number(JJ)I -/
set_option maxHeartbeats 4000000 in
set_option maxRecDepth 100000 in
def g_221 : Nat → Nat → EN → Nat → (Nat → Nat → Int32) → (Nat → Nat → Int64) → Int64 → Int64 →  Option (Int32 × (Nat → Nat → Int32) × (Nat → Nat → Int64))
  | 0, _, _, _, _, _, _, _ => none
  | n + 1, dp, e, lab, I, L, j1, j3 =>
    if lab = 0 then (stI (Int64.toInt32 (L 105 11)) (fun v_5 => (if (I 105 10) = (2 : Int32) then (if 1 ≤ dp then (g_193 n (dp - 1) e 0 I L (L 105 11) j1 j3).bind (fun ⟨x0_22, I0_22, L0_22⟩ => (if x0_22 = 0 then (if 1 ≤ dp then (g_219 n (dp - 1) e 0 I0_22 L0_22 (0 : Int32)).bind (fun ⟨I1_33, L1_33⟩ => (some (v_5, I1_33, L1_33))) else none) else (if 1 ≤ dp then (g_219 n (dp - 1) e 0 I0_22 L0_22 (1 : Int32)).bind (fun ⟨I1_33, L1_33⟩ => (some (v_5, I1_33, L1_33))) else none))) else none) else (if 1 ≤ dp then (g_219 n (dp - 1) e 0 I L (0 : Int32)).bind (fun ⟨I0_33, L0_33⟩ => (some (v_5, I0_33, L0_33))) else none))))
    else none
set_option maxRecDepth 100000 in
theorem e_221_0 (n dp : Nat) (e : EN) (I : (Nat → Nat → Int32)) (L : (Nat → Nat → Int64)) (j1 : Int64) (j3 : Int64) : g_221 (n + 1) dp e 0 I L j1 j3 = (stI (Int64.toInt32 (L 105 11)) (fun v_5 => (if (I 105 10) = (2 : Int32) then (if 1 ≤ dp then (g_193 n (dp - 1) e 0 I L (L 105 11) j1 j3).bind (fun ⟨x0_22, I0_22, L0_22⟩ => (if x0_22 = 0 then (if 1 ≤ dp then (g_219 n (dp - 1) e 0 I0_22 L0_22 (0 : Int32)).bind (fun ⟨I1_33, L1_33⟩ => (some (v_5, I1_33, L1_33))) else none) else (if 1 ≤ dp then (g_219 n (dp - 1) e 0 I0_22 L0_22 (1 : Int32)).bind (fun ⟨I1_33, L1_33⟩ => (some (v_5, I1_33, L1_33))) else none))) else none) else (if 1 ≤ dp then (g_219 n (dp - 1) e 0 I L (0 : Int32)).bind (fun ⟨I0_33, L0_33⟩ => (some (v_5, I0_33, L0_33))) else none)))) := by rw [g_221.eq_2, if_pos (show (0 : Nat) = 0 from rfl)]
set_option maxHeartbeats 8000000 in
set_option maxRecDepth 100000 in
theorem w_221 (X : GX) {z : Nat} {kd : Nat → Nat × Nat} {Rf : Nat → Nat → Option Nat} (hS : Sh z kd Rf) : ∀ (n dp d : Nat), dp ≤ d → ∀ (I : (Nat → Nat → Int32)) (L : (Nat → Nat → Int64)) (j1 : Int64) (j3 : Int64) (r : Int32) (I1 : (Nat → Nat → Int32)) (L1 : (Nat → Nat → Int64)), (g_221 n dp (z, kd, Rf) 0 I L j1 j3 = some (r, I1, L1) → K X d 221 0 0 (AI (fun x τ => x = r ∧ τ = (z, kd, I1, L1, Rf))) 0 [some (.ref 105), some (.long j1), none, some (.long j3), none, none] [] (z, kd, I, L, Rf) 0 0) := by
  intro n
  induction n with
  | zero => intro dp d hdp I L j1 j3 r I1 L1; exact fun h => by cases h
  | succ n ih =>
    intro dp d hdp I L j1 j3 r I1 L1
    · intro h
      rw [e_221_0] at h
      refine K_of b_221_0 h_221_0 ?_
      refine q_aload rfl ?_
      refine q_getL (c0 := 12) (j := 11) rfl rfl (zl hS 105 (by decide)) (sk hS 105 (by decide) rfl) rfl (by decide) ?_
      refine q_l2i ?_
      obtain ⟨v_5, nv_5, h⟩ := stI_some h
      refine q_eqi nv_5.symm ?_
      refine q_istore (ls1 := [some (.ref 105), some (.long j1), none, some (.long j3), none, some (.int v_5)]) (Nat.le_of_ble_eq_true rfl) rfl ?_
      refine q_aload rfl ?_
      refine q_aload rfl ?_
      refine q_getI (c0 := 12) (j := 10) rfl rfl (zl hS 105 (by decide)) (sk hS 105 (by decide) rfl) (Or.inl rfl) (by decide) ?_
      refine q_iconst (2) (by decide) ?_
      refine q_icmp_ne (fun c_13 => ?_) (fun c_13 => ?_)
      · rw [if_neg c_13] at h
        refine K_of b_221_32 h_221_32 ?_
        refine q_iconst (0) (by decide) ?_
        refine q_end ?_
        refine K_of b_221_33 h_221_33 ?_
        obtain ⟨d_33, h⟩ := ite_some h
        obtain ⟨⟨I0_33, L0_33⟩, e_33, h⟩ := Option.bind_eq_some_iff.mp h
        dsimp only at h
        refine q_fv2V (a_219 X hS (d := d - 1) (by omega) e_33) (by omega) (Nat.le_refl _) (Nat.le_refl _) rfl (Nat.le_of_ble_eq_true rfl) ⟨(zl hS 105 (by decide)), congrArg Prod.fst (sk hS 105 (by decide) rfl), by decide⟩ ?_
        refine q_iload rfl ?_
        cases h
        exact q_iret rfl (Nat.le_refl _) (Nat.le_refl _) ⟨rfl, rfl⟩
      · rw [if_pos c_13] at h
        refine q_aload rfl ?_
        refine q_getL (c0 := 12) (j := 11) rfl rfl (zl hS 105 (by decide)) (sk hS 105 (by decide) rfl) rfl (by decide) ?_
        refine q_lload rfl ?_
        refine q_lload rfl ?_
        obtain ⟨d_22, h⟩ := ite_some h
        obtain ⟨⟨x0_22, I0_22, L0_22⟩, e_22, h⟩ := Option.bind_eq_some_iff.mp h
        dsimp only at h
        refine q_fs3I (a_193 X hS (d := d - 1) (by omega) e_22) (by omega) (Nat.le_refl _) (Nat.le_refl _) rfl (Nat.le_of_ble_eq_true rfl) ?_
        refine q_if_eq (fun c_25 => ?_) (fun c_25 => ?_)
        · rw [if_pos c_25] at h
          refine K_of b_221_32 h_221_32 ?_
          refine q_iconst (0) (by decide) ?_
          refine q_end ?_
          refine K_of b_221_33 h_221_33 ?_
          obtain ⟨d_33, h⟩ := ite_some h
          obtain ⟨⟨I1_33, L1_33⟩, e_33, h⟩ := Option.bind_eq_some_iff.mp h
          dsimp only at h
          refine q_fv2V (a_219 X hS (d := d - 1) (by omega) e_33) (by omega) (Nat.le_refl _) (Nat.le_refl _) rfl (Nat.le_of_ble_eq_true rfl) ⟨(zl hS 105 (by decide)), congrArg Prod.fst (sk hS 105 (by decide) rfl), by decide⟩ ?_
          refine q_iload rfl ?_
          cases h
          exact q_iret rfl (Nat.le_refl _) (Nat.le_refl _) ⟨rfl, rfl⟩
        · rw [if_neg c_25] at h
          refine q_iconst (1) (by decide) ?_
          refine q_goto ?_
          refine K_of b_221_33 h_221_33 ?_
          obtain ⟨d_33, h⟩ := ite_some h
          obtain ⟨⟨I1_33, L1_33⟩, e_33, h⟩ := Option.bind_eq_some_iff.mp h
          dsimp only at h
          refine q_fv2V (a_219 X hS (d := d - 1) (by omega) e_33) (by omega) (Nat.le_refl _) (Nat.le_refl _) rfl (Nat.le_of_ble_eq_true rfl) ⟨(zl hS 105 (by decide)), congrArg Prod.fst (sk hS 105 (by decide) rfl), by decide⟩ ?_
          refine q_iload rfl ?_
          cases h
          exact q_iret rfl (Nat.le_refl _) (Nat.le_refl _) ⟨rfl, rfl⟩
theorem a_221 (X : GX) {z : Nat} {kd : Nat → Nat × Nat} {Rf : Nat → Nat → Option Nat} (hS : Sh z kd Rf) {n dp d : Nat} (hd : dp ≤ d) {I : (Nat → Nat → Int32)} {L : (Nat → Nat → Int64)} {j1 : Int64} {j3 : Int64} {I1 : (Nat → Nat → Int32)} {L1 : (Nat → Nat → Int64)} {r : Int32} (h : g_221 n dp (z, kd, Rf) 0 I L j1 j3 = some (r, I1, L1)) : Ct X d 221 0 0 [.ref 105, .long j1, .long j3] (z, kd, I, L, Rf) (AI (fun x τ => x = r ∧ τ = (z, kd, I1, L1, Rf))) :=
  Ct_of mu_221 (Nat.le_of_ble_eq_true rfl) ((w_221 X hS n dp d hd I L j1 j3 _ _ _) h)

/-! 222 CutFloorModel.readPieces(II)V -/
set_option maxHeartbeats 4000000 in
set_option maxRecDepth 100000 in
def g_222 : Nat → Nat → EN → Nat → (Nat → Nat → Int32) → (Nat → Nat → Int64) → Int32 → Int32 →  Option ((Nat → Nat → Int32) × (Nat → Nat → Int64))
  | 0, _, _, _, _, _, _, _ => none
  | n + 1, dp, e, lab, I, L, i1, i2 =>
    if lab = 0 then (if 1 ≤ dp then (g_221 n (dp - 1) e 0 I L (1 : Int64) (9 : Int64)).bind (fun ⟨x0_5, I0_5, L0_5⟩ => (if 1 ≤ dp then (g_221 n (dp - 1) e 0 I0_5 L0_5 ((Int32.toInt64 i2) + (1 : Int64)) (9 : Int64)).bind (fun ⟨x1_17, I1_17, L1_17⟩ => (if (I1_17 105 13) = 0 then (if 0 ≤ ((i1 + (1 : Int32)) + x1_17) ∧ (Int32.toNatClampNeg ((i1 + (1 : Int32)) + x1_17)) < 176 then (if 0 ≤ ((i1 + (1 : Int32)) + x1_17) ∧ (Int32.toNatClampNeg ((i1 + (1 : Int32)) + x1_17)) < 176 then (stI (u2 I1_17 117 (Int32.toNatClampNeg ((i1 + (1 : Int32)) + x1_17)) ((I1_17 117 (Int32.toNatClampNeg ((i1 + (1 : Int32)) + x1_17))) + x0_5)) (fun I_43 => (some (I_43, L1_17)))) else none) else none) else (some (I1_17, L1_17)))) else none)) else none)
    else none
set_option maxRecDepth 100000 in
theorem e_222_0 (n dp : Nat) (e : EN) (I : (Nat → Nat → Int32)) (L : (Nat → Nat → Int64)) (i1 : Int32) (i2 : Int32) : g_222 (n + 1) dp e 0 I L i1 i2 = (if 1 ≤ dp then (g_221 n (dp - 1) e 0 I L (1 : Int64) (9 : Int64)).bind (fun ⟨x0_5, I0_5, L0_5⟩ => (if 1 ≤ dp then (g_221 n (dp - 1) e 0 I0_5 L0_5 ((Int32.toInt64 i2) + (1 : Int64)) (9 : Int64)).bind (fun ⟨x1_17, I1_17, L1_17⟩ => (if (I1_17 105 13) = 0 then (if 0 ≤ ((i1 + (1 : Int32)) + x1_17) ∧ (Int32.toNatClampNeg ((i1 + (1 : Int32)) + x1_17)) < 176 then (if 0 ≤ ((i1 + (1 : Int32)) + x1_17) ∧ (Int32.toNatClampNeg ((i1 + (1 : Int32)) + x1_17)) < 176 then (stI (u2 I1_17 117 (Int32.toNatClampNeg ((i1 + (1 : Int32)) + x1_17)) ((I1_17 117 (Int32.toNatClampNeg ((i1 + (1 : Int32)) + x1_17))) + x0_5)) (fun I_43 => (some (I_43, L1_17)))) else none) else none) else (some (I1_17, L1_17)))) else none)) else none) := by rw [g_222.eq_2, if_pos (show (0 : Nat) = 0 from rfl)]
set_option maxHeartbeats 8000000 in
set_option maxRecDepth 100000 in
theorem w_222 (X : GX) {z : Nat} {kd : Nat → Nat × Nat} {Rf : Nat → Nat → Option Nat} (hS : Sh z kd Rf) : ∀ (n dp d : Nat), dp ≤ d → ∀ (I : (Nat → Nat → Int32)) (L : (Nat → Nat → Int64)) (i1 : Int32) (i2 : Int32) (I1 : (Nat → Nat → Int32)) (L1 : (Nat → Nat → Int64)), (g_222 n dp (z, kd, Rf) 0 I L i1 i2 = some (I1, L1) → K X d 222 0 0 (AV (fun τ => τ = (z, kd, I1, L1, Rf))) 0 [some (.ref 105), some (.int i1), some (.int i2), none, none] [] (z, kd, I, L, Rf) 0 0) := by
  intro n
  induction n with
  | zero => intro dp d hdp I L i1 i2 I1 L1; exact fun h => by cases h
  | succ n ih =>
    intro dp d hdp I L i1 i2 I1 L1
    · intro h
      rw [e_222_0] at h
      refine K_of b_222_0 h_222_0 ?_
      refine q_aload rfl ?_
      refine q_lconst (1) (by decide) ?_
      refine q_lconst (9) (by decide) ?_
      obtain ⟨d_5, h⟩ := ite_some h
      obtain ⟨⟨x0_5, I0_5, L0_5⟩, e_5, h⟩ := Option.bind_eq_some_iff.mp h
      dsimp only at h
      refine q_fv3I (a_221 X hS (d := d - 1) (by omega) e_5) (by omega) (Nat.le_refl _) (Nat.le_refl _) rfl (Nat.le_of_ble_eq_true rfl) ⟨(zl hS 105 (by decide)), congrArg Prod.fst (sk hS 105 (by decide) rfl), by decide⟩ ?_
      refine q_istore (ls1 := [some (.ref 105), some (.int i1), some (.int i2), some (.int x0_5), none]) (Nat.le_of_ble_eq_true rfl) rfl ?_
      refine q_aload rfl ?_
      refine q_iload rfl ?_
      refine q_i2l ?_
      refine q_lconst (1) (by decide) ?_
      refine q_ladd ?_
      refine q_lconst (9) (by decide) ?_
      obtain ⟨d_17, h⟩ := ite_some h
      obtain ⟨⟨x1_17, I1_17, L1_17⟩, e_17, h⟩ := Option.bind_eq_some_iff.mp h
      dsimp only at h
      refine q_fv3I (a_221 X hS (d := d - 1) (by omega) e_17) (by omega) (Nat.le_refl _) (Nat.le_refl _) rfl (Nat.le_of_ble_eq_true rfl) ⟨(zl hS 105 (by decide)), congrArg Prod.fst (sk hS 105 (by decide) rfl), by decide⟩ ?_
      refine q_istore (ls1 := [some (.ref 105), some (.int i1), some (.int i2), some (.int x0_5), some (.int x1_17)]) (Nat.le_of_ble_eq_true rfl) rfl ?_
      refine q_aload rfl ?_
      refine q_getI (c0 := 12) (j := 13) rfl rfl (zl hS 105 (by decide)) (sk hS 105 (by decide) rfl) (Or.inr rfl) (by decide) ?_
      refine q_if_ne (fun c_26 => ?_) (fun c_26 => ?_)
      · rw [if_neg c_26] at h
        refine K_of b_222_44 h_222_44 ?_
        cases h
        exact q_vret rfl (Nat.le_refl _) (Nat.le_refl _) rfl
      · rw [if_pos c_26] at h
        refine q_aload rfl ?_
        refine q_getRs (c0 := 12) (j := 25) rfl rfl (zl hS 105 (by decide)) (sk hS 105 (by decide) rfl) rfl (by decide) (r_105_25 hS) ?_
        refine q_iload rfl ?_
        refine q_iconst (1) (by decide) ?_
        refine q_iadd ?_
        refine q_iload rfl ?_
        refine q_iadd ?_
        refine q_dup2 rfl rfl ?_
        obtain ⟨⟨u_40, v_40⟩, h⟩ := ite_some h
        refine q_ialN (Int32.toNatClampNeg ((i1 + (1 : Int32)) + x1_17)) (nx u_40) (zl hS 117 (by decide)) (sk hS 117 (by decide) rfl) v_40 (by decide) ?_
        refine q_iload rfl ?_
        refine q_iadd ?_
        obtain ⟨⟨u_43, v_43⟩, h⟩ := ite_some h
        refine q_iasN (Int32.toNatClampNeg ((i1 + (1 : Int32)) + x1_17)) (nx u_43) (zl hS 117 (by decide)) (sk hS 117 (by decide) rfl) v_43 (by decide) ?_
        obtain ⟨I_43, nI_43, h⟩ := stI_some h
        refine q_nI nI_43 ?_
        refine q_end ?_
        refine K_of b_222_44 h_222_44 ?_
        cases h
        exact q_vret rfl (Nat.le_refl _) (Nat.le_refl _) rfl
theorem a_222 (X : GX) {z : Nat} {kd : Nat → Nat × Nat} {Rf : Nat → Nat → Option Nat} (hS : Sh z kd Rf) {n dp d : Nat} (hd : dp ≤ d) {I : (Nat → Nat → Int32)} {L : (Nat → Nat → Int64)} {i1 : Int32} {i2 : Int32} {I1 : (Nat → Nat → Int32)} {L1 : (Nat → Nat → Int64)} (h : g_222 n dp (z, kd, Rf) 0 I L i1 i2 = some (I1, L1)) : Ct X d 222 0 0 [.ref 105, .int i1, .int i2] (z, kd, I, L, Rf) (AV (fun τ => τ = (z, kd, I1, L1, Rf))) :=
  Ct_of mu_222 (Nat.le_of_ble_eq_true rfl) ((w_222 X hS n dp d hd I L i1 i2 _ _) h)

/-! 220 CutFloorModel.readCut()V -/
set_option maxHeartbeats 4000000 in
set_option maxRecDepth 100000 in
def g_220 : Nat → Nat → EN → Nat → (Nat → Nat → Int32) → (Nat → Nat → Int64) → Int32 → Int32 →  Option ((Nat → Nat → Int32) × (Nat → Nat → Int64))
  | 0, _, _, _, _, _, _, _ => none
  | n + 1, dp, e, lab, I, L, i1, i2 =>
    if lab = 0 then (stI ((11 : Int32) * (I 105 26)) (fun v_7 => (g_220 n dp e 1 I L v_7 (0 : Int32))))
    else if lab = 1 then (if (11 : Int32) ≤ i2 then (if 1 ≤ dp then (g_221 n (dp - 1) e 0 I L (0 : Int64) (9 : Int64)).bind (fun ⟨x0_36, I0_36, L0_36⟩ => (if 0 ≤ i1 ∧ (Int32.toNatClampNeg i1) < 176 then (stI (u2 I0_36 117 (Int32.toNatClampNeg i1) x0_36) (fun I_46 => (if 1 ≤ dp then (g_218 n (dp - 1) e 0 I_46 L0_36 (655 : Int64)).bind (fun ⟨x1_52, I1_52, L1_52⟩ => (if 1 ≤ dp then (g_219 n (dp - 1) e 0 I1_52 L1_52 x1_52).bind (fun ⟨I2_55, L2_55⟩ => (if 1 ≤ dp then (g_222 n (dp - 1) e 0 I2_55 L2_55 i1 x0_36).bind (fun ⟨I3_61, L3_61⟩ => (g_220 n dp e 2 I3_61 L3_61 i1 x0_36)) else none)) else none)) else none))) else none)) else none) else (if 0 ≤ (i1 + i2) ∧ (Int32.toNatClampNeg (i1 + i2)) < 176 then (stI (u2 I 117 (Int32.toNatClampNeg (i1 + i2)) (0 : Int32)) (fun I_24 => (g_220 n dp e 1 I_24 L i1 (i2 + Int32.ofInt (1))))) else none))
    else if lab = 2 then (if (I 105 13) = 0 then (if 1 ≤ dp then (g_218 n (dp - 1) e 0 I L (1476 : Int64)).bind (fun ⟨x0_75, I0_75, L0_75⟩ => (if x0_75 = 0 then (g_220 n dp e 3 I0_75 L0_75 i1 i2) else (if 1 ≤ dp then (g_214 n (dp - 1) e 0 I0_75 L0_75).bind (fun ⟨I1_82, L1_82⟩ => (if 1 ≤ dp then (g_222 n (dp - 1) e 0 I1_82 L1_82 i1 i2).bind (fun ⟨I2_88, L2_88⟩ => (g_220 n dp e 2 I2_88 L2_88 i1 i2)) else none)) else none))) else none) else (g_220 n dp e 3 I L i1 i2))
    else if lab = 3 then (stI (u2 I 105 26 ((I 105 26) + (1 : Int32))) (fun I_101 => (some (I_101, L))))
    else none
set_option maxRecDepth 100000 in
theorem e_220_0 (n dp : Nat) (e : EN) (I : (Nat → Nat → Int32)) (L : (Nat → Nat → Int64)) (i1 : Int32) (i2 : Int32) : g_220 (n + 1) dp e 0 I L i1 i2 = (stI ((11 : Int32) * (I 105 26)) (fun v_7 => (g_220 n dp e 1 I L v_7 (0 : Int32)))) := by rw [g_220.eq_2, if_pos (show (0 : Nat) = 0 from rfl)]
set_option maxRecDepth 100000 in
theorem e_220_1 (n dp : Nat) (e : EN) (I : (Nat → Nat → Int32)) (L : (Nat → Nat → Int64)) (i1 : Int32) (i2 : Int32) : g_220 (n + 1) dp e 1 I L i1 i2 = (if (11 : Int32) ≤ i2 then (if 1 ≤ dp then (g_221 n (dp - 1) e 0 I L (0 : Int64) (9 : Int64)).bind (fun ⟨x0_36, I0_36, L0_36⟩ => (if 0 ≤ i1 ∧ (Int32.toNatClampNeg i1) < 176 then (stI (u2 I0_36 117 (Int32.toNatClampNeg i1) x0_36) (fun I_46 => (if 1 ≤ dp then (g_218 n (dp - 1) e 0 I_46 L0_36 (655 : Int64)).bind (fun ⟨x1_52, I1_52, L1_52⟩ => (if 1 ≤ dp then (g_219 n (dp - 1) e 0 I1_52 L1_52 x1_52).bind (fun ⟨I2_55, L2_55⟩ => (if 1 ≤ dp then (g_222 n (dp - 1) e 0 I2_55 L2_55 i1 x0_36).bind (fun ⟨I3_61, L3_61⟩ => (g_220 n dp e 2 I3_61 L3_61 i1 x0_36)) else none)) else none)) else none))) else none)) else none) else (if 0 ≤ (i1 + i2) ∧ (Int32.toNatClampNeg (i1 + i2)) < 176 then (stI (u2 I 117 (Int32.toNatClampNeg (i1 + i2)) (0 : Int32)) (fun I_24 => (g_220 n dp e 1 I_24 L i1 (i2 + Int32.ofInt (1))))) else none)) := by rw [g_220.eq_2, if_neg (show ¬ ((1 : Nat) = 0) by decide), if_pos (show (1 : Nat) = 1 from rfl)]
set_option maxRecDepth 100000 in
theorem e_220_2 (n dp : Nat) (e : EN) (I : (Nat → Nat → Int32)) (L : (Nat → Nat → Int64)) (i1 : Int32) (i2 : Int32) : g_220 (n + 1) dp e 2 I L i1 i2 = (if (I 105 13) = 0 then (if 1 ≤ dp then (g_218 n (dp - 1) e 0 I L (1476 : Int64)).bind (fun ⟨x0_75, I0_75, L0_75⟩ => (if x0_75 = 0 then (g_220 n dp e 3 I0_75 L0_75 i1 i2) else (if 1 ≤ dp then (g_214 n (dp - 1) e 0 I0_75 L0_75).bind (fun ⟨I1_82, L1_82⟩ => (if 1 ≤ dp then (g_222 n (dp - 1) e 0 I1_82 L1_82 i1 i2).bind (fun ⟨I2_88, L2_88⟩ => (g_220 n dp e 2 I2_88 L2_88 i1 i2)) else none)) else none))) else none) else (g_220 n dp e 3 I L i1 i2)) := by rw [g_220.eq_2, if_neg (show ¬ ((2 : Nat) = 0) by decide), if_neg (show ¬ ((2 : Nat) = 1) by decide), if_pos (show (2 : Nat) = 2 from rfl)]
set_option maxRecDepth 100000 in
theorem e_220_3 (n dp : Nat) (e : EN) (I : (Nat → Nat → Int32)) (L : (Nat → Nat → Int64)) (i1 : Int32) (i2 : Int32) : g_220 (n + 1) dp e 3 I L i1 i2 = (stI (u2 I 105 26 ((I 105 26) + (1 : Int32))) (fun I_101 => (some (I_101, L)))) := by rw [g_220.eq_2, if_neg (show ¬ ((3 : Nat) = 0) by decide), if_neg (show ¬ ((3 : Nat) = 1) by decide), if_neg (show ¬ ((3 : Nat) = 2) by decide), if_pos (show (3 : Nat) = 3 from rfl)]
set_option maxHeartbeats 8000000 in
set_option maxRecDepth 100000 in
theorem w_220 (X : GX) {z : Nat} {kd : Nat → Nat × Nat} {Rf : Nat → Nat → Option Nat} (hS : Sh z kd Rf) : ∀ (n dp d : Nat), dp ≤ d → ∀ (I : (Nat → Nat → Int32)) (L : (Nat → Nat → Int64)) (i1 : Int32) (i2 : Int32) (I1 : (Nat → Nat → Int32)) (L1 : (Nat → Nat → Int64)), (g_220 n dp (z, kd, Rf) 0 I L i1 i2 = some (I1, L1) → K X d 220 0 0 (AV (fun τ => τ = (z, kd, I1, L1, Rf))) 0 [some (.ref 105), none, none] [] (z, kd, I, L, Rf) 0 0) ∧
    (g_220 n dp (z, kd, Rf) 1 I L i1 i2 = some (I1, L1) → K X d 220 0 0 (AV (fun τ => τ = (z, kd, I1, L1, Rf))) 10 [some (.ref 105), some (.int i1), some (.int i2)] [] (z, kd, I, L, Rf) 0 0) ∧
    (g_220 n dp (z, kd, Rf) 2 I L i1 i2 = some (I1, L1) → K X d 220 0 0 (AV (fun τ => τ = (z, kd, I1, L1, Rf))) 64 [some (.ref 105), some (.int i1), some (.int i2)] [] (z, kd, I, L, Rf) 0 0) ∧
    (g_220 n dp (z, kd, Rf) 3 I L i1 i2 = some (I1, L1) → K X d 220 0 0 (AV (fun τ => τ = (z, kd, I1, L1, Rf))) 94 [some (.ref 105), some (.int i1), some (.int i2)] [] (z, kd, I, L, Rf) 0 0) := by
  intro n
  induction n with
  | zero => intro dp d hdp I L i1 i2 I1 L1; exact ⟨(fun h => by cases h), (fun h => by cases h), (fun h => by cases h), (fun h => by cases h)⟩
  | succ n ih =>
    intro dp d hdp I L i1 i2 I1 L1
    refine ⟨?_, ?_, ?_, ?_⟩
    · intro h
      rw [e_220_0] at h
      refine K_of b_220_0 h_220_0 ?_
      refine q_iconst (11) (by decide) ?_
      refine q_aload rfl ?_
      refine q_getI (c0 := 12) (j := 26) rfl rfl (zl hS 105 (by decide)) (sk hS 105 (by decide) rfl) (Or.inl rfl) (by decide) ?_
      refine q_imul ?_
      obtain ⟨v_7, nv_7, h⟩ := stI_some h
      refine q_eqi nv_7.symm ?_
      refine q_istore (ls1 := [some (.ref 105), some (.int v_7), none]) (Nat.le_of_ble_eq_true rfl) rfl ?_
      refine q_iconst (0) (by decide) ?_
      refine q_istore (ls1 := [some (.ref 105), some (.int v_7), some (.int (0 : Int32))]) (Nat.le_of_ble_eq_true rfl) rfl ?_
      refine q_end ?_
      exact (ih dp d hdp _ _ v_7 (0 : Int32) _ _).2.1 h
    · intro h
      rw [e_220_1] at h
      refine K_of b_220_10 h_220_10 ?_
      refine q_iload rfl ?_
      refine q_iconst (11) (by decide) ?_
      refine q_icmp_ge (fun c_13 => ?_) (fun c_13 => ?_)
      · rw [if_pos c_13] at h
        refine K_of b_220_31 h_220_31 ?_
        refine q_aload rfl ?_
        refine q_lconst (0) (by decide) ?_
        refine q_lconst (9) (by decide) ?_
        obtain ⟨d_36, h⟩ := ite_some h
        obtain ⟨⟨x0_36, I0_36, L0_36⟩, e_36, h⟩ := Option.bind_eq_some_iff.mp h
        dsimp only at h
        refine q_fv3I (a_221 X hS (d := d - 1) (by omega) e_36) (by omega) (Nat.le_refl _) (Nat.le_refl _) rfl (Nat.le_of_ble_eq_true rfl) ⟨(zl hS 105 (by decide)), congrArg Prod.fst (sk hS 105 (by decide) rfl), by decide⟩ ?_
        refine q_istore (ls1 := [some (.ref 105), some (.int i1), some (.int x0_36)]) (Nat.le_of_ble_eq_true rfl) rfl ?_
        refine q_aload rfl ?_
        refine q_getRs (c0 := 12) (j := 25) rfl rfl (zl hS 105 (by decide)) (sk hS 105 (by decide) rfl) rfl (by decide) (r_105_25 hS) ?_
        refine q_iload rfl ?_
        refine q_iload rfl ?_
        obtain ⟨⟨u_46, v_46⟩, h⟩ := ite_some h
        refine q_iasN (Int32.toNatClampNeg i1) (nx u_46) (zl hS 117 (by decide)) (sk hS 117 (by decide) rfl) v_46 (by decide) ?_
        obtain ⟨I_46, nI_46, h⟩ := stI_some h
        refine q_nI nI_46 ?_
        refine q_aload rfl ?_
        refine q_aload rfl ?_
        refine q_lconst (655) (by decide) ?_
        obtain ⟨d_52, h⟩ := ite_some h
        obtain ⟨⟨x1_52, I1_52, L1_52⟩, e_52, h⟩ := Option.bind_eq_some_iff.mp h
        dsimp only at h
        refine q_fv2I (a_218 X hS (d := d - 1) (by omega) e_52) (by omega) (Nat.le_refl _) (Nat.le_refl _) rfl (Nat.le_of_ble_eq_true rfl) ⟨(zl hS 105 (by decide)), congrArg Prod.fst (sk hS 105 (by decide) rfl), by decide⟩ ?_
        obtain ⟨d_55, h⟩ := ite_some h
        obtain ⟨⟨I2_55, L2_55⟩, e_55, h⟩ := Option.bind_eq_some_iff.mp h
        dsimp only at h
        refine q_fv2V (a_219 X hS (d := d - 1) (by omega) e_55) (by omega) (Nat.le_refl _) (Nat.le_refl _) rfl (Nat.le_of_ble_eq_true rfl) ⟨(zl hS 105 (by decide)), congrArg Prod.fst (sk hS 105 (by decide) rfl), by decide⟩ ?_
        refine q_aload rfl ?_
        refine q_iload rfl ?_
        refine q_iload rfl ?_
        obtain ⟨d_61, h⟩ := ite_some h
        obtain ⟨⟨I3_61, L3_61⟩, e_61, h⟩ := Option.bind_eq_some_iff.mp h
        dsimp only at h
        refine q_fv3V (a_222 X hS (d := d - 1) (by omega) e_61) (by omega) (Nat.le_refl _) (Nat.le_refl _) rfl (Nat.le_of_ble_eq_true rfl) ⟨(zl hS 105 (by decide)), congrArg Prod.fst (sk hS 105 (by decide) rfl), by decide⟩ ?_
        refine q_end ?_
        exact (ih dp d hdp _ _ i1 x0_36 _ _).2.2.1 h
      · rw [if_neg c_13] at h
        refine q_aload rfl ?_
        refine q_getRs (c0 := 12) (j := 25) rfl rfl (zl hS 105 (by decide)) (sk hS 105 (by decide) rfl) rfl (by decide) (r_105_25 hS) ?_
        refine q_iload rfl ?_
        refine q_iload rfl ?_
        refine q_iadd ?_
        refine q_iconst (0) (by decide) ?_
        obtain ⟨⟨u_24, v_24⟩, h⟩ := ite_some h
        refine q_iasN (Int32.toNatClampNeg (i1 + i2)) (nx u_24) (zl hS 117 (by decide)) (sk hS 117 (by decide) rfl) v_24 (by decide) ?_
        obtain ⟨I_24, nI_24, h⟩ := stI_some h
        refine q_nI nI_24 ?_
        refine q_iinc (ls1 := [some (.ref 105), some (.int i1), some (.int (i2 + Int32.ofInt (1)))]) rfl rfl ?_
        refine q_goto ?_
        exact (ih dp d hdp _ _ i1 (i2 + Int32.ofInt (1)) _ _).2.1 h
    · intro h
      rw [e_220_2] at h
      refine K_of b_220_64 h_220_64 ?_
      refine q_aload rfl ?_
      refine q_getI (c0 := 12) (j := 13) rfl rfl (zl hS 105 (by decide)) (sk hS 105 (by decide) rfl) (Or.inr rfl) (by decide) ?_
      refine q_if_ne (fun c_68 => ?_) (fun c_68 => ?_)
      · rw [if_neg c_68] at h
        exact (ih dp d hdp _ _ i1 i2 _ _).2.2.2 h
      · rw [if_pos c_68] at h
        refine q_aload rfl ?_
        refine q_lconst (1476) (by decide) ?_
        obtain ⟨d_75, h⟩ := ite_some h
        obtain ⟨⟨x0_75, I0_75, L0_75⟩, e_75, h⟩ := Option.bind_eq_some_iff.mp h
        dsimp only at h
        refine q_fv2I (a_218 X hS (d := d - 1) (by omega) e_75) (by omega) (Nat.le_refl _) (Nat.le_refl _) rfl (Nat.le_of_ble_eq_true rfl) ⟨(zl hS 105 (by decide)), congrArg Prod.fst (sk hS 105 (by decide) rfl), by decide⟩ ?_
        refine q_if_eq (fun c_78 => ?_) (fun c_78 => ?_)
        · rw [if_pos c_78] at h
          exact (ih dp d hdp _ _ i1 i2 _ _).2.2.2 h
        · rw [if_neg c_78] at h
          refine q_aload rfl ?_
          obtain ⟨d_82, h⟩ := ite_some h
          obtain ⟨⟨I1_82, L1_82⟩, e_82, h⟩ := Option.bind_eq_some_iff.mp h
          dsimp only at h
          refine q_fv1V (a_214 X hS (d := d - 1) (by omega) e_82) (by omega) (Nat.le_refl _) (Nat.le_refl _) rfl (Nat.le_of_ble_eq_true rfl) ⟨(zl hS 105 (by decide)), congrArg Prod.fst (sk hS 105 (by decide) rfl), by decide⟩ ?_
          refine q_aload rfl ?_
          refine q_iload rfl ?_
          refine q_iload rfl ?_
          obtain ⟨d_88, h⟩ := ite_some h
          obtain ⟨⟨I2_88, L2_88⟩, e_88, h⟩ := Option.bind_eq_some_iff.mp h
          dsimp only at h
          refine q_fv3V (a_222 X hS (d := d - 1) (by omega) e_88) (by omega) (Nat.le_refl _) (Nat.le_refl _) rfl (Nat.le_of_ble_eq_true rfl) ⟨(zl hS 105 (by decide)), congrArg Prod.fst (sk hS 105 (by decide) rfl), by decide⟩ ?_
          refine q_goto ?_
          exact (ih dp d hdp _ _ i1 i2 _ _).2.2.1 h
    · intro h
      rw [e_220_3] at h
      refine K_of b_220_94 h_220_94 ?_
      refine q_aload rfl ?_
      refine q_dup rfl ?_
      refine q_getI (c0 := 12) (j := 26) rfl rfl (zl hS 105 (by decide)) (sk hS 105 (by decide) rfl) (Or.inl rfl) (by decide) ?_
      refine q_iconst (1) (by decide) ?_
      refine q_iadd ?_
      refine q_putI (c0 := 12) (j := 26) rfl rfl (zl hS 105 (by decide)) (sk hS 105 (by decide) rfl) rfl ?_
      obtain ⟨I_101, nI_101, h⟩ := stI_some h
      refine q_nI nI_101 ?_
      cases h
      exact q_vret rfl (Nat.le_refl _) (Nat.le_refl _) rfl
theorem a_220 (X : GX) {z : Nat} {kd : Nat → Nat × Nat} {Rf : Nat → Nat → Option Nat} (hS : Sh z kd Rf) {n dp d : Nat} (hd : dp ≤ d) {I : (Nat → Nat → Int32)} {L : (Nat → Nat → Int64)} {I1 : (Nat → Nat → Int32)} {L1 : (Nat → Nat → Int64)} (h : g_220 n dp (z, kd, Rf) 0 I L 0 0 = some (I1, L1)) : Ct X d 220 0 0 [.ref 105] (z, kd, I, L, Rf) (AV (fun τ => τ = (z, kd, I1, L1, Rf))) :=
  Ct_of mu_220 (Nat.le_of_ble_eq_true rfl) ((w_220 X hS n dp d hd I L 0 0 _ _).1 h)

