/-! 117 CutFloor$Planner.bestNow()I -/
set_option maxHeartbeats 4000000 in
set_option maxRecDepth 100000 in
def g_117 : Nat → Nat → EN → Nat → (Nat → Nat → Int32) → (Nat → Nat → Int64) →  Option (Int32 × (Nat → Nat → Int32) × (Nat → Nat → Int64))
  | 0, _, _, _, _, _ => none
  | n + 1, dp, e, lab, I, L =>
    if lab = 0 then (if 1 ≤ dp then (g_94 n (dp - 1) e 0 I L (I 2 0) (I 2 1) (I 2 2)).bind (fun ⟨x0_31, I0_31, L0_31⟩ => (if 0 ≤ x0_31 ∧ (Int32.toNatClampNeg x0_31) < 729 then (some ((I0_31 51 (Int32.toNatClampNeg x0_31)), I0_31, L0_31)) else none)) else none)
    else none
set_option maxRecDepth 100000 in
theorem e_117_0 (n dp : Nat) (e : EN) (I : (Nat → Nat → Int32)) (L : (Nat → Nat → Int64)) : g_117 (n + 1) dp e 0 I L = (if 1 ≤ dp then (g_94 n (dp - 1) e 0 I L (I 2 0) (I 2 1) (I 2 2)).bind (fun ⟨x0_31, I0_31, L0_31⟩ => (if 0 ≤ x0_31 ∧ (Int32.toNatClampNeg x0_31) < 729 then (some ((I0_31 51 (Int32.toNatClampNeg x0_31)), I0_31, L0_31)) else none)) else none) := by rw [g_117.eq_2, if_pos (show (0 : Nat) = 0 from rfl)]
set_option maxHeartbeats 8000000 in
set_option maxRecDepth 100000 in
theorem w_117 (X : GX) {z : Nat} {kd : Nat → Nat × Nat} {Rf : Nat → Nat → Option Nat} (hS : Sh z kd Rf) : ∀ (n dp d : Nat), dp ≤ d → ∀ (I : (Nat → Nat → Int32)) (L : (Nat → Nat → Int64)) (r : Int32) (I1 : (Nat → Nat → Int32)) (L1 : (Nat → Nat → Int64)), (g_117 n dp (z, kd, Rf) 0 I L = some (r, I1, L1) → K X d 117 0 0 (AI (fun x τ => x = r ∧ τ = (z, kd, I1, L1, Rf))) 0 [some (.ref 24)] [] (z, kd, I, L, Rf) 0 0) := by
  intro n
  induction n with
  | zero => intro dp d hdp I L r I1 L1; exact fun h => by cases h
  | succ n ih =>
    intro dp d hdp I L r I1 L1
    · intro h
      rw [e_117_0] at h
      refine K_of b_117_0 h_117_0 ?_
      refine q_aload rfl ?_
      refine q_getRs (c0 := 7) (j := 5) rfl rfl (zl hS 24 (by decide)) (sk hS 24 (by decide) rfl) rfl (by decide) (r_24_5 hS) ?_
      refine q_aload rfl ?_
      refine q_getRs (c0 := 7) (j := 0) rfl rfl (zl hS 24 (by decide)) (sk hS 24 (by decide) rfl) rfl (by decide) (r_24_0 hS) ?_
      refine q_getRs (c0 := 3) (j := 0) rfl rfl (zl hS 1 (by decide)) (sk hS 1 (by decide) rfl) rfl (by decide) (r_1_0 hS) ?_
      refine q_iconst (0) (by decide) ?_
      refine q_ialN (0) rfl (zl hS 2 (by decide)) (sk hS 2 (by decide) rfl) (by decide) (by decide) ?_
      refine q_aload rfl ?_
      refine q_getRs (c0 := 7) (j := 0) rfl rfl (zl hS 24 (by decide)) (sk hS 24 (by decide) rfl) rfl (by decide) (r_24_0 hS) ?_
      refine q_getRs (c0 := 3) (j := 0) rfl rfl (zl hS 1 (by decide)) (sk hS 1 (by decide) rfl) rfl (by decide) (r_1_0 hS) ?_
      refine q_iconst (1) (by decide) ?_
      refine q_ialN (1) rfl (zl hS 2 (by decide)) (sk hS 2 (by decide) rfl) (by decide) (by decide) ?_
      refine q_aload rfl ?_
      refine q_getRs (c0 := 7) (j := 0) rfl rfl (zl hS 24 (by decide)) (sk hS 24 (by decide) rfl) rfl (by decide) (r_24_0 hS) ?_
      refine q_getRs (c0 := 3) (j := 0) rfl rfl (zl hS 1 (by decide)) (sk hS 1 (by decide) rfl) rfl (by decide) (r_1_0 hS) ?_
      refine q_iconst (2) (by decide) ?_
      refine q_ialN (2) rfl (zl hS 2 (by decide)) (sk hS 2 (by decide) rfl) (by decide) (by decide) ?_
      obtain ⟨d_31, h⟩ := ite_some h
      obtain ⟨⟨x0_31, I0_31, L0_31⟩, e_31, h⟩ := Option.bind_eq_some_iff.mp h
      dsimp only at h
      refine q_fs3I (a_94 X hS (d := d - 1) (by omega) e_31) (by omega) (Nat.le_refl _) (Nat.le_refl _) rfl (Nat.le_of_ble_eq_true rfl) ?_
      obtain ⟨⟨u_34, v_34⟩, h⟩ := ite_some h
      refine q_ialN (Int32.toNatClampNeg x0_31) (nx u_34) (zl hS 51 (by decide)) (sk hS 51 (by decide) rfl) v_34 (by decide) ?_
      cases h
      exact q_iret rfl (Nat.le_refl _) (Nat.le_refl _) ⟨rfl, rfl⟩
theorem a_117 (X : GX) {z : Nat} {kd : Nat → Nat × Nat} {Rf : Nat → Nat → Option Nat} (hS : Sh z kd Rf) {n dp d : Nat} (hd : dp ≤ d) {I : (Nat → Nat → Int32)} {L : (Nat → Nat → Int64)} {I1 : (Nat → Nat → Int32)} {L1 : (Nat → Nat → Int64)} {r : Int32} (h : g_117 n dp (z, kd, Rf) 0 I L = some (r, I1, L1)) : Ct X d 117 0 0 [.ref 24] (z, kd, I, L, Rf) (AI (fun x τ => x = r ∧ τ = (z, kd, I1, L1, Rf))) :=
  Ct_of mu_117 (Nat.le_of_ble_eq_true rfl) ((w_117 X hS n dp d hd I L _ _ _) h)

/-! 118 CutFloor$Planner.plansNow()I -/
set_option maxHeartbeats 4000000 in
set_option maxRecDepth 100000 in
def g_118 : Nat → Nat → EN → Nat → (Nat → Nat → Int32) → (Nat → Nat → Int64) →  Option (Int32 × (Nat → Nat → Int32) × (Nat → Nat → Int64))
  | 0, _, _, _, _, _ => none
  | n + 1, dp, e, lab, I, L =>
    if lab = 0 then (if 1 ≤ dp then (g_94 n (dp - 1) e 0 I L (I 2 0) (I 2 1) (I 2 2)).bind (fun ⟨x0_31, I0_31, L0_31⟩ => (if 0 ≤ x0_31 ∧ (Int32.toNatClampNeg x0_31) < 729 then (some ((I0_31 52 (Int32.toNatClampNeg x0_31)), I0_31, L0_31)) else none)) else none)
    else none
set_option maxRecDepth 100000 in
theorem e_118_0 (n dp : Nat) (e : EN) (I : (Nat → Nat → Int32)) (L : (Nat → Nat → Int64)) : g_118 (n + 1) dp e 0 I L = (if 1 ≤ dp then (g_94 n (dp - 1) e 0 I L (I 2 0) (I 2 1) (I 2 2)).bind (fun ⟨x0_31, I0_31, L0_31⟩ => (if 0 ≤ x0_31 ∧ (Int32.toNatClampNeg x0_31) < 729 then (some ((I0_31 52 (Int32.toNatClampNeg x0_31)), I0_31, L0_31)) else none)) else none) := by rw [g_118.eq_2, if_pos (show (0 : Nat) = 0 from rfl)]
set_option maxHeartbeats 8000000 in
set_option maxRecDepth 100000 in
theorem w_118 (X : GX) {z : Nat} {kd : Nat → Nat × Nat} {Rf : Nat → Nat → Option Nat} (hS : Sh z kd Rf) : ∀ (n dp d : Nat), dp ≤ d → ∀ (I : (Nat → Nat → Int32)) (L : (Nat → Nat → Int64)) (r : Int32) (I1 : (Nat → Nat → Int32)) (L1 : (Nat → Nat → Int64)), (g_118 n dp (z, kd, Rf) 0 I L = some (r, I1, L1) → K X d 118 0 0 (AI (fun x τ => x = r ∧ τ = (z, kd, I1, L1, Rf))) 0 [some (.ref 24)] [] (z, kd, I, L, Rf) 0 0) := by
  intro n
  induction n with
  | zero => intro dp d hdp I L r I1 L1; exact fun h => by cases h
  | succ n ih =>
    intro dp d hdp I L r I1 L1
    · intro h
      rw [e_118_0] at h
      refine K_of b_118_0 h_118_0 ?_
      refine q_aload rfl ?_
      refine q_getRs (c0 := 7) (j := 6) rfl rfl (zl hS 24 (by decide)) (sk hS 24 (by decide) rfl) rfl (by decide) (r_24_6 hS) ?_
      refine q_aload rfl ?_
      refine q_getRs (c0 := 7) (j := 0) rfl rfl (zl hS 24 (by decide)) (sk hS 24 (by decide) rfl) rfl (by decide) (r_24_0 hS) ?_
      refine q_getRs (c0 := 3) (j := 0) rfl rfl (zl hS 1 (by decide)) (sk hS 1 (by decide) rfl) rfl (by decide) (r_1_0 hS) ?_
      refine q_iconst (0) (by decide) ?_
      refine q_ialN (0) rfl (zl hS 2 (by decide)) (sk hS 2 (by decide) rfl) (by decide) (by decide) ?_
      refine q_aload rfl ?_
      refine q_getRs (c0 := 7) (j := 0) rfl rfl (zl hS 24 (by decide)) (sk hS 24 (by decide) rfl) rfl (by decide) (r_24_0 hS) ?_
      refine q_getRs (c0 := 3) (j := 0) rfl rfl (zl hS 1 (by decide)) (sk hS 1 (by decide) rfl) rfl (by decide) (r_1_0 hS) ?_
      refine q_iconst (1) (by decide) ?_
      refine q_ialN (1) rfl (zl hS 2 (by decide)) (sk hS 2 (by decide) rfl) (by decide) (by decide) ?_
      refine q_aload rfl ?_
      refine q_getRs (c0 := 7) (j := 0) rfl rfl (zl hS 24 (by decide)) (sk hS 24 (by decide) rfl) rfl (by decide) (r_24_0 hS) ?_
      refine q_getRs (c0 := 3) (j := 0) rfl rfl (zl hS 1 (by decide)) (sk hS 1 (by decide) rfl) rfl (by decide) (r_1_0 hS) ?_
      refine q_iconst (2) (by decide) ?_
      refine q_ialN (2) rfl (zl hS 2 (by decide)) (sk hS 2 (by decide) rfl) (by decide) (by decide) ?_
      obtain ⟨d_31, h⟩ := ite_some h
      obtain ⟨⟨x0_31, I0_31, L0_31⟩, e_31, h⟩ := Option.bind_eq_some_iff.mp h
      dsimp only at h
      refine q_fs3I (a_94 X hS (d := d - 1) (by omega) e_31) (by omega) (Nat.le_refl _) (Nat.le_refl _) rfl (Nat.le_of_ble_eq_true rfl) ?_
      obtain ⟨⟨u_34, v_34⟩, h⟩ := ite_some h
      refine q_ialN (Int32.toNatClampNeg x0_31) (nx u_34) (zl hS 52 (by decide)) (sk hS 52 (by decide) rfl) v_34 (by decide) ?_
      cases h
      exact q_iret rfl (Nat.le_refl _) (Nat.le_refl _) ⟨rfl, rfl⟩
theorem a_118 (X : GX) {z : Nat} {kd : Nat → Nat × Nat} {Rf : Nat → Nat → Option Nat} (hS : Sh z kd Rf) {n dp d : Nat} (hd : dp ≤ d) {I : (Nat → Nat → Int32)} {L : (Nat → Nat → Int64)} {I1 : (Nat → Nat → Int32)} {L1 : (Nat → Nat → Int64)} {r : Int32} (h : g_118 n dp (z, kd, Rf) 0 I L = some (r, I1, L1)) : Ct X d 118 0 0 [.ref 24] (z, kd, I, L, Rf) (AI (fun x τ => x = r ∧ τ = (z, kd, I1, L1, Rf))) :=
  Ct_of mu_118 (Nat.le_of_ble_eq_true rfl) ((w_118 X hS n dp d hd I L _ _ _) h)

/-! 121 CutFloor$Hall.classOf(I)I -/
set_option maxHeartbeats 4000000 in
set_option maxRecDepth 100000 in
def g_121 : Nat → Nat → EN → Nat → (Nat → Nat → Int32) → (Nat → Nat → Int64) → Int32 →  Option (Int32 × (Nat → Nat → Int32) × (Nat → Nat → Int64))
  | 0, _, _, _, _, _, _ => none
  | n + 1, dp, e, lab, I, L, i1 =>
    if lab = 0 then (if (I 2 0) ≤ i1 then (if ((I 2 0) + (I 2 1)) ≤ i1 then (some ((2 : Int32), I, L)) else (some ((1 : Int32), I, L))) else (some ((0 : Int32), I, L)))
    else none
set_option maxRecDepth 100000 in
theorem e_121_0 (n dp : Nat) (e : EN) (I : (Nat → Nat → Int32)) (L : (Nat → Nat → Int64)) (i1 : Int32) : g_121 (n + 1) dp e 0 I L i1 = (if (I 2 0) ≤ i1 then (if ((I 2 0) + (I 2 1)) ≤ i1 then (some ((2 : Int32), I, L)) else (some ((1 : Int32), I, L))) else (some ((0 : Int32), I, L))) := by rw [g_121.eq_2, if_pos (show (0 : Nat) = 0 from rfl)]
set_option maxHeartbeats 8000000 in
set_option maxRecDepth 100000 in
theorem w_121 (X : GX) {z : Nat} {kd : Nat → Nat × Nat} {Rf : Nat → Nat → Option Nat} (hS : Sh z kd Rf) : ∀ (n dp d : Nat), dp ≤ d → ∀ (I : (Nat → Nat → Int32)) (L : (Nat → Nat → Int64)) (i1 : Int32) (r : Int32) (I1 : (Nat → Nat → Int32)) (L1 : (Nat → Nat → Int64)), (g_121 n dp (z, kd, Rf) 0 I L i1 = some (r, I1, L1) → K X d 121 0 0 (AI (fun x τ => x = r ∧ τ = (z, kd, I1, L1, Rf))) 0 [some (.ref 1), some (.int i1)] [] (z, kd, I, L, Rf) 0 0) := by
  intro n
  induction n with
  | zero => intro dp d hdp I L i1 r I1 L1; exact fun h => by cases h
  | succ n ih =>
    intro dp d hdp I L i1 r I1 L1
    · intro h
      rw [e_121_0] at h
      refine K_of b_121_0 h_121_0 ?_
      refine q_iload rfl ?_
      refine q_aload rfl ?_
      refine q_getRs (c0 := 3) (j := 0) rfl rfl (zl hS 1 (by decide)) (sk hS 1 (by decide) rfl) rfl (by decide) (r_1_0 hS) ?_
      refine q_iconst (0) (by decide) ?_
      refine q_ialN (0) rfl (zl hS 2 (by decide)) (sk hS 2 (by decide) rfl) (by decide) (by decide) ?_
      refine q_icmp_ge (fun c_7 => ?_) (fun c_7 => ?_)
      · rw [if_pos c_7] at h
        refine K_of b_121_12 h_121_12 ?_
        refine q_iload rfl ?_
        refine q_aload rfl ?_
        refine q_getRs (c0 := 3) (j := 0) rfl rfl (zl hS 1 (by decide)) (sk hS 1 (by decide) rfl) rfl (by decide) (r_1_0 hS) ?_
        refine q_iconst (0) (by decide) ?_
        refine q_ialN (0) rfl (zl hS 2 (by decide)) (sk hS 2 (by decide) rfl) (by decide) (by decide) ?_
        refine q_aload rfl ?_
        refine q_getRs (c0 := 3) (j := 0) rfl rfl (zl hS 1 (by decide)) (sk hS 1 (by decide) rfl) rfl (by decide) (r_1_0 hS) ?_
        refine q_iconst (1) (by decide) ?_
        refine q_ialN (1) rfl (zl hS 2 (by decide)) (sk hS 2 (by decide) rfl) (by decide) (by decide) ?_
        refine q_iadd ?_
        refine q_icmp_ge (fun c_26 => ?_) (fun c_26 => ?_)
        · rw [if_pos c_26] at h
          refine K_of b_121_33 h_121_33 ?_
          refine q_iconst (2) (by decide) ?_
          refine q_end ?_
          refine K_of b_121_34 h_121_34 ?_
          cases h
          exact q_iret rfl (Nat.le_refl _) (Nat.le_refl _) ⟨rfl, rfl⟩
        · rw [if_neg c_26] at h
          refine q_iconst (1) (by decide) ?_
          refine q_goto ?_
          refine K_of b_121_34 h_121_34 ?_
          cases h
          exact q_iret rfl (Nat.le_refl _) (Nat.le_refl _) ⟨rfl, rfl⟩
      · rw [if_neg c_7] at h
        refine q_iconst (0) (by decide) ?_
        cases h
        exact q_iret rfl (Nat.le_refl _) (Nat.le_refl _) ⟨rfl, rfl⟩
theorem a_121 (X : GX) {z : Nat} {kd : Nat → Nat × Nat} {Rf : Nat → Nat → Option Nat} (hS : Sh z kd Rf) {n dp d : Nat} (hd : dp ≤ d) {I : (Nat → Nat → Int32)} {L : (Nat → Nat → Int64)} {i1 : Int32} {I1 : (Nat → Nat → Int32)} {L1 : (Nat → Nat → Int64)} {r : Int32} (h : g_121 n dp (z, kd, Rf) 0 I L i1 = some (r, I1, L1)) : Ct X d 121 0 0 [.ref 1, .int i1] (z, kd, I, L, Rf) (AI (fun x τ => x = r ∧ τ = (z, kd, I1, L1, Rf))) :=
  Ct_of mu_121 (Nat.le_of_ble_eq_true rfl) ((w_121 X hS n dp d hd I L i1 _ _ _) h)

/-! 123 CutFloor$Layers.reaches(III)Z -/
set_option maxHeartbeats 4000000 in
set_option maxRecDepth 100000 in
def g_123 : Nat → Nat → EN → Nat → (Nat → Nat → Int32) → (Nat → Nat → Int64) → Int32 → Int32 → Int32 → Int32 → Int32 →  Option (Int32 × (Nat → Nat → Int32) × (Nat → Nat → Int64))
  | 0, _, _, _, _, _, _, _, _, _, _ => none
  | n + 1, dp, e, lab, I, L, i1, i2, i3, i4, i5 =>
    if lab = 0 then (if 0 ≤ i1 ∧ (Int32.toNatClampNeg i1) < 10 then (stI (I 45 (Int32.toNatClampNeg i1)) (fun v_17 => (g_123 n dp e 1 I L i1 i2 i3 (i2 - (I 26 18)) v_17))) else none)
    else if lab = 1 then (if 0 ≤ (i1 + (1 : Int32)) ∧ (Int32.toNatClampNeg (i1 + (1 : Int32))) < 10 then (if (I 45 (Int32.toNatClampNeg (i1 + (1 : Int32)))) ≤ i5 then (some ((0 : Int32), I, L)) else ((e.2.2 44 5).bind (fun b_33 => (if (b_33 < e.1 ∧ (e.2.1 b_33).1 = 13 ∧ (e.2.1 b_33).2 < 2 ^ 31) ∧ 0 ≤ i5 ∧ (Int32.toNatClampNeg i5) < (e.2.1 b_33).2 then ((e.2.2 44 4).bind (fun b_44 => (if (b_44 < e.1 ∧ (e.2.1 b_44).1 = 13 ∧ (e.2.1 b_44).2 < 2 ^ 31) ∧ 0 ≤ i5 ∧ (Int32.toNatClampNeg i5) < (e.2.1 b_44).2 then (if 1 ≤ dp then (g_111 n (dp - 1) e 0 I L (I b_44 (Int32.toNatClampNeg i5)) i4).bind (fun ⟨x0_52, I0_52, L0_52⟩ => (if 1 ≤ dp then (g_116 n (dp - 1) e 0 I0_52 L0_52 x0_52).bind (fun ⟨x1_55, I1_55, L1_55⟩ => (if ((I b_33 (Int32.toNatClampNeg i5)) + x1_55) = i3 then (some ((1 : Int32), I1_55, L1_55)) else (g_123 n dp e 1 I1_55 L1_55 i1 i2 i3 i4 (i5 + Int32.ofInt (1))))) else none)) else none) else none))) else none)))) else none)
    else none
set_option maxRecDepth 100000 in
theorem e_123_0 (n dp : Nat) (e : EN) (I : (Nat → Nat → Int32)) (L : (Nat → Nat → Int64)) (i1 : Int32) (i2 : Int32) (i3 : Int32) (i4 : Int32) (i5 : Int32) : g_123 (n + 1) dp e 0 I L i1 i2 i3 i4 i5 = (if 0 ≤ i1 ∧ (Int32.toNatClampNeg i1) < 10 then (stI (I 45 (Int32.toNatClampNeg i1)) (fun v_17 => (g_123 n dp e 1 I L i1 i2 i3 (i2 - (I 26 18)) v_17))) else none) := by rw [g_123.eq_2, if_pos (show (0 : Nat) = 0 from rfl)]
set_option maxRecDepth 100000 in
theorem e_123_1 (n dp : Nat) (e : EN) (I : (Nat → Nat → Int32)) (L : (Nat → Nat → Int64)) (i1 : Int32) (i2 : Int32) (i3 : Int32) (i4 : Int32) (i5 : Int32) : g_123 (n + 1) dp e 1 I L i1 i2 i3 i4 i5 = (if 0 ≤ (i1 + (1 : Int32)) ∧ (Int32.toNatClampNeg (i1 + (1 : Int32))) < 10 then (if (I 45 (Int32.toNatClampNeg (i1 + (1 : Int32)))) ≤ i5 then (some ((0 : Int32), I, L)) else ((e.2.2 44 5).bind (fun b_33 => (if (b_33 < e.1 ∧ (e.2.1 b_33).1 = 13 ∧ (e.2.1 b_33).2 < 2 ^ 31) ∧ 0 ≤ i5 ∧ (Int32.toNatClampNeg i5) < (e.2.1 b_33).2 then ((e.2.2 44 4).bind (fun b_44 => (if (b_44 < e.1 ∧ (e.2.1 b_44).1 = 13 ∧ (e.2.1 b_44).2 < 2 ^ 31) ∧ 0 ≤ i5 ∧ (Int32.toNatClampNeg i5) < (e.2.1 b_44).2 then (if 1 ≤ dp then (g_111 n (dp - 1) e 0 I L (I b_44 (Int32.toNatClampNeg i5)) i4).bind (fun ⟨x0_52, I0_52, L0_52⟩ => (if 1 ≤ dp then (g_116 n (dp - 1) e 0 I0_52 L0_52 x0_52).bind (fun ⟨x1_55, I1_55, L1_55⟩ => (if ((I b_33 (Int32.toNatClampNeg i5)) + x1_55) = i3 then (some ((1 : Int32), I1_55, L1_55)) else (g_123 n dp e 1 I1_55 L1_55 i1 i2 i3 i4 (i5 + Int32.ofInt (1))))) else none)) else none) else none))) else none)))) else none) := by rw [g_123.eq_2, if_neg (show ¬ ((1 : Nat) = 0) by decide), if_pos (show (1 : Nat) = 1 from rfl)]
set_option maxHeartbeats 8000000 in
set_option maxRecDepth 100000 in
theorem w_123 (X : GX) {z : Nat} {kd : Nat → Nat × Nat} {Rf : Nat → Nat → Option Nat} (hS : Sh z kd Rf) : ∀ (n dp d : Nat), dp ≤ d → ∀ (I : (Nat → Nat → Int32)) (L : (Nat → Nat → Int64)) (i1 : Int32) (i2 : Int32) (i3 : Int32) (i4 : Int32) (i5 : Int32) (r : Int32) (I1 : (Nat → Nat → Int32)) (L1 : (Nat → Nat → Int64)), (g_123 n dp (z, kd, Rf) 0 I L i1 i2 i3 i4 i5 = some (r, I1, L1) → K X d 123 0 0 (AI (fun x τ => x = r ∧ τ = (z, kd, I1, L1, Rf))) 0 [some (.ref 44), some (.int i1), some (.int i2), some (.int i3), none, none] [] (z, kd, I, L, Rf) 0 0) ∧
    (g_123 n dp (z, kd, Rf) 1 I L i1 i2 i3 i4 i5 = some (r, I1, L1) → K X d 123 0 0 (AI (fun x τ => x = r ∧ τ = (z, kd, I1, L1, Rf))) 19 [some (.ref 44), some (.int i1), some (.int i2), some (.int i3), some (.int i4), some (.int i5)] [] (z, kd, I, L, Rf) 0 0) := by
  intro n
  induction n with
  | zero => intro dp d hdp I L i1 i2 i3 i4 i5 r I1 L1; exact ⟨(fun h => by cases h), (fun h => by cases h)⟩
  | succ n ih =>
    intro dp d hdp I L i1 i2 i3 i4 i5 r I1 L1
    refine ⟨?_, ?_⟩
    · intro h
      rw [e_123_0] at h
      refine K_of b_123_0 h_123_0 ?_
      refine q_iload rfl ?_
      refine q_aload rfl ?_
      refine q_getRs (c0 := 4) (j := 0) rfl rfl (zl hS 44 (by decide)) (sk hS 44 (by decide) rfl) rfl (by decide) (r_44_0 hS) ?_
      refine q_getI (c0 := 6) (j := 18) rfl rfl (zl hS 26 (by decide)) (sk hS 26 (by decide) rfl) (Or.inl rfl) (by decide) ?_
      refine q_isub ?_
      refine q_istore (ls1 := [some (.ref 44), some (.int i1), some (.int i2), some (.int i3), some (.int (i2 - (I 26 18))), none]) (Nat.le_of_ble_eq_true rfl) rfl ?_
      refine q_aload rfl ?_
      refine q_getRs (c0 := 4) (j := 1) rfl rfl (zl hS 44 (by decide)) (sk hS 44 (by decide) rfl) rfl (by decide) (r_44_1 hS) ?_
      refine q_iload rfl ?_
      obtain ⟨⟨u_16, v_16⟩, h⟩ := ite_some h
      refine q_ialN (Int32.toNatClampNeg i1) (nx u_16) (zl hS 45 (by decide)) (sk hS 45 (by decide) rfl) v_16 (by decide) ?_
      obtain ⟨v_17, nv_17, h⟩ := stI_some h
      refine q_eqi nv_17.symm ?_
      refine q_istore (ls1 := [some (.ref 44), some (.int i1), some (.int i2), some (.int i3), some (.int (i2 - (I 26 18))), some (.int v_17)]) (Nat.le_of_ble_eq_true rfl) rfl ?_
      refine q_end ?_
      exact (ih dp d hdp _ _ i1 i2 i3 (i2 - (I 26 18)) v_17 _ _ _).2 h
    · intro h
      rw [e_123_1] at h
      refine K_of b_123_19 h_123_19 ?_
      refine q_iload rfl ?_
      refine q_aload rfl ?_
      refine q_getRs (c0 := 4) (j := 1) rfl rfl (zl hS 44 (by decide)) (sk hS 44 (by decide) rfl) rfl (by decide) (r_44_1 hS) ?_
      refine q_iload rfl ?_
      refine q_iconst (1) (by decide) ?_
      refine q_iadd ?_
      obtain ⟨⟨u_28, v_28⟩, h⟩ := ite_some h
      refine q_ialN (Int32.toNatClampNeg (i1 + (1 : Int32))) (nx u_28) (zl hS 45 (by decide)) (sk hS 45 (by decide) rfl) v_28 (by decide) ?_
      refine q_icmp_ge (fun c_29 => ?_) (fun c_29 => ?_)
      · rw [if_pos c_29] at h
        refine K_of b_123_71 h_123_71 ?_
        refine q_iconst (0) (by decide) ?_
        cases h
        exact q_iret rfl (Nat.le_refl _) (Nat.le_refl _) ⟨rfl, rfl⟩
      · rw [if_neg c_29] at h
        refine q_aload rfl ?_
        obtain ⟨b_33, r_33, h⟩ := Option.bind_eq_some_iff.mp h
        refine q_getRs (c0 := 4) (j := 5) rfl rfl (zl hS 44 (by decide)) (sk hS 44 (by decide) rfl) rfl (by decide) r_33 ?_
        refine q_iload rfl ?_
        obtain ⟨⟨⟨z_38, k_38, m_38⟩, u_38, v_38⟩, h⟩ := ite_some h
        refine q_ialN (Int32.toNatClampNeg i5) (nx u_38) z_38 (fst_eq k_38) v_38 m_38 ?_
        refine q_aload rfl ?_
        refine q_getRs (c0 := 4) (j := 0) rfl rfl (zl hS 44 (by decide)) (sk hS 44 (by decide) rfl) rfl (by decide) (r_44_0 hS) ?_
        refine q_aload rfl ?_
        obtain ⟨b_44, r_44, h⟩ := Option.bind_eq_some_iff.mp h
        refine q_getRs (c0 := 4) (j := 4) rfl rfl (zl hS 44 (by decide)) (sk hS 44 (by decide) rfl) rfl (by decide) r_44 ?_
        refine q_iload rfl ?_
        obtain ⟨⟨⟨z_49, k_49, m_49⟩, u_49, v_49⟩, h⟩ := ite_some h
        refine q_ialN (Int32.toNatClampNeg i5) (nx u_49) z_49 (fst_eq k_49) v_49 m_49 ?_
        refine q_iload rfl ?_
        obtain ⟨d_52, h⟩ := ite_some h
        obtain ⟨⟨x0_52, I0_52, L0_52⟩, e_52, h⟩ := Option.bind_eq_some_iff.mp h
        dsimp only at h
        refine q_fs2I (a_111 X hS (d := d - 1) (by omega) e_52) (by omega) (Nat.le_refl _) (Nat.le_refl _) rfl (Nat.le_of_ble_eq_true rfl) ?_
        obtain ⟨d_55, h⟩ := ite_some h
        obtain ⟨⟨x1_55, I1_55, L1_55⟩, e_55, h⟩ := Option.bind_eq_some_iff.mp h
        dsimp only at h
        refine q_fv2I (a_116 X hS (d := d - 1) (by omega) e_55) (by omega) (Nat.le_refl _) (Nat.le_refl _) rfl (Nat.le_of_ble_eq_true rfl) ⟨(zl hS 26 (by decide)), congrArg Prod.fst (sk hS 26 (by decide) rfl), by decide⟩ ?_
        refine q_iadd ?_
        refine q_iload rfl ?_
        refine q_icmp_ne (fun c_60 => ?_) (fun c_60 => ?_)
        · rw [if_neg c_60] at h
          refine K_of b_123_65 h_123_65 ?_
          refine q_iinc (ls1 := [some (.ref 44), some (.int i1), some (.int i2), some (.int i3), some (.int i4), some (.int (i5 + Int32.ofInt (1)))]) rfl rfl ?_
          refine q_goto ?_
          exact (ih dp d hdp _ _ i1 i2 i3 i4 (i5 + Int32.ofInt (1)) _ _ _).2 h
        · rw [if_pos c_60] at h
          refine q_iconst (1) (by decide) ?_
          cases h
          exact q_iret rfl (Nat.le_refl _) (Nat.le_refl _) ⟨rfl, rfl⟩
theorem a_123 (X : GX) {z : Nat} {kd : Nat → Nat × Nat} {Rf : Nat → Nat → Option Nat} (hS : Sh z kd Rf) {n dp d : Nat} (hd : dp ≤ d) {I : (Nat → Nat → Int32)} {L : (Nat → Nat → Int64)} {i1 : Int32} {i2 : Int32} {i3 : Int32} {I1 : (Nat → Nat → Int32)} {L1 : (Nat → Nat → Int64)} {r : Int32} (h : g_123 n dp (z, kd, Rf) 0 I L i1 i2 i3 0 0 = some (r, I1, L1)) : Ct X d 123 0 0 [.ref 44, .int i1, .int i2, .int i3] (z, kd, I, L, Rf) (AI (fun x τ => x = r ∧ τ = (z, kd, I1, L1, Rf))) :=
  Ct_of mu_123 (Nat.le_of_ble_eq_true rfl) ((w_123 X hS n dp d hd I L i1 i2 i3 0 0 _ _ _).1 h)

/-! 122 CutFloor$Planner.firstGroup(IIII)I -/
set_option maxHeartbeats 4000000 in
set_option maxRecDepth 100000 in
def g_122 : Nat → Nat → EN → Nat → (Nat → Nat → Int32) → (Nat → Nat → Int64) → Int32 → Int32 → Int32 → Int32 → Int32 → Int32 → Int32 →  Option (Int32 × (Nat → Nat → Int32) × (Nat → Nat → Int64))
  | 0, _, _, _, _, _, _, _, _, _, _, _, _ => none
  | n + 1, dp, e, lab, I, L, i1, i2, i3, i4, i5, i6, i7 =>
    if lab = 0 then (g_122 n dp e 1 I L i1 i2 i3 i4 (i1 * (64 : Int32)) (0 : Int32) 0)
    else if lab = 1 then (if 0 ≤ i1 ∧ (Int32.toNatClampNeg i1) < 3 then (e.2.2 25 (Int32.toNatClampNeg i1)).bind (fun b_16 => (if b_16 < e.1 ∧ (e.2.1 b_16).1 = 2 then (if (I b_16 4) ≤ i6 then (some (i5, I, L)) else (if (64 : Int32) ≤ i6 then (some (i5, I, L)) else (if 0 ≤ (i5 + i6) ∧ (Int32.toNatClampNeg (i5 + i6)) < 192 then (stI (I 31 (Int32.toNatClampNeg (i5 + i6))) (fun v_43 => (if 0 ≤ v_43 ∧ (Int32.toNatClampNeg v_43) < 192 then (if (I 30 (Int32.toNatClampNeg v_43)) = i6 then (if 0 ≤ v_43 ∧ (Int32.toNatClampNeg v_43) < 192 then (if 1 ≤ dp then (g_111 n (dp - 1) e 0 I L i3 (I 27 (Int32.toNatClampNeg v_43))).bind (fun ⟨x0_76, I0_76, L0_76⟩ => (if 0 ≤ v_43 ∧ (Int32.toNatClampNeg v_43) < 192 then (if 1 ≤ dp then (g_123 n (dp - 1) e 0 I0_76 L0_76 i2 x0_76 (i4 - (I0_76 28 (Int32.toNatClampNeg v_43))) 0 0).bind (fun ⟨x1_92, I1_92, L1_92⟩ => (if x1_92 = 0 then (g_122 n dp e 2 I1_92 L1_92 i1 i2 i3 i4 i5 i6 v_43) else (some (v_43, I1_92, L1_92)))) else none) else none)) else none) else none) else (g_122 n dp e 2 I L i1 i2 i3 i4 i5 i6 v_43)) else none))) else none))) else none)) else none)
    else if lab = 2 then (g_122 n dp e 1 I L i1 i2 i3 i4 i5 (i6 + Int32.ofInt (1)) 0)
    else none
set_option maxRecDepth 100000 in
theorem e_122_0 (n dp : Nat) (e : EN) (I : (Nat → Nat → Int32)) (L : (Nat → Nat → Int64)) (i1 : Int32) (i2 : Int32) (i3 : Int32) (i4 : Int32) (i5 : Int32) (i6 : Int32) (i7 : Int32) : g_122 (n + 1) dp e 0 I L i1 i2 i3 i4 i5 i6 i7 = (g_122 n dp e 1 I L i1 i2 i3 i4 (i1 * (64 : Int32)) (0 : Int32) 0) := by rw [g_122.eq_2, if_pos (show (0 : Nat) = 0 from rfl)]
set_option maxRecDepth 100000 in
theorem e_122_1 (n dp : Nat) (e : EN) (I : (Nat → Nat → Int32)) (L : (Nat → Nat → Int64)) (i1 : Int32) (i2 : Int32) (i3 : Int32) (i4 : Int32) (i5 : Int32) (i6 : Int32) (i7 : Int32) : g_122 (n + 1) dp e 1 I L i1 i2 i3 i4 i5 i6 i7 = (if 0 ≤ i1 ∧ (Int32.toNatClampNeg i1) < 3 then (e.2.2 25 (Int32.toNatClampNeg i1)).bind (fun b_16 => (if b_16 < e.1 ∧ (e.2.1 b_16).1 = 2 then (if (I b_16 4) ≤ i6 then (some (i5, I, L)) else (if (64 : Int32) ≤ i6 then (some (i5, I, L)) else (if 0 ≤ (i5 + i6) ∧ (Int32.toNatClampNeg (i5 + i6)) < 192 then (stI (I 31 (Int32.toNatClampNeg (i5 + i6))) (fun v_43 => (if 0 ≤ v_43 ∧ (Int32.toNatClampNeg v_43) < 192 then (if (I 30 (Int32.toNatClampNeg v_43)) = i6 then (if 0 ≤ v_43 ∧ (Int32.toNatClampNeg v_43) < 192 then (if 1 ≤ dp then (g_111 n (dp - 1) e 0 I L i3 (I 27 (Int32.toNatClampNeg v_43))).bind (fun ⟨x0_76, I0_76, L0_76⟩ => (if 0 ≤ v_43 ∧ (Int32.toNatClampNeg v_43) < 192 then (if 1 ≤ dp then (g_123 n (dp - 1) e 0 I0_76 L0_76 i2 x0_76 (i4 - (I0_76 28 (Int32.toNatClampNeg v_43))) 0 0).bind (fun ⟨x1_92, I1_92, L1_92⟩ => (if x1_92 = 0 then (g_122 n dp e 2 I1_92 L1_92 i1 i2 i3 i4 i5 i6 v_43) else (some (v_43, I1_92, L1_92)))) else none) else none)) else none) else none) else (g_122 n dp e 2 I L i1 i2 i3 i4 i5 i6 v_43)) else none))) else none))) else none)) else none) := by rw [g_122.eq_2, if_neg (show ¬ ((1 : Nat) = 0) by decide), if_pos (show (1 : Nat) = 1 from rfl)]
set_option maxRecDepth 100000 in
theorem e_122_2 (n dp : Nat) (e : EN) (I : (Nat → Nat → Int32)) (L : (Nat → Nat → Int64)) (i1 : Int32) (i2 : Int32) (i3 : Int32) (i4 : Int32) (i5 : Int32) (i6 : Int32) (i7 : Int32) : g_122 (n + 1) dp e 2 I L i1 i2 i3 i4 i5 i6 i7 = (g_122 n dp e 1 I L i1 i2 i3 i4 i5 (i6 + Int32.ofInt (1)) 0) := by rw [g_122.eq_2, if_neg (show ¬ ((2 : Nat) = 0) by decide), if_neg (show ¬ ((2 : Nat) = 1) by decide), if_pos (show (2 : Nat) = 2 from rfl)]
set_option maxHeartbeats 8000000 in
set_option maxRecDepth 100000 in
theorem w_122 (X : GX) {z : Nat} {kd : Nat → Nat × Nat} {Rf : Nat → Nat → Option Nat} (hS : Sh z kd Rf) : ∀ (n dp d : Nat), dp ≤ d → ∀ (I : (Nat → Nat → Int32)) (L : (Nat → Nat → Int64)) (i1 : Int32) (i2 : Int32) (i3 : Int32) (i4 : Int32) (i5 : Int32) (i6 : Int32) (i7 : Int32) (r : Int32) (I1 : (Nat → Nat → Int32)) (L1 : (Nat → Nat → Int64)), (g_122 n dp (z, kd, Rf) 0 I L i1 i2 i3 i4 i5 i6 i7 = some (r, I1, L1) → K X d 122 0 0 (AI (fun x τ => x = r ∧ τ = (z, kd, I1, L1, Rf))) 0 [some (.ref 24), some (.int i1), some (.int i2), some (.int i3), some (.int i4), none, none, none] [] (z, kd, I, L, Rf) 0 0) ∧
    (g_122 n dp (z, kd, Rf) 1 I L i1 i2 i3 i4 i5 i6 i7 = some (r, I1, L1) → K X d 122 0 0 (AI (fun x τ => x = r ∧ τ = (z, kd, I1, L1, Rf))) 9 [some (.ref 24), some (.int i1), some (.int i2), some (.int i3), some (.int i4), some (.int i5), some (.int i6), none] [] (z, kd, I, L, Rf) 0 0) ∧
    (g_122 n dp (z, kd, Rf) 2 I L i1 i2 i3 i4 i5 i6 i7 = some (r, I1, L1) → K X d 122 0 0 (AI (fun x τ => x = r ∧ τ = (z, kd, I1, L1, Rf))) 101 [some (.ref 24), some (.int i1), some (.int i2), some (.int i3), some (.int i4), some (.int i5), some (.int i6), some (.int i7)] [] (z, kd, I, L, Rf) 0 0) := by
  intro n
  induction n with
  | zero => intro dp d hdp I L i1 i2 i3 i4 i5 i6 i7 r I1 L1; exact ⟨(fun h => by cases h), (fun h => by cases h), (fun h => by cases h)⟩
  | succ n ih =>
    intro dp d hdp I L i1 i2 i3 i4 i5 i6 i7 r I1 L1
    refine ⟨?_, ?_, ?_⟩
    · intro h
      rw [e_122_0] at h
      refine K_of b_122_0 h_122_0 ?_
      refine q_iload rfl ?_
      refine q_iconst (64) (by decide) ?_
      refine q_imul ?_
      refine q_istore (ls1 := [some (.ref 24), some (.int i1), some (.int i2), some (.int i3), some (.int i4), some (.int (i1 * (64 : Int32))), none, none]) (Nat.le_of_ble_eq_true rfl) rfl ?_
      refine q_iconst (0) (by decide) ?_
      refine q_istore (ls1 := [some (.ref 24), some (.int i1), some (.int i2), some (.int i3), some (.int i4), some (.int (i1 * (64 : Int32))), some (.int (0 : Int32)), none]) (Nat.le_of_ble_eq_true rfl) rfl ?_
      refine q_end ?_
      exact (ih dp d hdp _ _ i1 i2 i3 i4 (i1 * (64 : Int32)) (0 : Int32) 0 _ _ _).2.1 h
    · intro h
      rw [e_122_1] at h
      refine K_of b_122_9 h_122_9 ?_
      refine q_iload rfl ?_
      refine q_aload rfl ?_
      refine q_getRs (c0 := 7) (j := 2) rfl rfl (zl hS 24 (by decide)) (sk hS 24 (by decide) rfl) rfl (by decide) (r_24_2 hS) ?_
      refine q_iload rfl ?_
      obtain ⟨⟨u_16, v_16⟩, h⟩ := ite_some h
      obtain ⟨b_16, r_16, h⟩ := Option.bind_eq_some_iff.mp h
      refine q_aald (zl hS 25 (by decide)) (sk hS 25 (by decide) rfl) (by decide) (in_of u_16 v_16) r_16 ?_
      obtain ⟨⟨z_17, k_17⟩, h⟩ := ite_some h
      refine q_getI (c0 := 2) (j := 4) rfl rfl z_17 (fst_eq k_17) (Or.inl rfl) (by decide) ?_
      refine q_icmp_ge (fun c_20 => ?_) (fun c_20 => ?_)
      · rw [if_pos c_20] at h
        refine K_of b_122_107 h_122_107 ?_
        refine q_iload rfl ?_
        cases h
        exact q_iret rfl (Nat.le_refl _) (Nat.le_refl _) ⟨rfl, rfl⟩
      · rw [if_neg c_20] at h
        refine q_iload rfl ?_
        refine q_iconst (64) (by decide) ?_
        refine q_icmp_ge (fun c_27 => ?_) (fun c_27 => ?_)
        · rw [if_pos c_27] at h
          refine K_of b_122_107 h_122_107 ?_
          refine q_iload rfl ?_
          cases h
          exact q_iret rfl (Nat.le_refl _) (Nat.le_refl _) ⟨rfl, rfl⟩
        · rw [if_neg c_27] at h
          refine q_aload rfl ?_
          refine q_getRs (c0 := 7) (j := 3) rfl rfl (zl hS 24 (by decide)) (sk hS 24 (by decide) rfl) rfl (by decide) (r_24_3 hS) ?_
          refine q_getRs (c0 := 6) (j := 4) rfl rfl (zl hS 26 (by decide)) (sk hS 26 (by decide) rfl) rfl (by decide) (r_26_4 hS) ?_
          refine q_iload rfl ?_
          refine q_iload rfl ?_
          refine q_iadd ?_
          obtain ⟨⟨u_42, v_42⟩, h⟩ := ite_some h
          refine q_ialN (Int32.toNatClampNeg (i5 + i6)) (nx u_42) (zl hS 31 (by decide)) (sk hS 31 (by decide) rfl) v_42 (by decide) ?_
          obtain ⟨v_43, nv_43, h⟩ := stI_some h
          refine q_eqi nv_43.symm ?_
          refine q_istore (ls1 := [some (.ref 24), some (.int i1), some (.int i2), some (.int i3), some (.int i4), some (.int i5), some (.int i6), some (.int v_43)]) (Nat.le_of_ble_eq_true rfl) rfl ?_
          refine q_aload rfl ?_
          refine q_getRs (c0 := 7) (j := 3) rfl rfl (zl hS 24 (by decide)) (sk hS 24 (by decide) rfl) rfl (by decide) (r_24_3 hS) ?_
          refine q_getRs (c0 := 6) (j := 3) rfl rfl (zl hS 26 (by decide)) (sk hS 26 (by decide) rfl) rfl (by decide) (r_26_3 hS) ?_
          refine q_iload rfl ?_
          obtain ⟨⟨u_54, v_54⟩, h⟩ := ite_some h
          refine q_ialN (Int32.toNatClampNeg v_43) (nx u_54) (zl hS 30 (by decide)) (sk hS 30 (by decide) rfl) v_54 (by decide) ?_
          refine q_iload rfl ?_
          refine q_icmp_ne (fun c_57 => ?_) (fun c_57 => ?_)
          · rw [if_neg c_57] at h
            exact (ih dp d hdp _ _ i1 i2 i3 i4 i5 i6 v_43 _ _ _).2.2 h
          · rw [if_pos c_57] at h
            refine q_aload rfl ?_
            refine q_getRs (c0 := 7) (j := 4) rfl rfl (zl hS 24 (by decide)) (sk hS 24 (by decide) rfl) rfl (by decide) (r_24_4 hS) ?_
            refine q_iload rfl ?_
            refine q_iload rfl ?_
            refine q_aload rfl ?_
            refine q_getRs (c0 := 7) (j := 3) rfl rfl (zl hS 24 (by decide)) (sk hS 24 (by decide) rfl) rfl (by decide) (r_24_3 hS) ?_
            refine q_getRs (c0 := 6) (j := 0) rfl rfl (zl hS 26 (by decide)) (sk hS 26 (by decide) rfl) rfl (by decide) (r_26_0 hS) ?_
            refine q_iload rfl ?_
            obtain ⟨⟨u_75, v_75⟩, h⟩ := ite_some h
            refine q_ialN (Int32.toNatClampNeg v_43) (nx u_75) (zl hS 27 (by decide)) (sk hS 27 (by decide) rfl) v_75 (by decide) ?_
            obtain ⟨d_76, h⟩ := ite_some h
            obtain ⟨⟨x0_76, I0_76, L0_76⟩, e_76, h⟩ := Option.bind_eq_some_iff.mp h
            dsimp only at h
            refine q_fs2I (a_111 X hS (d := d - 1) (by omega) e_76) (by omega) (Nat.le_refl _) (Nat.le_refl _) rfl (Nat.le_of_ble_eq_true rfl) ?_
            refine q_iload rfl ?_
            refine q_aload rfl ?_
            refine q_getRs (c0 := 7) (j := 3) rfl rfl (zl hS 24 (by decide)) (sk hS 24 (by decide) rfl) rfl (by decide) (r_24_3 hS) ?_
            refine q_getRs (c0 := 6) (j := 1) rfl rfl (zl hS 26 (by decide)) (sk hS 26 (by decide) rfl) rfl (by decide) (r_26_1 hS) ?_
            refine q_iload rfl ?_
            obtain ⟨⟨u_90, v_90⟩, h⟩ := ite_some h
            refine q_ialN (Int32.toNatClampNeg v_43) (nx u_90) (zl hS 28 (by decide)) (sk hS 28 (by decide) rfl) v_90 (by decide) ?_
            refine q_isub ?_
            obtain ⟨d_92, h⟩ := ite_some h
            obtain ⟨⟨x1_92, I1_92, L1_92⟩, e_92, h⟩ := Option.bind_eq_some_iff.mp h
            dsimp only at h
            refine q_fv4I (a_123 X hS (d := d - 1) (by omega) e_92) (by omega) (Nat.le_refl _) (Nat.le_refl _) rfl (Nat.le_of_ble_eq_true rfl) ⟨(zl hS 44 (by decide)), congrArg Prod.fst (sk hS 44 (by decide) rfl), by decide⟩ ?_
            refine q_if_eq (fun c_95 => ?_) (fun c_95 => ?_)
            · rw [if_pos c_95] at h
              exact (ih dp d hdp _ _ i1 i2 i3 i4 i5 i6 v_43 _ _ _).2.2 h
            · rw [if_neg c_95] at h
              refine q_iload rfl ?_
              cases h
              exact q_iret rfl (Nat.le_refl _) (Nat.le_refl _) ⟨rfl, rfl⟩
    · intro h
      rw [e_122_2] at h
      refine K_of b_122_101 h_122_101 ?_
      refine q_iinc (ls1 := [some (.ref 24), some (.int i1), some (.int i2), some (.int i3), some (.int i4), some (.int i5), some (.int (i6 + Int32.ofInt (1))), some (.int i7)]) rfl rfl ?_
      refine q_goto ?_
      refine K_mask [true, true, true, true, true, true, true, false] (Nat.le_of_ble_eq_true rfl) ?_
      exact (ih dp d hdp _ _ i1 i2 i3 i4 i5 (i6 + Int32.ofInt (1)) 0 _ _ _).2.1 h
theorem a_122 (X : GX) {z : Nat} {kd : Nat → Nat × Nat} {Rf : Nat → Nat → Option Nat} (hS : Sh z kd Rf) {n dp d : Nat} (hd : dp ≤ d) {I : (Nat → Nat → Int32)} {L : (Nat → Nat → Int64)} {i1 : Int32} {i2 : Int32} {i3 : Int32} {i4 : Int32} {I1 : (Nat → Nat → Int32)} {L1 : (Nat → Nat → Int64)} {r : Int32} (h : g_122 n dp (z, kd, Rf) 0 I L i1 i2 i3 i4 0 0 0 = some (r, I1, L1)) : Ct X d 122 0 0 [.ref 24, .int i1, .int i2, .int i3, .int i4] (z, kd, I, L, Rf) (AI (fun x τ => x = r ∧ τ = (z, kd, I1, L1, Rf))) :=
  Ct_of mu_122 (Nat.le_of_ble_eq_true rfl) ((w_122 X hS n dp d hd I L i1 i2 i3 i4 0 0 0 _ _ _).1 h)

/-! 125 CutFloor$Planner.manyInFirst(I)I -/
set_option maxHeartbeats 4000000 in
set_option maxRecDepth 100000 in
def g_125 : Nat → Nat → EN → Nat → (Nat → Nat → Int32) → (Nat → Nat → Int64) → Int32 → Int32 → Int32 → Int32 →  Option (Int32 × (Nat → Nat → Int32) × (Nat → Nat → Int64))
  | 0, _, _, _, _, _, _, _, _, _ => none
  | n + 1, dp, e, lab, I, L, i1, i2, i3, i4 =>
    if lab = 0 then (if 1 ≤ dp then (g_16 n (dp - 1) e 0 I L).bind (fun ⟨x0_6, I0_6, L0_6⟩ => (g_125 n dp e 1 I0_6 L0_6 i1 (0 : Int32) x0_6 (0 : Int32))) else none)
    else if lab = 1 then (if i3 ≤ i4 then (some (i2, I, L)) else (if 1 ≤ dp then (g_121 n (dp - 1) e 0 I L i4).bind (fun ⟨x0_30, I0_30, L0_30⟩ => (if 0 ≤ x0_30 ∧ (Int32.toNatClampNeg x0_30) < 3 then (e.2.2 25 (Int32.toNatClampNeg x0_30)).bind (fun b_33 => (if b_33 < e.1 ∧ (e.2.1 b_33).1 = 2 then ((e.2.2 b_33 1).bind (fun b_34 => (if 0 ≤ i4 ∧ (Int32.toNatClampNeg i4) < 8 then (if (b_34 < e.1 ∧ (e.2.1 b_34).1 = 13 ∧ (e.2.1 b_34).2 < 2 ^ 31) ∧ 0 ≤ (((I0_30 55 (Int32.toNatClampNeg i4)) * (10 : Int32)) + i1) ∧ (Int32.toNatClampNeg (((I0_30 55 (Int32.toNatClampNeg i4)) * (10 : Int32)) + i1)) < (e.2.1 b_34).2 then (stI (i2 + (I0_30 b_34 (Int32.toNatClampNeg (((I0_30 55 (Int32.toNatClampNeg i4)) * (10 : Int32)) + i1)))) (fun v_51 => (g_125 n dp e 1 I0_30 L0_30 i1 v_51 i3 (i4 + Int32.ofInt (1))))) else none) else none))) else none)) else none)) else none))
    else none
set_option maxRecDepth 100000 in
theorem e_125_0 (n dp : Nat) (e : EN) (I : (Nat → Nat → Int32)) (L : (Nat → Nat → Int64)) (i1 : Int32) (i2 : Int32) (i3 : Int32) (i4 : Int32) : g_125 (n + 1) dp e 0 I L i1 i2 i3 i4 = (if 1 ≤ dp then (g_16 n (dp - 1) e 0 I L).bind (fun ⟨x0_6, I0_6, L0_6⟩ => (g_125 n dp e 1 I0_6 L0_6 i1 (0 : Int32) x0_6 (0 : Int32))) else none) := by rw [g_125.eq_2, if_pos (show (0 : Nat) = 0 from rfl)]
set_option maxRecDepth 100000 in
theorem e_125_1 (n dp : Nat) (e : EN) (I : (Nat → Nat → Int32)) (L : (Nat → Nat → Int64)) (i1 : Int32) (i2 : Int32) (i3 : Int32) (i4 : Int32) : g_125 (n + 1) dp e 1 I L i1 i2 i3 i4 = (if i3 ≤ i4 then (some (i2, I, L)) else (if 1 ≤ dp then (g_121 n (dp - 1) e 0 I L i4).bind (fun ⟨x0_30, I0_30, L0_30⟩ => (if 0 ≤ x0_30 ∧ (Int32.toNatClampNeg x0_30) < 3 then (e.2.2 25 (Int32.toNatClampNeg x0_30)).bind (fun b_33 => (if b_33 < e.1 ∧ (e.2.1 b_33).1 = 2 then ((e.2.2 b_33 1).bind (fun b_34 => (if 0 ≤ i4 ∧ (Int32.toNatClampNeg i4) < 8 then (if (b_34 < e.1 ∧ (e.2.1 b_34).1 = 13 ∧ (e.2.1 b_34).2 < 2 ^ 31) ∧ 0 ≤ (((I0_30 55 (Int32.toNatClampNeg i4)) * (10 : Int32)) + i1) ∧ (Int32.toNatClampNeg (((I0_30 55 (Int32.toNatClampNeg i4)) * (10 : Int32)) + i1)) < (e.2.1 b_34).2 then (stI (i2 + (I0_30 b_34 (Int32.toNatClampNeg (((I0_30 55 (Int32.toNatClampNeg i4)) * (10 : Int32)) + i1)))) (fun v_51 => (g_125 n dp e 1 I0_30 L0_30 i1 v_51 i3 (i4 + Int32.ofInt (1))))) else none) else none))) else none)) else none)) else none)) := by rw [g_125.eq_2, if_neg (show ¬ ((1 : Nat) = 0) by decide), if_pos (show (1 : Nat) = 1 from rfl)]
set_option maxHeartbeats 8000000 in
set_option maxRecDepth 100000 in
theorem w_125 (X : GX) {z : Nat} {kd : Nat → Nat × Nat} {Rf : Nat → Nat → Option Nat} (hS : Sh z kd Rf) : ∀ (n dp d : Nat), dp ≤ d → ∀ (I : (Nat → Nat → Int32)) (L : (Nat → Nat → Int64)) (i1 : Int32) (i2 : Int32) (i3 : Int32) (i4 : Int32) (r : Int32) (I1 : (Nat → Nat → Int32)) (L1 : (Nat → Nat → Int64)), (g_125 n dp (z, kd, Rf) 0 I L i1 i2 i3 i4 = some (r, I1, L1) → K X d 125 0 0 (AI (fun x τ => x = r ∧ τ = (z, kd, I1, L1, Rf))) 0 [some (.ref 24), some (.int i1), none, none, none] [] (z, kd, I, L, Rf) 0 0) ∧
    (g_125 n dp (z, kd, Rf) 1 I L i1 i2 i3 i4 = some (r, I1, L1) → K X d 125 0 0 (AI (fun x τ => x = r ∧ τ = (z, kd, I1, L1, Rf))) 13 [some (.ref 24), some (.int i1), some (.int i2), some (.int i3), some (.int i4)] [] (z, kd, I, L, Rf) 0 0) := by
  intro n
  induction n with
  | zero => intro dp d hdp I L i1 i2 i3 i4 r I1 L1; exact ⟨(fun h => by cases h), (fun h => by cases h)⟩
  | succ n ih =>
    intro dp d hdp I L i1 i2 i3 i4 r I1 L1
    refine ⟨?_, ?_⟩
    · intro h
      rw [e_125_0] at h
      refine K_of b_125_0 h_125_0 ?_
      refine q_iconst (0) (by decide) ?_
      refine q_istore (ls1 := [some (.ref 24), some (.int i1), some (.int (0 : Int32)), none, none]) (Nat.le_of_ble_eq_true rfl) rfl ?_
      refine q_aload rfl ?_
      refine q_getRs (c0 := 7) (j := 0) rfl rfl (zl hS 24 (by decide)) (sk hS 24 (by decide) rfl) rfl (by decide) (r_24_0 hS) ?_
      obtain ⟨d_6, h⟩ := ite_some h
      obtain ⟨⟨x0_6, I0_6, L0_6⟩, e_6, h⟩ := Option.bind_eq_some_iff.mp h
      dsimp only at h
      refine q_fv1I (a_16 X hS (d := d - 1) (by omega) e_6) (by omega) (Nat.le_refl _) (Nat.le_refl _) rfl (Nat.le_of_ble_eq_true rfl) ⟨(zl hS 1 (by decide)), congrArg Prod.fst (sk hS 1 (by decide) rfl), by decide⟩ ?_
      refine q_istore (ls1 := [some (.ref 24), some (.int i1), some (.int (0 : Int32)), some (.int x0_6), none]) (Nat.le_of_ble_eq_true rfl) rfl ?_
      refine q_iconst (0) (by decide) ?_
      refine q_istore (ls1 := [some (.ref 24), some (.int i1), some (.int (0 : Int32)), some (.int x0_6), some (.int (0 : Int32))]) (Nat.le_of_ble_eq_true rfl) rfl ?_
      refine q_end ?_
      exact (ih dp d hdp _ _ i1 (0 : Int32) x0_6 (0 : Int32) _ _ _).2 h
    · intro h
      rw [e_125_1] at h
      refine K_of b_125_13 h_125_13 ?_
      refine q_iload rfl ?_
      refine q_iload rfl ?_
      refine q_icmp_ge (fun c_16 => ?_) (fun c_16 => ?_)
      · rw [if_pos c_16] at h
        refine K_of b_125_58 h_125_58 ?_
        refine q_iload rfl ?_
        cases h
        exact q_iret rfl (Nat.le_refl _) (Nat.le_refl _) ⟨rfl, rfl⟩
      · rw [if_neg c_16] at h
        refine q_iload rfl ?_
        refine q_aload rfl ?_
        refine q_getRs (c0 := 7) (j := 2) rfl rfl (zl hS 24 (by decide)) (sk hS 24 (by decide) rfl) rfl (by decide) (r_24_2 hS) ?_
        refine q_aload rfl ?_
        refine q_getRs (c0 := 7) (j := 0) rfl rfl (zl hS 24 (by decide)) (sk hS 24 (by decide) rfl) rfl (by decide) (r_24_0 hS) ?_
        refine q_iload rfl ?_
        obtain ⟨d_30, h⟩ := ite_some h
        obtain ⟨⟨x0_30, I0_30, L0_30⟩, e_30, h⟩ := Option.bind_eq_some_iff.mp h
        dsimp only at h
        refine q_fv2I (a_121 X hS (d := d - 1) (by omega) e_30) (by omega) (Nat.le_refl _) (Nat.le_refl _) rfl (Nat.le_of_ble_eq_true rfl) ⟨(zl hS 1 (by decide)), congrArg Prod.fst (sk hS 1 (by decide) rfl), by decide⟩ ?_
        obtain ⟨⟨u_33, v_33⟩, h⟩ := ite_some h
        obtain ⟨b_33, r_33, h⟩ := Option.bind_eq_some_iff.mp h
        refine q_aald (zl hS 25 (by decide)) (sk hS 25 (by decide) rfl) (by decide) (in_of u_33 v_33) r_33 ?_
        obtain ⟨⟨z_34, k_34⟩, h⟩ := ite_some h
        obtain ⟨b_34, r_34, h⟩ := Option.bind_eq_some_iff.mp h
        refine q_getRs (c0 := 2) (j := 1) rfl rfl z_34 (fst_eq k_34) rfl (by decide) r_34 ?_
        refine q_aload rfl ?_
        refine q_getRs (c0 := 7) (j := 9) rfl rfl (zl hS 24 (by decide)) (sk hS 24 (by decide) rfl) rfl (by decide) (r_24_9 hS) ?_
        refine q_iload rfl ?_
        obtain ⟨⟨u_43, v_43⟩, h⟩ := ite_some h
        refine q_ialN (Int32.toNatClampNeg i4) (nx u_43) (zl hS 55 (by decide)) (sk hS 55 (by decide) rfl) v_43 (by decide) ?_
        refine q_iconst (10) (by decide) ?_
        refine q_imul ?_
        refine q_iload rfl ?_
        refine q_iadd ?_
        obtain ⟨⟨⟨z_49, k_49, m_49⟩, u_49, v_49⟩, h⟩ := ite_some h
        refine q_ialN (Int32.toNatClampNeg (((I0_30 55 (Int32.toNatClampNeg i4)) * (10 : Int32)) + i1)) (nx u_49) z_49 (fst_eq k_49) v_49 m_49 ?_
        refine q_iadd ?_
        obtain ⟨v_51, nv_51, h⟩ := stI_some h
        refine q_eqi nv_51.symm ?_
        refine q_istore (ls1 := [some (.ref 24), some (.int i1), some (.int v_51), some (.int i3), some (.int i4)]) (Nat.le_of_ble_eq_true rfl) rfl ?_
        refine q_iinc (ls1 := [some (.ref 24), some (.int i1), some (.int v_51), some (.int i3), some (.int (i4 + Int32.ofInt (1)))]) rfl rfl ?_
        refine q_goto ?_
        exact (ih dp d hdp _ _ i1 v_51 i3 (i4 + Int32.ofInt (1)) _ _ _).2 h
theorem a_125 (X : GX) {z : Nat} {kd : Nat → Nat × Nat} {Rf : Nat → Nat → Option Nat} (hS : Sh z kd Rf) {n dp d : Nat} (hd : dp ≤ d) {I : (Nat → Nat → Int32)} {L : (Nat → Nat → Int64)} {i1 : Int32} {I1 : (Nat → Nat → Int32)} {L1 : (Nat → Nat → Int64)} {r : Int32} (h : g_125 n dp (z, kd, Rf) 0 I L i1 0 0 0 = some (r, I1, L1)) : Ct X d 125 0 0 [.ref 24, .int i1] (z, kd, I, L, Rf) (AI (fun x τ => x = r ∧ τ = (z, kd, I1, L1, Rf))) :=
  Ct_of mu_125 (Nat.le_of_ble_eq_true rfl) ((w_125 X hS n dp d hd I L i1 0 0 0 _ _ _).1 h)

/-! 126 CutFloor$Hall.lacking(II)I -/
set_option maxHeartbeats 4000000 in
set_option maxRecDepth 100000 in
def g_126 : Nat → Nat → EN → Nat → (Nat → Nat → Int32) → (Nat → Nat → Int64) → Int32 → Int32 →  Option (Int32 × (Nat → Nat → Int32) × (Nat → Nat → Int64))
  | 0, _, _, _, _, _, _, _ => none
  | n + 1, dp, e, lab, I, L, i1, i2 =>
    if lab = 0 then (if 0 ≤ ((20 : Int32) + i1) ∧ (Int32.toNatClampNeg ((20 : Int32) + i1)) < 30 then (if 1 ≤ dp then (some ((if (0 : Int32) < ((I 4 (Int32.toNatClampNeg ((20 : Int32) + i1))) - i2) then ((I 4 (Int32.toNatClampNeg ((20 : Int32) + i1))) - i2) else (0 : Int32)), I, L)) else none) else none)
    else none
set_option maxRecDepth 100000 in
theorem e_126_0 (n dp : Nat) (e : EN) (I : (Nat → Nat → Int32)) (L : (Nat → Nat → Int64)) (i1 : Int32) (i2 : Int32) : g_126 (n + 1) dp e 0 I L i1 i2 = (if 0 ≤ ((20 : Int32) + i1) ∧ (Int32.toNatClampNeg ((20 : Int32) + i1)) < 30 then (if 1 ≤ dp then (some ((if (0 : Int32) < ((I 4 (Int32.toNatClampNeg ((20 : Int32) + i1))) - i2) then ((I 4 (Int32.toNatClampNeg ((20 : Int32) + i1))) - i2) else (0 : Int32)), I, L)) else none) else none) := by rw [g_126.eq_2, if_pos (show (0 : Nat) = 0 from rfl)]
set_option maxHeartbeats 8000000 in
set_option maxRecDepth 100000 in
theorem w_126 (X : GX) {z : Nat} {kd : Nat → Nat × Nat} {Rf : Nat → Nat → Option Nat} (hS : Sh z kd Rf) : ∀ (n dp d : Nat), dp ≤ d → ∀ (I : (Nat → Nat → Int32)) (L : (Nat → Nat → Int64)) (i1 : Int32) (i2 : Int32) (r : Int32) (I1 : (Nat → Nat → Int32)) (L1 : (Nat → Nat → Int64)), (g_126 n dp (z, kd, Rf) 0 I L i1 i2 = some (r, I1, L1) → K X d 126 0 0 (AI (fun x τ => x = r ∧ τ = (z, kd, I1, L1, Rf))) 0 [some (.ref 1), some (.int i1), some (.int i2)] [] (z, kd, I, L, Rf) 0 0) := by
  intro n
  induction n with
  | zero => intro dp d hdp I L i1 i2 r I1 L1; exact fun h => by cases h
  | succ n ih =>
    intro dp d hdp I L i1 i2 r I1 L1
    · intro h
      rw [e_126_0] at h
      refine K_of b_126_0 h_126_0 ?_
      refine q_iconst (0) (by decide) ?_
      refine q_aload rfl ?_
      refine q_getRs (c0 := 3) (j := 2) rfl rfl (zl hS 1 (by decide)) (sk hS 1 (by decide) rfl) rfl (by decide) (r_1_2 hS) ?_
      refine q_iconst (20) (by decide) ?_
      refine q_iload rfl ?_
      refine q_iadd ?_
      obtain ⟨⟨u_9, v_9⟩, h⟩ := ite_some h
      refine q_ialN (Int32.toNatClampNeg ((20 : Int32) + i1)) (nx u_9) (zl hS 4 (by decide)) (sk hS 4 (by decide) rfl) v_9 (by decide) ?_
      refine q_iload rfl ?_
      refine q_isub ?_
      obtain ⟨d_12, h⟩ := ite_some h
      refine q_max (Nat.le_of_ble_eq_true rfl) (Nat.le_trans d_12 hdp) (Nat.le_refl _) (Nat.le_refl _) ?_
      cases h
      exact q_iret rfl (Nat.le_refl _) (Nat.le_refl _) ⟨rfl, rfl⟩
theorem a_126 (X : GX) {z : Nat} {kd : Nat → Nat × Nat} {Rf : Nat → Nat → Option Nat} (hS : Sh z kd Rf) {n dp d : Nat} (hd : dp ≤ d) {I : (Nat → Nat → Int32)} {L : (Nat → Nat → Int64)} {i1 : Int32} {i2 : Int32} {I1 : (Nat → Nat → Int32)} {L1 : (Nat → Nat → Int64)} {r : Int32} (h : g_126 n dp (z, kd, Rf) 0 I L i1 i2 = some (r, I1, L1)) : Ct X d 126 0 0 [.ref 1, .int i1, .int i2] (z, kd, I, L, Rf) (AI (fun x τ => x = r ∧ τ = (z, kd, I1, L1, Rf))) :=
  Ct_of mu_126 (Nat.le_of_ble_eq_true rfl) ((w_126 X hS n dp d hd I L i1 i2 _ _ _) h)

/-! 132 CutFloor$Planner.mostOf(I)I -/
set_option maxHeartbeats 4000000 in
set_option maxRecDepth 100000 in
def g_132 : Nat → Nat → EN → Nat → (Nat → Nat → Int32) → (Nat → Nat → Int64) → Int32 → Int32 → Int32 → Int32 → Int32 →  Option (Int32 × (Nat → Nat → Int32) × (Nat → Nat → Int64))
  | 0, _, _, _, _, _, _, _, _, _, _ => none
  | n + 1, dp, e, lab, I, L, i1, i2, i3, i4, i5 =>
    if lab = 0 then (g_132 n dp e 1 I L i1 (0 : Int32) (0 : Int32) 0 0)
    else if lab = 1 then (if (3 : Int32) ≤ i3 then (some (i2, I, L)) else (g_132 n dp e 2 I L i1 i2 i3 (0 : Int32) (0 : Int32)))
    else if lab = 2 then (if 0 ≤ i3 ∧ (Int32.toNatClampNeg i3) < 3 then (e.2.2 25 (Int32.toNatClampNeg i3)).bind (fun b_22 => (if b_22 < e.1 ∧ (e.2.1 b_22).1 = 2 then (if (I b_22 4) ≤ i5 then (g_132 n dp e 3 I L i1 i2 i3 i4 i5) else (if (64 : Int32) ≤ i5 then (g_132 n dp e 3 I L i1 i2 i3 i4 i5) else (if 0 ≤ i3 ∧ (Int32.toNatClampNeg i3) < 3 then (e.2.2 25 (Int32.toNatClampNeg i3)).bind (fun b_43 => (if b_43 < e.1 ∧ (e.2.1 b_43).1 = 2 then ((e.2.2 b_43 1).bind (fun b_44 => (if (b_44 < e.1 ∧ (e.2.1 b_44).1 = 13 ∧ (e.2.1 b_44).2 < 2 ^ 31) ∧ 0 ≤ ((i5 * (10 : Int32)) + i1) ∧ (Int32.toNatClampNeg ((i5 * (10 : Int32)) + i1)) < (e.2.1 b_44).2 then (if 1 ≤ dp then (stI (if i4 < (I b_44 (Int32.toNatClampNeg ((i5 * (10 : Int32)) + i1))) then (I b_44 (Int32.toNatClampNeg ((i5 * (10 : Int32)) + i1))) else i4) (fun v_58 => (g_132 n dp e 2 I L i1 i2 i3 v_58 (i5 + Int32.ofInt (1))))) else none) else none))) else none)) else none))) else none)) else none)
    else if lab = 3 then (if 0 ≤ i3 ∧ (Int32.toNatClampNeg i3) < 3 then (stI (i2 + ((I 2 (Int32.toNatClampNeg i3)) * i4)) (fun v_80 => (g_132 n dp e 1 I L i1 v_80 (i3 + Int32.ofInt (1)) 0 0))) else none)
    else none
set_option maxRecDepth 100000 in
theorem e_132_0 (n dp : Nat) (e : EN) (I : (Nat → Nat → Int32)) (L : (Nat → Nat → Int64)) (i1 : Int32) (i2 : Int32) (i3 : Int32) (i4 : Int32) (i5 : Int32) : g_132 (n + 1) dp e 0 I L i1 i2 i3 i4 i5 = (g_132 n dp e 1 I L i1 (0 : Int32) (0 : Int32) 0 0) := by rw [g_132.eq_2, if_pos (show (0 : Nat) = 0 from rfl)]
set_option maxRecDepth 100000 in
theorem e_132_1 (n dp : Nat) (e : EN) (I : (Nat → Nat → Int32)) (L : (Nat → Nat → Int64)) (i1 : Int32) (i2 : Int32) (i3 : Int32) (i4 : Int32) (i5 : Int32) : g_132 (n + 1) dp e 1 I L i1 i2 i3 i4 i5 = (if (3 : Int32) ≤ i3 then (some (i2, I, L)) else (g_132 n dp e 2 I L i1 i2 i3 (0 : Int32) (0 : Int32))) := by rw [g_132.eq_2, if_neg (show ¬ ((1 : Nat) = 0) by decide), if_pos (show (1 : Nat) = 1 from rfl)]
set_option maxRecDepth 100000 in
theorem e_132_2 (n dp : Nat) (e : EN) (I : (Nat → Nat → Int32)) (L : (Nat → Nat → Int64)) (i1 : Int32) (i2 : Int32) (i3 : Int32) (i4 : Int32) (i5 : Int32) : g_132 (n + 1) dp e 2 I L i1 i2 i3 i4 i5 = (if 0 ≤ i3 ∧ (Int32.toNatClampNeg i3) < 3 then (e.2.2 25 (Int32.toNatClampNeg i3)).bind (fun b_22 => (if b_22 < e.1 ∧ (e.2.1 b_22).1 = 2 then (if (I b_22 4) ≤ i5 then (g_132 n dp e 3 I L i1 i2 i3 i4 i5) else (if (64 : Int32) ≤ i5 then (g_132 n dp e 3 I L i1 i2 i3 i4 i5) else (if 0 ≤ i3 ∧ (Int32.toNatClampNeg i3) < 3 then (e.2.2 25 (Int32.toNatClampNeg i3)).bind (fun b_43 => (if b_43 < e.1 ∧ (e.2.1 b_43).1 = 2 then ((e.2.2 b_43 1).bind (fun b_44 => (if (b_44 < e.1 ∧ (e.2.1 b_44).1 = 13 ∧ (e.2.1 b_44).2 < 2 ^ 31) ∧ 0 ≤ ((i5 * (10 : Int32)) + i1) ∧ (Int32.toNatClampNeg ((i5 * (10 : Int32)) + i1)) < (e.2.1 b_44).2 then (if 1 ≤ dp then (stI (if i4 < (I b_44 (Int32.toNatClampNeg ((i5 * (10 : Int32)) + i1))) then (I b_44 (Int32.toNatClampNeg ((i5 * (10 : Int32)) + i1))) else i4) (fun v_58 => (g_132 n dp e 2 I L i1 i2 i3 v_58 (i5 + Int32.ofInt (1))))) else none) else none))) else none)) else none))) else none)) else none) := by rw [g_132.eq_2, if_neg (show ¬ ((2 : Nat) = 0) by decide), if_neg (show ¬ ((2 : Nat) = 1) by decide), if_pos (show (2 : Nat) = 2 from rfl)]
set_option maxRecDepth 100000 in
theorem e_132_3 (n dp : Nat) (e : EN) (I : (Nat → Nat → Int32)) (L : (Nat → Nat → Int64)) (i1 : Int32) (i2 : Int32) (i3 : Int32) (i4 : Int32) (i5 : Int32) : g_132 (n + 1) dp e 3 I L i1 i2 i3 i4 i5 = (if 0 ≤ i3 ∧ (Int32.toNatClampNeg i3) < 3 then (stI (i2 + ((I 2 (Int32.toNatClampNeg i3)) * i4)) (fun v_80 => (g_132 n dp e 1 I L i1 v_80 (i3 + Int32.ofInt (1)) 0 0))) else none) := by rw [g_132.eq_2, if_neg (show ¬ ((3 : Nat) = 0) by decide), if_neg (show ¬ ((3 : Nat) = 1) by decide), if_neg (show ¬ ((3 : Nat) = 2) by decide), if_pos (show (3 : Nat) = 3 from rfl)]
set_option maxHeartbeats 8000000 in
set_option maxRecDepth 100000 in
theorem w_132 (X : GX) {z : Nat} {kd : Nat → Nat × Nat} {Rf : Nat → Nat → Option Nat} (hS : Sh z kd Rf) : ∀ (n dp d : Nat), dp ≤ d → ∀ (I : (Nat → Nat → Int32)) (L : (Nat → Nat → Int64)) (i1 : Int32) (i2 : Int32) (i3 : Int32) (i4 : Int32) (i5 : Int32) (r : Int32) (I1 : (Nat → Nat → Int32)) (L1 : (Nat → Nat → Int64)), (g_132 n dp (z, kd, Rf) 0 I L i1 i2 i3 i4 i5 = some (r, I1, L1) → K X d 132 0 0 (AI (fun x τ => x = r ∧ τ = (z, kd, I1, L1, Rf))) 0 [some (.ref 24), some (.int i1), none, none, none, none] [] (z, kd, I, L, Rf) 0 0) ∧
    (g_132 n dp (z, kd, Rf) 1 I L i1 i2 i3 i4 i5 = some (r, I1, L1) → K X d 132 0 0 (AI (fun x τ => x = r ∧ τ = (z, kd, I1, L1, Rf))) 4 [some (.ref 24), some (.int i1), some (.int i2), some (.int i3), none, none] [] (z, kd, I, L, Rf) 0 0) ∧
    (g_132 n dp (z, kd, Rf) 2 I L i1 i2 i3 i4 i5 = some (r, I1, L1) → K X d 132 0 0 (AI (fun x τ => x = r ∧ τ = (z, kd, I1, L1, Rf))) 15 [some (.ref 24), some (.int i1), some (.int i2), some (.int i3), some (.int i4), some (.int i5)] [] (z, kd, I, L, Rf) 0 0) ∧
    (g_132 n dp (z, kd, Rf) 3 I L i1 i2 i3 i4 i5 = some (r, I1, L1) → K X d 132 0 0 (AI (fun x τ => x = r ∧ τ = (z, kd, I1, L1, Rf))) 66 [some (.ref 24), some (.int i1), some (.int i2), some (.int i3), some (.int i4), some (.int i5)] [] (z, kd, I, L, Rf) 0 0) := by
  intro n
  induction n with
  | zero => intro dp d hdp I L i1 i2 i3 i4 i5 r I1 L1; exact ⟨(fun h => by cases h), (fun h => by cases h), (fun h => by cases h), (fun h => by cases h)⟩
  | succ n ih =>
    intro dp d hdp I L i1 i2 i3 i4 i5 r I1 L1
    refine ⟨?_, ?_, ?_, ?_⟩
    · intro h
      rw [e_132_0] at h
      refine K_of b_132_0 h_132_0 ?_
      refine q_iconst (0) (by decide) ?_
      refine q_istore (ls1 := [some (.ref 24), some (.int i1), some (.int (0 : Int32)), none, none, none]) (Nat.le_of_ble_eq_true rfl) rfl ?_
      refine q_iconst (0) (by decide) ?_
      refine q_istore (ls1 := [some (.ref 24), some (.int i1), some (.int (0 : Int32)), some (.int (0 : Int32)), none, none]) (Nat.le_of_ble_eq_true rfl) rfl ?_
      refine q_end ?_
      exact (ih dp d hdp _ _ i1 (0 : Int32) (0 : Int32) 0 0 _ _ _).2.1 h
    · intro h
      rw [e_132_1] at h
      refine K_of b_132_4 h_132_4 ?_
      refine q_iload rfl ?_
      refine q_iconst (3) (by decide) ?_
      refine q_icmp_ge (fun c_6 => ?_) (fun c_6 => ?_)
      · rw [if_pos c_6] at h
        refine K_of b_132_87 h_132_87 ?_
        refine q_iload rfl ?_
        cases h
        exact q_iret rfl (Nat.le_refl _) (Nat.le_refl _) ⟨rfl, rfl⟩
      · rw [if_neg c_6] at h
        refine q_iconst (0) (by decide) ?_
        refine q_istore (ls1 := [some (.ref 24), some (.int i1), some (.int i2), some (.int i3), some (.int (0 : Int32)), none]) (Nat.le_of_ble_eq_true rfl) rfl ?_
        refine q_iconst (0) (by decide) ?_
        refine q_istore (ls1 := [some (.ref 24), some (.int i1), some (.int i2), some (.int i3), some (.int (0 : Int32)), some (.int (0 : Int32))]) (Nat.le_of_ble_eq_true rfl) rfl ?_
        refine q_end ?_
        exact (ih dp d hdp _ _ i1 i2 i3 (0 : Int32) (0 : Int32) _ _ _).2.2.1 h
    · intro h
      rw [e_132_2] at h
      refine K_of b_132_15 h_132_15 ?_
      refine q_iload rfl ?_
      refine q_aload rfl ?_
      refine q_getRs (c0 := 7) (j := 2) rfl rfl (zl hS 24 (by decide)) (sk hS 24 (by decide) rfl) rfl (by decide) (r_24_2 hS) ?_
      refine q_iload rfl ?_
      obtain ⟨⟨u_22, v_22⟩, h⟩ := ite_some h
      obtain ⟨b_22, r_22, h⟩ := Option.bind_eq_some_iff.mp h
      refine q_aald (zl hS 25 (by decide)) (sk hS 25 (by decide) rfl) (by decide) (in_of u_22 v_22) r_22 ?_
      obtain ⟨⟨z_23, k_23⟩, h⟩ := ite_some h
      refine q_getI (c0 := 2) (j := 4) rfl rfl z_23 (fst_eq k_23) (Or.inl rfl) (by decide) ?_
      refine q_icmp_ge (fun c_26 => ?_) (fun c_26 => ?_)
      · rw [if_pos c_26] at h
        exact (ih dp d hdp _ _ i1 i2 i3 i4 i5 _ _ _).2.2.2 h
      · rw [if_neg c_26] at h
        refine q_iload rfl ?_
        refine q_iconst (64) (by decide) ?_
        refine q_icmp_ge (fun c_33 => ?_) (fun c_33 => ?_)
        · rw [if_pos c_33] at h
          exact (ih dp d hdp _ _ i1 i2 i3 i4 i5 _ _ _).2.2.2 h
        · rw [if_neg c_33] at h
          refine q_iload rfl ?_
          refine q_aload rfl ?_
          refine q_getRs (c0 := 7) (j := 2) rfl rfl (zl hS 24 (by decide)) (sk hS 24 (by decide) rfl) rfl (by decide) (r_24_2 hS) ?_
          refine q_iload rfl ?_
          obtain ⟨⟨u_43, v_43⟩, h⟩ := ite_some h
          obtain ⟨b_43, r_43, h⟩ := Option.bind_eq_some_iff.mp h
          refine q_aald (zl hS 25 (by decide)) (sk hS 25 (by decide) rfl) (by decide) (in_of u_43 v_43) r_43 ?_
          obtain ⟨⟨z_44, k_44⟩, h⟩ := ite_some h
          obtain ⟨b_44, r_44, h⟩ := Option.bind_eq_some_iff.mp h
          refine q_getRs (c0 := 2) (j := 1) rfl rfl z_44 (fst_eq k_44) rfl (by decide) r_44 ?_
          refine q_iload rfl ?_
          refine q_iconst (10) (by decide) ?_
          refine q_imul ?_
          refine q_iload rfl ?_
          refine q_iadd ?_
          obtain ⟨⟨⟨z_54, k_54, m_54⟩, u_54, v_54⟩, h⟩ := ite_some h
          refine q_ialN (Int32.toNatClampNeg ((i5 * (10 : Int32)) + i1)) (nx u_54) z_54 (fst_eq k_54) v_54 m_54 ?_
          obtain ⟨d_55, h⟩ := ite_some h
          refine q_max (Nat.le_of_ble_eq_true rfl) (Nat.le_trans d_55 hdp) (Nat.le_refl _) (Nat.le_refl _) ?_
          obtain ⟨v_58, nv_58, h⟩ := stI_some h
          refine q_eqi nv_58.symm ?_
          refine q_istore (ls1 := [some (.ref 24), some (.int i1), some (.int i2), some (.int i3), some (.int v_58), some (.int i5)]) (Nat.le_of_ble_eq_true rfl) rfl ?_
          refine q_iinc (ls1 := [some (.ref 24), some (.int i1), some (.int i2), some (.int i3), some (.int v_58), some (.int (i5 + Int32.ofInt (1)))]) rfl rfl ?_
          refine q_goto ?_
          exact (ih dp d hdp _ _ i1 i2 i3 v_58 (i5 + Int32.ofInt (1)) _ _ _).2.2.1 h
    · intro h
      rw [e_132_3] at h
      refine K_of b_132_66 h_132_66 ?_
      refine q_iload rfl ?_
      refine q_aload rfl ?_
      refine q_getRs (c0 := 7) (j := 0) rfl rfl (zl hS 24 (by decide)) (sk hS 24 (by decide) rfl) rfl (by decide) (r_24_0 hS) ?_
      refine q_getRs (c0 := 3) (j := 0) rfl rfl (zl hS 1 (by decide)) (sk hS 1 (by decide) rfl) rfl (by decide) (r_1_0 hS) ?_
      refine q_iload rfl ?_
      obtain ⟨⟨u_75, v_75⟩, h⟩ := ite_some h
      refine q_ialN (Int32.toNatClampNeg i3) (nx u_75) (zl hS 2 (by decide)) (sk hS 2 (by decide) rfl) v_75 (by decide) ?_
      refine q_iload rfl ?_
      refine q_imul ?_
      refine q_iadd ?_
      obtain ⟨v_80, nv_80, h⟩ := stI_some h
      refine q_eqi nv_80.symm ?_
      refine q_istore (ls1 := [some (.ref 24), some (.int i1), some (.int v_80), some (.int i3), some (.int i4), some (.int i5)]) (Nat.le_of_ble_eq_true rfl) rfl ?_
      refine q_iinc (ls1 := [some (.ref 24), some (.int i1), some (.int v_80), some (.int (i3 + Int32.ofInt (1))), some (.int i4), some (.int i5)]) rfl rfl ?_
      refine q_goto ?_
      refine K_mask [true, true, true, true, false, false] (Nat.le_of_ble_eq_true rfl) ?_
      exact (ih dp d hdp _ _ i1 v_80 (i3 + Int32.ofInt (1)) 0 0 _ _ _).2.1 h
theorem a_132 (X : GX) {z : Nat} {kd : Nat → Nat × Nat} {Rf : Nat → Nat → Option Nat} (hS : Sh z kd Rf) {n dp d : Nat} (hd : dp ≤ d) {I : (Nat → Nat → Int32)} {L : (Nat → Nat → Int64)} {i1 : Int32} {I1 : (Nat → Nat → Int32)} {L1 : (Nat → Nat → Int64)} {r : Int32} (h : g_132 n dp (z, kd, Rf) 0 I L i1 0 0 0 0 = some (r, I1, L1)) : Ct X d 132 0 0 [.ref 24, .int i1] (z, kd, I, L, Rf) (AI (fun x τ => x = r ∧ τ = (z, kd, I1, L1, Rf))) :=
  Ct_of mu_132 (Nat.le_of_ble_eq_true rfl) ((w_132 X hS n dp d hd I L i1 0 0 0 0 _ _ _).1 h)

/-! 135 CutFloor$Planner.groupInFirst(I)I -/
set_option maxHeartbeats 4000000 in
set_option maxRecDepth 100000 in
def g_135 : Nat → Nat → EN → Nat → (Nat → Nat → Int32) → (Nat → Nat → Int64) → Int32 →  Option (Int32 × (Nat → Nat → Int32) × (Nat → Nat → Int64))
  | 0, _, _, _, _, _, _ => none
  | n + 1, dp, e, lab, I, L, i1 =>
    if lab = 0 then (if 1 ≤ dp then (g_121 n (dp - 1) e 0 I L i1).bind (fun ⟨x0_12, I0_12, L0_12⟩ => (if 0 ≤ i1 ∧ (Int32.toNatClampNeg i1) < 8 then (if 0 ≤ ((x0_12 * (64 : Int32)) + (I0_12 55 (Int32.toNatClampNeg i1))) ∧ (Int32.toNatClampNeg ((x0_12 * (64 : Int32)) + (I0_12 55 (Int32.toNatClampNeg i1)))) < 192 then (some ((I0_12 31 (Int32.toNatClampNeg ((x0_12 * (64 : Int32)) + (I0_12 55 (Int32.toNatClampNeg i1))))), I0_12, L0_12)) else none) else none)) else none)
    else none
set_option maxRecDepth 100000 in
theorem e_135_0 (n dp : Nat) (e : EN) (I : (Nat → Nat → Int32)) (L : (Nat → Nat → Int64)) (i1 : Int32) : g_135 (n + 1) dp e 0 I L i1 = (if 1 ≤ dp then (g_121 n (dp - 1) e 0 I L i1).bind (fun ⟨x0_12, I0_12, L0_12⟩ => (if 0 ≤ i1 ∧ (Int32.toNatClampNeg i1) < 8 then (if 0 ≤ ((x0_12 * (64 : Int32)) + (I0_12 55 (Int32.toNatClampNeg i1))) ∧ (Int32.toNatClampNeg ((x0_12 * (64 : Int32)) + (I0_12 55 (Int32.toNatClampNeg i1)))) < 192 then (some ((I0_12 31 (Int32.toNatClampNeg ((x0_12 * (64 : Int32)) + (I0_12 55 (Int32.toNatClampNeg i1))))), I0_12, L0_12)) else none) else none)) else none) := by rw [g_135.eq_2, if_pos (show (0 : Nat) = 0 from rfl)]
set_option maxHeartbeats 8000000 in
set_option maxRecDepth 100000 in
theorem w_135 (X : GX) {z : Nat} {kd : Nat → Nat × Nat} {Rf : Nat → Nat → Option Nat} (hS : Sh z kd Rf) : ∀ (n dp d : Nat), dp ≤ d → ∀ (I : (Nat → Nat → Int32)) (L : (Nat → Nat → Int64)) (i1 : Int32) (r : Int32) (I1 : (Nat → Nat → Int32)) (L1 : (Nat → Nat → Int64)), (g_135 n dp (z, kd, Rf) 0 I L i1 = some (r, I1, L1) → K X d 135 0 0 (AI (fun x τ => x = r ∧ τ = (z, kd, I1, L1, Rf))) 0 [some (.ref 24), some (.int i1)] [] (z, kd, I, L, Rf) 0 0) := by
  intro n
  induction n with
  | zero => intro dp d hdp I L i1 r I1 L1; exact fun h => by cases h
  | succ n ih =>
    intro dp d hdp I L i1 r I1 L1
    · intro h
      rw [e_135_0] at h
      refine K_of b_135_0 h_135_0 ?_
      refine q_aload rfl ?_
      refine q_getRs (c0 := 7) (j := 3) rfl rfl (zl hS 24 (by decide)) (sk hS 24 (by decide) rfl) rfl (by decide) (r_24_3 hS) ?_
      refine q_getRs (c0 := 6) (j := 4) rfl rfl (zl hS 26 (by decide)) (sk hS 26 (by decide) rfl) rfl (by decide) (r_26_4 hS) ?_
      refine q_aload rfl ?_
      refine q_getRs (c0 := 7) (j := 0) rfl rfl (zl hS 24 (by decide)) (sk hS 24 (by decide) rfl) rfl (by decide) (r_24_0 hS) ?_
      refine q_iload rfl ?_
      obtain ⟨d_12, h⟩ := ite_some h
      obtain ⟨⟨x0_12, I0_12, L0_12⟩, e_12, h⟩ := Option.bind_eq_some_iff.mp h
      dsimp only at h
      refine q_fv2I (a_121 X hS (d := d - 1) (by omega) e_12) (by omega) (Nat.le_refl _) (Nat.le_refl _) rfl (Nat.le_of_ble_eq_true rfl) ⟨(zl hS 1 (by decide)), congrArg Prod.fst (sk hS 1 (by decide) rfl), by decide⟩ ?_
      refine q_iconst (64) (by decide) ?_
      refine q_imul ?_
      refine q_aload rfl ?_
      refine q_getRs (c0 := 7) (j := 9) rfl rfl (zl hS 24 (by decide)) (sk hS 24 (by decide) rfl) rfl (by decide) (r_24_9 hS) ?_
      refine q_iload rfl ?_
      obtain ⟨⟨u_23, v_23⟩, h⟩ := ite_some h
      refine q_ialN (Int32.toNatClampNeg i1) (nx u_23) (zl hS 55 (by decide)) (sk hS 55 (by decide) rfl) v_23 (by decide) ?_
      refine q_iadd ?_
      obtain ⟨⟨u_25, v_25⟩, h⟩ := ite_some h
      refine q_ialN (Int32.toNatClampNeg ((x0_12 * (64 : Int32)) + (I0_12 55 (Int32.toNatClampNeg i1)))) (nx u_25) (zl hS 31 (by decide)) (sk hS 31 (by decide) rfl) v_25 (by decide) ?_
      cases h
      exact q_iret rfl (Nat.le_refl _) (Nat.le_refl _) ⟨rfl, rfl⟩
theorem a_135 (X : GX) {z : Nat} {kd : Nat → Nat × Nat} {Rf : Nat → Nat → Option Nat} (hS : Sh z kd Rf) {n dp d : Nat} (hd : dp ≤ d) {I : (Nat → Nat → Int32)} {L : (Nat → Nat → Int64)} {i1 : Int32} {I1 : (Nat → Nat → Int32)} {L1 : (Nat → Nat → Int64)} {r : Int32} (h : g_135 n dp (z, kd, Rf) 0 I L i1 = some (r, I1, L1)) : Ct X d 135 0 0 [.ref 24, .int i1] (z, kd, I, L, Rf) (AI (fun x τ => x = r ∧ τ = (z, kd, I1, L1, Rf))) :=
  Ct_of mu_135 (Nat.le_of_ble_eq_true rfl) ((w_135 X hS n dp d hd I L i1 _ _ _) h)

/-! 136 CutFloor.give(II)I -/
set_option maxHeartbeats 4000000 in
set_option maxRecDepth 100000 in
def g_136 : Nat → Nat → EN → Nat → (Nat → Nat → Int32) → (Nat → Nat → Int64) → Int32 → Int32 →  Option (Int32 × (Nat → Nat → Int32) × (Nat → Nat → Int64))
  | 0, _, _, _, _, _, _, _ => none
  | n + 1, dp, e, lab, I, L, i1, i2 =>
    if lab = 0 then (if 1 ≤ dp then (g_14 n (dp - 1) e 0 I L i1 (0 : Int32) (7 : Int32)).bind (fun ⟨x0_4, I0_4, L0_4⟩ => (if x0_4 = 0 then (if 1 ≤ dp then (g_15 n (dp - 1) e 0 I0_4 L0_4 (-1 : Int32)).bind (fun ⟨x1_22, I1_22, L1_22⟩ => (some (x1_22, I1_22, L1_22))) else none) else (if 1 ≤ dp then (g_14 n (dp - 1) e 0 I0_4 L0_4 i2 (0 : Int32) (63 : Int32)).bind (fun ⟨x1_14, I1_14, L1_14⟩ => (if x1_14 = 0 then (if 1 ≤ dp then (g_15 n (dp - 1) e 0 I1_14 L1_14 (-1 : Int32)).bind (fun ⟨x2_22, I2_22, L2_22⟩ => (some (x2_22, I2_22, L2_22))) else none) else (if 0 ≤ i1 ∧ (Int32.toNatClampNeg i1) < 8 then (stI (I1_14 6 (Int32.toNatClampNeg i1)) (fun v_35 => (if 0 ≤ i1 ∧ (Int32.toNatClampNeg i1) < 8 then (stI (u2 I1_14 6 (Int32.toNatClampNeg i1) i2) (fun I_45 => (if 1 ≤ dp then (g_19 n (dp - 1) e 0 I_45 L1_14 v_35).bind (fun ⟨x2_48, I2_48, L2_48⟩ => (some (x2_48, I2_48, L2_48))) else none))) else none))) else none))) else none))) else none)
    else none
set_option maxRecDepth 100000 in
theorem e_136_0 (n dp : Nat) (e : EN) (I : (Nat → Nat → Int32)) (L : (Nat → Nat → Int64)) (i1 : Int32) (i2 : Int32) : g_136 (n + 1) dp e 0 I L i1 i2 = (if 1 ≤ dp then (g_14 n (dp - 1) e 0 I L i1 (0 : Int32) (7 : Int32)).bind (fun ⟨x0_4, I0_4, L0_4⟩ => (if x0_4 = 0 then (if 1 ≤ dp then (g_15 n (dp - 1) e 0 I0_4 L0_4 (-1 : Int32)).bind (fun ⟨x1_22, I1_22, L1_22⟩ => (some (x1_22, I1_22, L1_22))) else none) else (if 1 ≤ dp then (g_14 n (dp - 1) e 0 I0_4 L0_4 i2 (0 : Int32) (63 : Int32)).bind (fun ⟨x1_14, I1_14, L1_14⟩ => (if x1_14 = 0 then (if 1 ≤ dp then (g_15 n (dp - 1) e 0 I1_14 L1_14 (-1 : Int32)).bind (fun ⟨x2_22, I2_22, L2_22⟩ => (some (x2_22, I2_22, L2_22))) else none) else (if 0 ≤ i1 ∧ (Int32.toNatClampNeg i1) < 8 then (stI (I1_14 6 (Int32.toNatClampNeg i1)) (fun v_35 => (if 0 ≤ i1 ∧ (Int32.toNatClampNeg i1) < 8 then (stI (u2 I1_14 6 (Int32.toNatClampNeg i1) i2) (fun I_45 => (if 1 ≤ dp then (g_19 n (dp - 1) e 0 I_45 L1_14 v_35).bind (fun ⟨x2_48, I2_48, L2_48⟩ => (some (x2_48, I2_48, L2_48))) else none))) else none))) else none))) else none))) else none) := by rw [g_136.eq_2, if_pos (show (0 : Nat) = 0 from rfl)]
set_option maxHeartbeats 8000000 in
set_option maxRecDepth 100000 in
theorem w_136 (X : GX) {z : Nat} {kd : Nat → Nat × Nat} {Rf : Nat → Nat → Option Nat} (hS : Sh z kd Rf) : ∀ (n dp d : Nat), dp ≤ d → ∀ (I : (Nat → Nat → Int32)) (L : (Nat → Nat → Int64)) (i1 : Int32) (i2 : Int32) (r : Int32) (I1 : (Nat → Nat → Int32)) (L1 : (Nat → Nat → Int64)), (g_136 n dp (z, kd, Rf) 0 I L i1 i2 = some (r, I1, L1) → K X d 136 0 0 (AI (fun x τ => x = r ∧ τ = (z, kd, I1, L1, Rf))) 0 [some (.ref 0), some (.int i1), some (.int i2), none] [] (z, kd, I, L, Rf) 0 0) := by
  intro n
  induction n with
  | zero => intro dp d hdp I L i1 i2 r I1 L1; exact fun h => by cases h
  | succ n ih =>
    intro dp d hdp I L i1 i2 r I1 L1
    · intro h
      rw [e_136_0] at h
      refine K_of b_136_0 h_136_0 ?_
      refine q_iload rfl ?_
      refine q_iconst (0) (by decide) ?_
      refine q_iconst (7) (by decide) ?_
      obtain ⟨d_4, h⟩ := ite_some h
      obtain ⟨⟨x0_4, I0_4, L0_4⟩, e_4, h⟩ := Option.bind_eq_some_iff.mp h
      dsimp only at h
      refine q_fs3I (a_14 X hS (d := d - 1) (by omega) e_4) (by omega) (Nat.le_refl _) (Nat.le_refl _) rfl (Nat.le_of_ble_eq_true rfl) ?_
      refine q_if_eq (fun c_7 => ?_) (fun c_7 => ?_)
      · rw [if_pos c_7] at h
        refine K_of b_136_20 h_136_20 ?_
        refine q_aload rfl ?_
        refine q_iconst (-1) (by decide) ?_
        obtain ⟨d_22, h⟩ := ite_some h
        obtain ⟨⟨x1_22, I1_22, L1_22⟩, e_22, h⟩ := Option.bind_eq_some_iff.mp h
        dsimp only at h
        refine q_fv2I (a_15 X hS (d := d - 1) (by omega) e_22) (by omega) (Nat.le_refl _) (Nat.le_refl _) rfl (Nat.le_of_ble_eq_true rfl) ⟨(zl hS 0 (by decide)), congrArg Prod.fst (sk hS 0 (by decide) rfl), by decide⟩ ?_
        cases h
        exact q_iret rfl (Nat.le_refl _) (Nat.le_refl _) ⟨rfl, rfl⟩
      · rw [if_neg c_7] at h
        refine q_iload rfl ?_
        refine q_iconst (0) (by decide) ?_
        refine q_iconst (63) (by decide) ?_
        obtain ⟨d_14, h⟩ := ite_some h
        obtain ⟨⟨x1_14, I1_14, L1_14⟩, e_14, h⟩ := Option.bind_eq_some_iff.mp h
        dsimp only at h
        refine q_fs3I (a_14 X hS (d := d - 1) (by omega) e_14) (by omega) (Nat.le_refl _) (Nat.le_refl _) rfl (Nat.le_of_ble_eq_true rfl) ?_
        refine q_if_ne (fun c_17 => ?_) (fun c_17 => ?_)
        · rw [if_neg c_17] at h
          refine K_of b_136_26 h_136_26 ?_
          refine q_aload rfl ?_
          refine q_getRs (c0 := 11) (j := 0) rfl rfl (zl hS 0 (by decide)) (sk hS 0 (by decide) rfl) rfl (by decide) (r_0_0 hS) ?_
          refine q_getRs (c0 := 3) (j := 4) rfl rfl (zl hS 1 (by decide)) (sk hS 1 (by decide) rfl) rfl (by decide) (r_1_4 hS) ?_
          refine q_iload rfl ?_
          obtain ⟨⟨u_34, v_34⟩, h⟩ := ite_some h
          refine q_ialN (Int32.toNatClampNeg i1) (nx u_34) (zl hS 6 (by decide)) (sk hS 6 (by decide) rfl) v_34 (by decide) ?_
          obtain ⟨v_35, nv_35, h⟩ := stI_some h
          refine q_eqi nv_35.symm ?_
          refine q_istore (ls1 := [some (.ref 0), some (.int i1), some (.int i2), some (.int v_35)]) (Nat.le_of_ble_eq_true rfl) rfl ?_
          refine q_aload rfl ?_
          refine q_getRs (c0 := 11) (j := 0) rfl rfl (zl hS 0 (by decide)) (sk hS 0 (by decide) rfl) rfl (by decide) (r_0_0 hS) ?_
          refine q_getRs (c0 := 3) (j := 4) rfl rfl (zl hS 1 (by decide)) (sk hS 1 (by decide) rfl) rfl (by decide) (r_1_4 hS) ?_
          refine q_iload rfl ?_
          refine q_iload rfl ?_
          obtain ⟨⟨u_45, v_45⟩, h⟩ := ite_some h
          refine q_iasN (Int32.toNatClampNeg i1) (nx u_45) (zl hS 6 (by decide)) (sk hS 6 (by decide) rfl) v_45 (by decide) ?_
          obtain ⟨I_45, nI_45, h⟩ := stI_some h
          refine q_nI nI_45 ?_
          refine q_aload rfl ?_
          refine q_iload rfl ?_
          obtain ⟨d_48, h⟩ := ite_some h
          obtain ⟨⟨x2_48, I2_48, L2_48⟩, e_48, h⟩ := Option.bind_eq_some_iff.mp h
          dsimp only at h
          refine q_fv2I (a_19 X hS (d := d - 1) (by omega) e_48) (by omega) (Nat.le_refl _) (Nat.le_refl _) rfl (Nat.le_of_ble_eq_true rfl) ⟨(zl hS 0 (by decide)), congrArg Prod.fst (sk hS 0 (by decide) rfl), by decide⟩ ?_
          cases h
          exact q_iret rfl (Nat.le_refl _) (Nat.le_refl _) ⟨rfl, rfl⟩
        · rw [if_pos c_17] at h
          refine q_end ?_
          refine K_of b_136_20 h_136_20 ?_
          refine q_aload rfl ?_
          refine q_iconst (-1) (by decide) ?_
          obtain ⟨d_22, h⟩ := ite_some h
          obtain ⟨⟨x2_22, I2_22, L2_22⟩, e_22, h⟩ := Option.bind_eq_some_iff.mp h
          dsimp only at h
          refine q_fv2I (a_15 X hS (d := d - 1) (by omega) e_22) (by omega) (Nat.le_refl _) (Nat.le_refl _) rfl (Nat.le_of_ble_eq_true rfl) ⟨(zl hS 0 (by decide)), congrArg Prod.fst (sk hS 0 (by decide) rfl), by decide⟩ ?_
          cases h
          exact q_iret rfl (Nat.le_refl _) (Nat.le_refl _) ⟨rfl, rfl⟩
theorem a_136 (X : GX) {z : Nat} {kd : Nat → Nat × Nat} {Rf : Nat → Nat → Option Nat} (hS : Sh z kd Rf) {n dp d : Nat} (hd : dp ≤ d) {I : (Nat → Nat → Int32)} {L : (Nat → Nat → Int64)} {i1 : Int32} {i2 : Int32} {I1 : (Nat → Nat → Int32)} {L1 : (Nat → Nat → Int64)} {r : Int32} (h : g_136 n dp (z, kd, Rf) 0 I L i1 i2 = some (r, I1, L1)) : Ct X d 136 0 0 [.ref 0, .int i1, .int i2] (z, kd, I, L, Rf) (AI (fun x τ => x = r ∧ τ = (z, kd, I1, L1, Rf))) :=
  Ct_of mu_136 (Nat.le_of_ble_eq_true rfl) ((w_136 X hS n dp d hd I L i1 i2 _ _ _) h)

/-! 140 CutFloor$Planner.toldCutting(I)I -/
set_option maxHeartbeats 4000000 in
set_option maxRecDepth 100000 in
def g_140 : Nat → Nat → EN → Nat → (Nat → Nat → Int32) → (Nat → Nat → Int64) → Int32 →  Option (Int32 × (Nat → Nat → Int32) × (Nat → Nat → Int64))
  | 0, _, _, _, _, _, _ => none
  | n + 1, dp, e, lab, I, L, i1 =>
    if lab = 0 then (if 0 ≤ i1 ∧ (Int32.toNatClampNeg i1) < 8 then (stI (I 6 (Int32.toNatClampNeg i1)) (fun v_9 => (if 1 ≤ dp then (g_121 n (dp - 1) e 0 I L i1).bind (fun ⟨x0_20, I0_20, L0_20⟩ => (if 0 ≤ x0_20 ∧ (Int32.toNatClampNeg x0_20) < 3 then (e.2.2 25 (Int32.toNatClampNeg x0_20)).bind (fun b_23 => (if b_23 < e.1 ∧ (e.2.1 b_23).1 = 2 then (if (I0_20 b_23 4) ≤ v_9 then (some ((0 : Int32), I0_20, L0_20)) else (some (v_9, I0_20, L0_20))) else none)) else none)) else none))) else none)
    else none
set_option maxRecDepth 100000 in
theorem e_140_0 (n dp : Nat) (e : EN) (I : (Nat → Nat → Int32)) (L : (Nat → Nat → Int64)) (i1 : Int32) : g_140 (n + 1) dp e 0 I L i1 = (if 0 ≤ i1 ∧ (Int32.toNatClampNeg i1) < 8 then (stI (I 6 (Int32.toNatClampNeg i1)) (fun v_9 => (if 1 ≤ dp then (g_121 n (dp - 1) e 0 I L i1).bind (fun ⟨x0_20, I0_20, L0_20⟩ => (if 0 ≤ x0_20 ∧ (Int32.toNatClampNeg x0_20) < 3 then (e.2.2 25 (Int32.toNatClampNeg x0_20)).bind (fun b_23 => (if b_23 < e.1 ∧ (e.2.1 b_23).1 = 2 then (if (I0_20 b_23 4) ≤ v_9 then (some ((0 : Int32), I0_20, L0_20)) else (some (v_9, I0_20, L0_20))) else none)) else none)) else none))) else none) := by rw [g_140.eq_2, if_pos (show (0 : Nat) = 0 from rfl)]
set_option maxHeartbeats 8000000 in
set_option maxRecDepth 100000 in
theorem w_140 (X : GX) {z : Nat} {kd : Nat → Nat × Nat} {Rf : Nat → Nat → Option Nat} (hS : Sh z kd Rf) : ∀ (n dp d : Nat), dp ≤ d → ∀ (I : (Nat → Nat → Int32)) (L : (Nat → Nat → Int64)) (i1 : Int32) (r : Int32) (I1 : (Nat → Nat → Int32)) (L1 : (Nat → Nat → Int64)), (g_140 n dp (z, kd, Rf) 0 I L i1 = some (r, I1, L1) → K X d 140 0 0 (AI (fun x τ => x = r ∧ τ = (z, kd, I1, L1, Rf))) 0 [some (.ref 24), some (.int i1), none] [] (z, kd, I, L, Rf) 0 0) := by
  intro n
  induction n with
  | zero => intro dp d hdp I L i1 r I1 L1; exact fun h => by cases h
  | succ n ih =>
    intro dp d hdp I L i1 r I1 L1
    · intro h
      rw [e_140_0] at h
      refine K_of b_140_0 h_140_0 ?_
      refine q_aload rfl ?_
      refine q_getRs (c0 := 7) (j := 0) rfl rfl (zl hS 24 (by decide)) (sk hS 24 (by decide) rfl) rfl (by decide) (r_24_0 hS) ?_
      refine q_getRs (c0 := 3) (j := 4) rfl rfl (zl hS 1 (by decide)) (sk hS 1 (by decide) rfl) rfl (by decide) (r_1_4 hS) ?_
      refine q_iload rfl ?_
      obtain ⟨⟨u_8, v_8⟩, h⟩ := ite_some h
      refine q_ialN (Int32.toNatClampNeg i1) (nx u_8) (zl hS 6 (by decide)) (sk hS 6 (by decide) rfl) v_8 (by decide) ?_
      obtain ⟨v_9, nv_9, h⟩ := stI_some h
      refine q_eqi nv_9.symm ?_
      refine q_istore (ls1 := [some (.ref 24), some (.int i1), some (.int v_9)]) (Nat.le_of_ble_eq_true rfl) rfl ?_
      refine q_iload rfl ?_
      refine q_aload rfl ?_
      refine q_getRs (c0 := 7) (j := 2) rfl rfl (zl hS 24 (by decide)) (sk hS 24 (by decide) rfl) rfl (by decide) (r_24_2 hS) ?_
      refine q_aload rfl ?_
      refine q_getRs (c0 := 7) (j := 0) rfl rfl (zl hS 24 (by decide)) (sk hS 24 (by decide) rfl) rfl (by decide) (r_24_0 hS) ?_
      refine q_iload rfl ?_
      obtain ⟨d_20, h⟩ := ite_some h
      obtain ⟨⟨x0_20, I0_20, L0_20⟩, e_20, h⟩ := Option.bind_eq_some_iff.mp h
      dsimp only at h
      refine q_fv2I (a_121 X hS (d := d - 1) (by omega) e_20) (by omega) (Nat.le_refl _) (Nat.le_refl _) rfl (Nat.le_of_ble_eq_true rfl) ⟨(zl hS 1 (by decide)), congrArg Prod.fst (sk hS 1 (by decide) rfl), by decide⟩ ?_
      obtain ⟨⟨u_23, v_23⟩, h⟩ := ite_some h
      obtain ⟨b_23, r_23, h⟩ := Option.bind_eq_some_iff.mp h
      refine q_aald (zl hS 25 (by decide)) (sk hS 25 (by decide) rfl) (by decide) (in_of u_23 v_23) r_23 ?_
      obtain ⟨⟨z_24, k_24⟩, h⟩ := ite_some h
      refine q_getI (c0 := 2) (j := 4) rfl rfl z_24 (fst_eq k_24) (Or.inl rfl) (by decide) ?_
      refine q_icmp_ge (fun c_27 => ?_) (fun c_27 => ?_)
      · rw [if_pos c_27] at h
        refine K_of b_140_34 h_140_34 ?_
        refine q_iconst (0) (by decide) ?_
        refine q_end ?_
        refine K_of b_140_35 h_140_35 ?_
        cases h
        exact q_iret rfl (Nat.le_refl _) (Nat.le_refl _) ⟨rfl, rfl⟩
      · rw [if_neg c_27] at h
        refine q_iload rfl ?_
        refine q_goto ?_
        refine K_of b_140_35 h_140_35 ?_
        cases h
        exact q_iret rfl (Nat.le_refl _) (Nat.le_refl _) ⟨rfl, rfl⟩
theorem a_140 (X : GX) {z : Nat} {kd : Nat → Nat × Nat} {Rf : Nat → Nat → Option Nat} (hS : Sh z kd Rf) {n dp d : Nat} (hd : dp ≤ d) {I : (Nat → Nat → Int32)} {L : (Nat → Nat → Int64)} {i1 : Int32} {I1 : (Nat → Nat → Int32)} {L1 : (Nat → Nat → Int64)} {r : Int32} (h : g_140 n dp (z, kd, Rf) 0 I L i1 = some (r, I1, L1)) : Ct X d 140 0 0 [.ref 24, .int i1] (z, kd, I, L, Rf) (AI (fun x τ => x = r ∧ τ = (z, kd, I1, L1, Rf))) :=
  Ct_of mu_140 (Nat.le_of_ble_eq_true rfl) ((w_140 X hS n dp d hd I L i1 _ _ _) h)

/-! 139 CutFloor$Planner.manyTold(I)I -/
set_option maxHeartbeats 4000000 in
set_option maxRecDepth 100000 in
def g_139 : Nat → Nat → EN → Nat → (Nat → Nat → Int32) → (Nat → Nat → Int64) → Int32 → Int32 → Int32 → Int32 →  Option (Int32 × (Nat → Nat → Int32) × (Nat → Nat → Int64))
  | 0, _, _, _, _, _, _, _, _, _ => none
  | n + 1, dp, e, lab, I, L, i1, i2, i3, i4 =>
    if lab = 0 then (if 1 ≤ dp then (g_16 n (dp - 1) e 0 I L).bind (fun ⟨x0_6, I0_6, L0_6⟩ => (g_139 n dp e 1 I0_6 L0_6 i1 (0 : Int32) x0_6 (0 : Int32))) else none)
    else if lab = 1 then (if i3 ≤ i4 then (some (i2, I, L)) else (if 1 ≤ dp then (g_121 n (dp - 1) e 0 I L i4).bind (fun ⟨x0_30, I0_30, L0_30⟩ => (if 0 ≤ x0_30 ∧ (Int32.toNatClampNeg x0_30) < 3 then (e.2.2 25 (Int32.toNatClampNeg x0_30)).bind (fun b_33 => (if b_33 < e.1 ∧ (e.2.1 b_33).1 = 2 then ((e.2.2 b_33 1).bind (fun b_34 => (if 1 ≤ dp then (g_140 n (dp - 1) e 0 I0_30 L0_30 i4).bind (fun ⟨x1_40, I1_40, L1_40⟩ => (if (b_34 < e.1 ∧ (e.2.1 b_34).1 = 13 ∧ (e.2.1 b_34).2 < 2 ^ 31) ∧ 0 ≤ ((x1_40 * (10 : Int32)) + i1) ∧ (Int32.toNatClampNeg ((x1_40 * (10 : Int32)) + i1)) < (e.2.1 b_34).2 then (stI (i2 + (I1_40 b_34 (Int32.toNatClampNeg ((x1_40 * (10 : Int32)) + i1)))) (fun v_50 => (g_139 n dp e 1 I1_40 L1_40 i1 v_50 i3 (i4 + Int32.ofInt (1))))) else none)) else none))) else none)) else none)) else none))
    else none
set_option maxRecDepth 100000 in
theorem e_139_0 (n dp : Nat) (e : EN) (I : (Nat → Nat → Int32)) (L : (Nat → Nat → Int64)) (i1 : Int32) (i2 : Int32) (i3 : Int32) (i4 : Int32) : g_139 (n + 1) dp e 0 I L i1 i2 i3 i4 = (if 1 ≤ dp then (g_16 n (dp - 1) e 0 I L).bind (fun ⟨x0_6, I0_6, L0_6⟩ => (g_139 n dp e 1 I0_6 L0_6 i1 (0 : Int32) x0_6 (0 : Int32))) else none) := by rw [g_139.eq_2, if_pos (show (0 : Nat) = 0 from rfl)]
set_option maxRecDepth 100000 in
theorem e_139_1 (n dp : Nat) (e : EN) (I : (Nat → Nat → Int32)) (L : (Nat → Nat → Int64)) (i1 : Int32) (i2 : Int32) (i3 : Int32) (i4 : Int32) : g_139 (n + 1) dp e 1 I L i1 i2 i3 i4 = (if i3 ≤ i4 then (some (i2, I, L)) else (if 1 ≤ dp then (g_121 n (dp - 1) e 0 I L i4).bind (fun ⟨x0_30, I0_30, L0_30⟩ => (if 0 ≤ x0_30 ∧ (Int32.toNatClampNeg x0_30) < 3 then (e.2.2 25 (Int32.toNatClampNeg x0_30)).bind (fun b_33 => (if b_33 < e.1 ∧ (e.2.1 b_33).1 = 2 then ((e.2.2 b_33 1).bind (fun b_34 => (if 1 ≤ dp then (g_140 n (dp - 1) e 0 I0_30 L0_30 i4).bind (fun ⟨x1_40, I1_40, L1_40⟩ => (if (b_34 < e.1 ∧ (e.2.1 b_34).1 = 13 ∧ (e.2.1 b_34).2 < 2 ^ 31) ∧ 0 ≤ ((x1_40 * (10 : Int32)) + i1) ∧ (Int32.toNatClampNeg ((x1_40 * (10 : Int32)) + i1)) < (e.2.1 b_34).2 then (stI (i2 + (I1_40 b_34 (Int32.toNatClampNeg ((x1_40 * (10 : Int32)) + i1)))) (fun v_50 => (g_139 n dp e 1 I1_40 L1_40 i1 v_50 i3 (i4 + Int32.ofInt (1))))) else none)) else none))) else none)) else none)) else none)) := by rw [g_139.eq_2, if_neg (show ¬ ((1 : Nat) = 0) by decide), if_pos (show (1 : Nat) = 1 from rfl)]
set_option maxHeartbeats 8000000 in
set_option maxRecDepth 100000 in
theorem w_139 (X : GX) {z : Nat} {kd : Nat → Nat × Nat} {Rf : Nat → Nat → Option Nat} (hS : Sh z kd Rf) : ∀ (n dp d : Nat), dp ≤ d → ∀ (I : (Nat → Nat → Int32)) (L : (Nat → Nat → Int64)) (i1 : Int32) (i2 : Int32) (i3 : Int32) (i4 : Int32) (r : Int32) (I1 : (Nat → Nat → Int32)) (L1 : (Nat → Nat → Int64)), (g_139 n dp (z, kd, Rf) 0 I L i1 i2 i3 i4 = some (r, I1, L1) → K X d 139 0 0 (AI (fun x τ => x = r ∧ τ = (z, kd, I1, L1, Rf))) 0 [some (.ref 24), some (.int i1), none, none, none] [] (z, kd, I, L, Rf) 0 0) ∧
    (g_139 n dp (z, kd, Rf) 1 I L i1 i2 i3 i4 = some (r, I1, L1) → K X d 139 0 0 (AI (fun x τ => x = r ∧ τ = (z, kd, I1, L1, Rf))) 13 [some (.ref 24), some (.int i1), some (.int i2), some (.int i3), some (.int i4)] [] (z, kd, I, L, Rf) 0 0) := by
  intro n
  induction n with
  | zero => intro dp d hdp I L i1 i2 i3 i4 r I1 L1; exact ⟨(fun h => by cases h), (fun h => by cases h)⟩
  | succ n ih =>
    intro dp d hdp I L i1 i2 i3 i4 r I1 L1
    refine ⟨?_, ?_⟩
    · intro h
      rw [e_139_0] at h
      refine K_of b_139_0 h_139_0 ?_
      refine q_iconst (0) (by decide) ?_
      refine q_istore (ls1 := [some (.ref 24), some (.int i1), some (.int (0 : Int32)), none, none]) (Nat.le_of_ble_eq_true rfl) rfl ?_
      refine q_aload rfl ?_
      refine q_getRs (c0 := 7) (j := 0) rfl rfl (zl hS 24 (by decide)) (sk hS 24 (by decide) rfl) rfl (by decide) (r_24_0 hS) ?_
      obtain ⟨d_6, h⟩ := ite_some h
      obtain ⟨⟨x0_6, I0_6, L0_6⟩, e_6, h⟩ := Option.bind_eq_some_iff.mp h
      dsimp only at h
      refine q_fv1I (a_16 X hS (d := d - 1) (by omega) e_6) (by omega) (Nat.le_refl _) (Nat.le_refl _) rfl (Nat.le_of_ble_eq_true rfl) ⟨(zl hS 1 (by decide)), congrArg Prod.fst (sk hS 1 (by decide) rfl), by decide⟩ ?_
      refine q_istore (ls1 := [some (.ref 24), some (.int i1), some (.int (0 : Int32)), some (.int x0_6), none]) (Nat.le_of_ble_eq_true rfl) rfl ?_
      refine q_iconst (0) (by decide) ?_
      refine q_istore (ls1 := [some (.ref 24), some (.int i1), some (.int (0 : Int32)), some (.int x0_6), some (.int (0 : Int32))]) (Nat.le_of_ble_eq_true rfl) rfl ?_
      refine q_end ?_
      exact (ih dp d hdp _ _ i1 (0 : Int32) x0_6 (0 : Int32) _ _ _).2 h
    · intro h
      rw [e_139_1] at h
      refine K_of b_139_13 h_139_13 ?_
      refine q_iload rfl ?_
      refine q_iload rfl ?_
      refine q_icmp_ge (fun c_16 => ?_) (fun c_16 => ?_)
      · rw [if_pos c_16] at h
        refine K_of b_139_57 h_139_57 ?_
        refine q_iload rfl ?_
        cases h
        exact q_iret rfl (Nat.le_refl _) (Nat.le_refl _) ⟨rfl, rfl⟩
      · rw [if_neg c_16] at h
        refine q_iload rfl ?_
        refine q_aload rfl ?_
        refine q_getRs (c0 := 7) (j := 2) rfl rfl (zl hS 24 (by decide)) (sk hS 24 (by decide) rfl) rfl (by decide) (r_24_2 hS) ?_
        refine q_aload rfl ?_
        refine q_getRs (c0 := 7) (j := 0) rfl rfl (zl hS 24 (by decide)) (sk hS 24 (by decide) rfl) rfl (by decide) (r_24_0 hS) ?_
        refine q_iload rfl ?_
        obtain ⟨d_30, h⟩ := ite_some h
        obtain ⟨⟨x0_30, I0_30, L0_30⟩, e_30, h⟩ := Option.bind_eq_some_iff.mp h
        dsimp only at h
        refine q_fv2I (a_121 X hS (d := d - 1) (by omega) e_30) (by omega) (Nat.le_refl _) (Nat.le_refl _) rfl (Nat.le_of_ble_eq_true rfl) ⟨(zl hS 1 (by decide)), congrArg Prod.fst (sk hS 1 (by decide) rfl), by decide⟩ ?_
        obtain ⟨⟨u_33, v_33⟩, h⟩ := ite_some h
        obtain ⟨b_33, r_33, h⟩ := Option.bind_eq_some_iff.mp h
        refine q_aald (zl hS 25 (by decide)) (sk hS 25 (by decide) rfl) (by decide) (in_of u_33 v_33) r_33 ?_
        obtain ⟨⟨z_34, k_34⟩, h⟩ := ite_some h
        obtain ⟨b_34, r_34, h⟩ := Option.bind_eq_some_iff.mp h
        refine q_getRs (c0 := 2) (j := 1) rfl rfl z_34 (fst_eq k_34) rfl (by decide) r_34 ?_
        refine q_aload rfl ?_
        refine q_iload rfl ?_
        obtain ⟨d_40, h⟩ := ite_some h
        obtain ⟨⟨x1_40, I1_40, L1_40⟩, e_40, h⟩ := Option.bind_eq_some_iff.mp h
        dsimp only at h
        refine q_fv2I (a_140 X hS (d := d - 1) (by omega) e_40) (by omega) (Nat.le_refl _) (Nat.le_refl _) rfl (Nat.le_of_ble_eq_true rfl) ⟨(zl hS 24 (by decide)), congrArg Prod.fst (sk hS 24 (by decide) rfl), by decide⟩ ?_
        refine q_iconst (10) (by decide) ?_
        refine q_imul ?_
        refine q_iload rfl ?_
        refine q_iadd ?_
        obtain ⟨⟨⟨z_48, k_48, m_48⟩, u_48, v_48⟩, h⟩ := ite_some h
        refine q_ialN (Int32.toNatClampNeg ((x1_40 * (10 : Int32)) + i1)) (nx u_48) z_48 (fst_eq k_48) v_48 m_48 ?_
        refine q_iadd ?_
        obtain ⟨v_50, nv_50, h⟩ := stI_some h
        refine q_eqi nv_50.symm ?_
        refine q_istore (ls1 := [some (.ref 24), some (.int i1), some (.int v_50), some (.int i3), some (.int i4)]) (Nat.le_of_ble_eq_true rfl) rfl ?_
        refine q_iinc (ls1 := [some (.ref 24), some (.int i1), some (.int v_50), some (.int i3), some (.int (i4 + Int32.ofInt (1)))]) rfl rfl ?_
        refine q_goto ?_
        exact (ih dp d hdp _ _ i1 v_50 i3 (i4 + Int32.ofInt (1)) _ _ _).2 h
theorem a_139 (X : GX) {z : Nat} {kd : Nat → Nat × Nat} {Rf : Nat → Nat → Option Nat} (hS : Sh z kd Rf) {n dp d : Nat} (hd : dp ≤ d) {I : (Nat → Nat → Int32)} {L : (Nat → Nat → Int64)} {i1 : Int32} {I1 : (Nat → Nat → Int32)} {L1 : (Nat → Nat → Int64)} {r : Int32} (h : g_139 n dp (z, kd, Rf) 0 I L i1 0 0 0 = some (r, I1, L1)) : Ct X d 139 0 0 [.ref 24, .int i1] (z, kd, I, L, Rf) (AI (fun x τ => x = r ∧ τ = (z, kd, I1, L1, Rf))) :=
  Ct_of mu_139 (Nat.le_of_ble_eq_true rfl) ((w_139 X hS n dp d hd I L i1 0 0 0 _ _ _).1 h)

/-! 141 CutFloor$Hall.broughtBy(II)I -/
set_option maxHeartbeats 4000000 in
set_option maxRecDepth 100000 in
def g_141 : Nat → Nat → EN → Nat → (Nat → Nat → Int32) → (Nat → Nat → Int64) → Int32 → Int32 →  Option (Int32 × (Nat → Nat → Int32) × (Nat → Nat → Int64))
  | 0, _, _, _, _, _, _, _ => none
  | n + 1, dp, e, lab, I, L, i1, i2 =>
    if lab = 0 then (if 0 ≤ ((20 : Int32) + i1) ∧ (Int32.toNatClampNeg ((20 : Int32) + i1)) < 30 then (if 1 ≤ dp then (stI (if (I 4 (Int32.toNatClampNeg ((20 : Int32) + i1))) < i2 then (I 4 (Int32.toNatClampNeg ((20 : Int32) + i1))) else i2) (fun v_13 => (if 0 ≤ ((0 : Int32) + i1) ∧ (Int32.toNatClampNeg ((0 : Int32) + i1)) < 30 then (if 0 ≤ ((10 : Int32) + i1) ∧ (Int32.toNatClampNeg ((10 : Int32) + i1)) < 30 then (some (((v_13 * (I 4 (Int32.toNatClampNeg ((0 : Int32) + i1)))) + ((i2 - v_13) * (I 4 (Int32.toNatClampNeg ((10 : Int32) + i1))))), I, L)) else none) else none))) else none) else none)
    else none
set_option maxRecDepth 100000 in
theorem e_141_0 (n dp : Nat) (e : EN) (I : (Nat → Nat → Int32)) (L : (Nat → Nat → Int64)) (i1 : Int32) (i2 : Int32) : g_141 (n + 1) dp e 0 I L i1 i2 = (if 0 ≤ ((20 : Int32) + i1) ∧ (Int32.toNatClampNeg ((20 : Int32) + i1)) < 30 then (if 1 ≤ dp then (stI (if (I 4 (Int32.toNatClampNeg ((20 : Int32) + i1))) < i2 then (I 4 (Int32.toNatClampNeg ((20 : Int32) + i1))) else i2) (fun v_13 => (if 0 ≤ ((0 : Int32) + i1) ∧ (Int32.toNatClampNeg ((0 : Int32) + i1)) < 30 then (if 0 ≤ ((10 : Int32) + i1) ∧ (Int32.toNatClampNeg ((10 : Int32) + i1)) < 30 then (some (((v_13 * (I 4 (Int32.toNatClampNeg ((0 : Int32) + i1)))) + ((i2 - v_13) * (I 4 (Int32.toNatClampNeg ((10 : Int32) + i1))))), I, L)) else none) else none))) else none) else none) := by rw [g_141.eq_2, if_pos (show (0 : Nat) = 0 from rfl)]
set_option maxHeartbeats 8000000 in
set_option maxRecDepth 100000 in
theorem w_141 (X : GX) {z : Nat} {kd : Nat → Nat × Nat} {Rf : Nat → Nat → Option Nat} (hS : Sh z kd Rf) : ∀ (n dp d : Nat), dp ≤ d → ∀ (I : (Nat → Nat → Int32)) (L : (Nat → Nat → Int64)) (i1 : Int32) (i2 : Int32) (r : Int32) (I1 : (Nat → Nat → Int32)) (L1 : (Nat → Nat → Int64)), (g_141 n dp (z, kd, Rf) 0 I L i1 i2 = some (r, I1, L1) → K X d 141 0 0 (AI (fun x τ => x = r ∧ τ = (z, kd, I1, L1, Rf))) 0 [some (.ref 1), some (.int i1), some (.int i2), none] [] (z, kd, I, L, Rf) 0 0) := by
  intro n
  induction n with
  | zero => intro dp d hdp I L i1 i2 r I1 L1; exact fun h => by cases h
  | succ n ih =>
    intro dp d hdp I L i1 i2 r I1 L1
    · intro h
      rw [e_141_0] at h
      refine K_of b_141_0 h_141_0 ?_
      refine q_iload rfl ?_
      refine q_aload rfl ?_
      refine q_getRs (c0 := 3) (j := 2) rfl rfl (zl hS 1 (by decide)) (sk hS 1 (by decide) rfl) rfl (by decide) (r_1_2 hS) ?_
      refine q_iconst (20) (by decide) ?_
      refine q_iload rfl ?_
      refine q_iadd ?_
      obtain ⟨⟨u_9, v_9⟩, h⟩ := ite_some h
      refine q_ialN (Int32.toNatClampNeg ((20 : Int32) + i1)) (nx u_9) (zl hS 4 (by decide)) (sk hS 4 (by decide) rfl) v_9 (by decide) ?_
      obtain ⟨d_10, h⟩ := ite_some h
      refine q_min (Nat.le_of_ble_eq_true rfl) (Nat.le_trans d_10 hdp) (Nat.le_refl _) (Nat.le_refl _) ?_
      obtain ⟨v_13, nv_13, h⟩ := stI_some h
      refine q_eqi nv_13.symm ?_
      refine q_istore (ls1 := [some (.ref 1), some (.int i1), some (.int i2), some (.int v_13)]) (Nat.le_of_ble_eq_true rfl) rfl ?_
      refine q_iload rfl ?_
      refine q_aload rfl ?_
      refine q_getRs (c0 := 3) (j := 2) rfl rfl (zl hS 1 (by decide)) (sk hS 1 (by decide) rfl) rfl (by decide) (r_1_2 hS) ?_
      refine q_iconst (0) (by decide) ?_
      refine q_iload rfl ?_
      refine q_iadd ?_
      obtain ⟨⟨u_22, v_22⟩, h⟩ := ite_some h
      refine q_ialN (Int32.toNatClampNeg ((0 : Int32) + i1)) (nx u_22) (zl hS 4 (by decide)) (sk hS 4 (by decide) rfl) v_22 (by decide) ?_
      refine q_imul ?_
      refine q_iload rfl ?_
      refine q_iload rfl ?_
      refine q_isub ?_
      refine q_aload rfl ?_
      refine q_getRs (c0 := 3) (j := 2) rfl rfl (zl hS 1 (by decide)) (sk hS 1 (by decide) rfl) rfl (by decide) (r_1_2 hS) ?_
      refine q_iconst (10) (by decide) ?_
      refine q_iload rfl ?_
      refine q_iadd ?_
      obtain ⟨⟨u_35, v_35⟩, h⟩ := ite_some h
      refine q_ialN (Int32.toNatClampNeg ((10 : Int32) + i1)) (nx u_35) (zl hS 4 (by decide)) (sk hS 4 (by decide) rfl) v_35 (by decide) ?_
      refine q_imul ?_
      refine q_iadd ?_
      cases h
      exact q_iret rfl (Nat.le_refl _) (Nat.le_refl _) ⟨rfl, rfl⟩
theorem a_141 (X : GX) {z : Nat} {kd : Nat → Nat × Nat} {Rf : Nat → Nat → Option Nat} (hS : Sh z kd Rf) {n dp d : Nat} (hd : dp ≤ d) {I : (Nat → Nat → Int32)} {L : (Nat → Nat → Int64)} {i1 : Int32} {i2 : Int32} {I1 : (Nat → Nat → Int32)} {L1 : (Nat → Nat → Int64)} {r : Int32} (h : g_141 n dp (z, kd, Rf) 0 I L i1 i2 = some (r, I1, L1)) : Ct X d 141 0 0 [.ref 1, .int i1, .int i2] (z, kd, I, L, Rf) (AI (fun x τ => x = r ∧ τ = (z, kd, I1, L1, Rf))) :=
  Ct_of mu_141 (Nat.le_of_ble_eq_true rfl) ((w_141 X hS n dp d hd I L i1 i2 _ _ _) h)

/-! 138 CutFloor$Planner.toldBrings()I -/
set_option maxHeartbeats 4000000 in
set_option maxRecDepth 100000 in
def g_138 : Nat → Nat → EN → Nat → (Nat → Nat → Int32) → (Nat → Nat → Int64) → Int32 → Int32 →  Option (Int32 × (Nat → Nat → Int32) × (Nat → Nat → Int64))
  | 0, _, _, _, _, _, _, _ => none
  | n + 1, dp, e, lab, I, L, i1, i2 =>
    if lab = 0 then (g_138 n dp e 1 I L (0 : Int32) (0 : Int32))
    else if lab = 1 then (if (10 : Int32) ≤ i2 then (some (i1, I, L)) else (if 1 ≤ dp then (g_139 n (dp - 1) e 0 I L i2 0 0 0).bind (fun ⟨x0_18, I0_18, L0_18⟩ => (if 1 ≤ dp then (g_141 n (dp - 1) e 0 I0_18 L0_18 i2 x0_18).bind (fun ⟨x1_21, I1_21, L1_21⟩ => (g_138 n dp e 1 I1_21 L1_21 (i1 + x1_21) (i2 + Int32.ofInt (1)))) else none)) else none))
    else none
set_option maxRecDepth 100000 in
theorem e_138_0 (n dp : Nat) (e : EN) (I : (Nat → Nat → Int32)) (L : (Nat → Nat → Int64)) (i1 : Int32) (i2 : Int32) : g_138 (n + 1) dp e 0 I L i1 i2 = (g_138 n dp e 1 I L (0 : Int32) (0 : Int32)) := by rw [g_138.eq_2, if_pos (show (0 : Nat) = 0 from rfl)]
set_option maxRecDepth 100000 in
theorem e_138_1 (n dp : Nat) (e : EN) (I : (Nat → Nat → Int32)) (L : (Nat → Nat → Int64)) (i1 : Int32) (i2 : Int32) : g_138 (n + 1) dp e 1 I L i1 i2 = (if (10 : Int32) ≤ i2 then (some (i1, I, L)) else (if 1 ≤ dp then (g_139 n (dp - 1) e 0 I L i2 0 0 0).bind (fun ⟨x0_18, I0_18, L0_18⟩ => (if 1 ≤ dp then (g_141 n (dp - 1) e 0 I0_18 L0_18 i2 x0_18).bind (fun ⟨x1_21, I1_21, L1_21⟩ => (g_138 n dp e 1 I1_21 L1_21 (i1 + x1_21) (i2 + Int32.ofInt (1)))) else none)) else none)) := by rw [g_138.eq_2, if_neg (show ¬ ((1 : Nat) = 0) by decide), if_pos (show (1 : Nat) = 1 from rfl)]
set_option maxHeartbeats 8000000 in
set_option maxRecDepth 100000 in
theorem w_138 (X : GX) {z : Nat} {kd : Nat → Nat × Nat} {Rf : Nat → Nat → Option Nat} (hS : Sh z kd Rf) : ∀ (n dp d : Nat), dp ≤ d → ∀ (I : (Nat → Nat → Int32)) (L : (Nat → Nat → Int64)) (i1 : Int32) (i2 : Int32) (r : Int32) (I1 : (Nat → Nat → Int32)) (L1 : (Nat → Nat → Int64)), (g_138 n dp (z, kd, Rf) 0 I L i1 i2 = some (r, I1, L1) → K X d 138 0 0 (AI (fun x τ => x = r ∧ τ = (z, kd, I1, L1, Rf))) 0 [some (.ref 24), none, none] [] (z, kd, I, L, Rf) 0 0) ∧
    (g_138 n dp (z, kd, Rf) 1 I L i1 i2 = some (r, I1, L1) → K X d 138 0 0 (AI (fun x τ => x = r ∧ τ = (z, kd, I1, L1, Rf))) 4 [some (.ref 24), some (.int i1), some (.int i2)] [] (z, kd, I, L, Rf) 0 0) := by
  intro n
  induction n with
  | zero => intro dp d hdp I L i1 i2 r I1 L1; exact ⟨(fun h => by cases h), (fun h => by cases h)⟩
  | succ n ih =>
    intro dp d hdp I L i1 i2 r I1 L1
    refine ⟨?_, ?_⟩
    · intro h
      rw [e_138_0] at h
      refine K_of b_138_0 h_138_0 ?_
      refine q_iconst (0) (by decide) ?_
      refine q_istore (ls1 := [some (.ref 24), some (.int (0 : Int32)), none]) (Nat.le_of_ble_eq_true rfl) rfl ?_
      refine q_iconst (0) (by decide) ?_
      refine q_istore (ls1 := [some (.ref 24), some (.int (0 : Int32)), some (.int (0 : Int32))]) (Nat.le_of_ble_eq_true rfl) rfl ?_
      refine q_end ?_
      exact (ih dp d hdp _ _ (0 : Int32) (0 : Int32) _ _ _).2 h
    · intro h
      rw [e_138_1] at h
      refine K_of b_138_4 h_138_4 ?_
      refine q_iload rfl ?_
      refine q_iconst (10) (by decide) ?_
      refine q_icmp_ge (fun c_7 => ?_) (fun c_7 => ?_)
      · rw [if_pos c_7] at h
        refine K_of b_138_32 h_138_32 ?_
        refine q_iload rfl ?_
        cases h
        exact q_iret rfl (Nat.le_refl _) (Nat.le_refl _) ⟨rfl, rfl⟩
      · rw [if_neg c_7] at h
        refine q_iload rfl ?_
        refine q_aload rfl ?_
        refine q_getRs (c0 := 7) (j := 0) rfl rfl (zl hS 24 (by decide)) (sk hS 24 (by decide) rfl) rfl (by decide) (r_24_0 hS) ?_
        refine q_iload rfl ?_
        refine q_aload rfl ?_
        refine q_iload rfl ?_
        obtain ⟨d_18, h⟩ := ite_some h
        obtain ⟨⟨x0_18, I0_18, L0_18⟩, e_18, h⟩ := Option.bind_eq_some_iff.mp h
        dsimp only at h
        refine q_fv2I (a_139 X hS (d := d - 1) (by omega) e_18) (by omega) (Nat.le_refl _) (Nat.le_refl _) rfl (Nat.le_of_ble_eq_true rfl) ⟨(zl hS 24 (by decide)), congrArg Prod.fst (sk hS 24 (by decide) rfl), by decide⟩ ?_
        obtain ⟨d_21, h⟩ := ite_some h
        obtain ⟨⟨x1_21, I1_21, L1_21⟩, e_21, h⟩ := Option.bind_eq_some_iff.mp h
        dsimp only at h
        refine q_fv3I (a_141 X hS (d := d - 1) (by omega) e_21) (by omega) (Nat.le_refl _) (Nat.le_refl _) rfl (Nat.le_of_ble_eq_true rfl) ⟨(zl hS 1 (by decide)), congrArg Prod.fst (sk hS 1 (by decide) rfl), by decide⟩ ?_
        refine q_iadd ?_
        refine q_istore (ls1 := [some (.ref 24), some (.int (i1 + x1_21)), some (.int i2)]) (Nat.le_of_ble_eq_true rfl) rfl ?_
        refine q_iinc (ls1 := [some (.ref 24), some (.int (i1 + x1_21)), some (.int (i2 + Int32.ofInt (1)))]) rfl rfl ?_
        refine q_goto ?_
        exact (ih dp d hdp _ _ (i1 + x1_21) (i2 + Int32.ofInt (1)) _ _ _).2 h
theorem a_138 (X : GX) {z : Nat} {kd : Nat → Nat × Nat} {Rf : Nat → Nat → Option Nat} (hS : Sh z kd Rf) {n dp d : Nat} (hd : dp ≤ d) {I : (Nat → Nat → Int32)} {L : (Nat → Nat → Int64)} {I1 : (Nat → Nat → Int32)} {L1 : (Nat → Nat → Int64)} {r : Int32} (h : g_138 n dp (z, kd, Rf) 0 I L 0 0 = some (r, I1, L1)) : Ct X d 138 0 0 [.ref 24] (z, kd, I, L, Rf) (AI (fun x τ => x = r ∧ τ = (z, kd, I1, L1, Rf))) :=
  Ct_of mu_138 (Nat.le_of_ble_eq_true rfl) ((w_138 X hS n dp d hd I L 0 0 _ _ _).1 h)

/-! 142 CutFloor$Planner.toldOtherwise()I -/
set_option maxHeartbeats 4000000 in
set_option maxRecDepth 100000 in
def g_142 : Nat → Nat → EN → Nat → (Nat → Nat → Int32) → (Nat → Nat → Int64) → Int32 → Int32 → Int32 →  Option (Int32 × (Nat → Nat → Int32) × (Nat → Nat → Int64))
  | 0, _, _, _, _, _, _, _, _ => none
  | n + 1, dp, e, lab, I, L, i1, i2, i3 =>
    if lab = 0 then (if 1 ≤ dp then (g_16 n (dp - 1) e 0 I L).bind (fun ⟨x0_6, I0_6, L0_6⟩ => (g_142 n dp e 1 I0_6 L0_6 (0 : Int32) x0_6 (0 : Int32))) else none)
    else if lab = 1 then (if i2 ≤ i3 then (some (i1, I, L)) else (if 1 ≤ dp then (g_140 n (dp - 1) e 0 I L i3).bind (fun ⟨x0_19, I0_19, L0_19⟩ => (if 0 ≤ i3 ∧ (Int32.toNatClampNeg i3) < 8 then (if x0_19 = (I0_19 55 (Int32.toNatClampNeg i3)) then (g_142 n dp e 2 I0_19 L0_19 i1 i2 i3) else (g_142 n dp e 2 I0_19 L0_19 (i1 + Int32.ofInt (1)) i2 i3)) else none)) else none))
    else if lab = 2 then (g_142 n dp e 1 I L i1 i2 (i3 + Int32.ofInt (1)))
    else none
set_option maxRecDepth 100000 in
theorem e_142_0 (n dp : Nat) (e : EN) (I : (Nat → Nat → Int32)) (L : (Nat → Nat → Int64)) (i1 : Int32) (i2 : Int32) (i3 : Int32) : g_142 (n + 1) dp e 0 I L i1 i2 i3 = (if 1 ≤ dp then (g_16 n (dp - 1) e 0 I L).bind (fun ⟨x0_6, I0_6, L0_6⟩ => (g_142 n dp e 1 I0_6 L0_6 (0 : Int32) x0_6 (0 : Int32))) else none) := by rw [g_142.eq_2, if_pos (show (0 : Nat) = 0 from rfl)]
set_option maxRecDepth 100000 in
theorem e_142_1 (n dp : Nat) (e : EN) (I : (Nat → Nat → Int32)) (L : (Nat → Nat → Int64)) (i1 : Int32) (i2 : Int32) (i3 : Int32) : g_142 (n + 1) dp e 1 I L i1 i2 i3 = (if i2 ≤ i3 then (some (i1, I, L)) else (if 1 ≤ dp then (g_140 n (dp - 1) e 0 I L i3).bind (fun ⟨x0_19, I0_19, L0_19⟩ => (if 0 ≤ i3 ∧ (Int32.toNatClampNeg i3) < 8 then (if x0_19 = (I0_19 55 (Int32.toNatClampNeg i3)) then (g_142 n dp e 2 I0_19 L0_19 i1 i2 i3) else (g_142 n dp e 2 I0_19 L0_19 (i1 + Int32.ofInt (1)) i2 i3)) else none)) else none)) := by rw [g_142.eq_2, if_neg (show ¬ ((1 : Nat) = 0) by decide), if_pos (show (1 : Nat) = 1 from rfl)]
set_option maxRecDepth 100000 in
theorem e_142_2 (n dp : Nat) (e : EN) (I : (Nat → Nat → Int32)) (L : (Nat → Nat → Int64)) (i1 : Int32) (i2 : Int32) (i3 : Int32) : g_142 (n + 1) dp e 2 I L i1 i2 i3 = (g_142 n dp e 1 I L i1 i2 (i3 + Int32.ofInt (1))) := by rw [g_142.eq_2, if_neg (show ¬ ((2 : Nat) = 0) by decide), if_neg (show ¬ ((2 : Nat) = 1) by decide), if_pos (show (2 : Nat) = 2 from rfl)]
set_option maxHeartbeats 8000000 in
set_option maxRecDepth 100000 in
theorem w_142 (X : GX) {z : Nat} {kd : Nat → Nat × Nat} {Rf : Nat → Nat → Option Nat} (hS : Sh z kd Rf) : ∀ (n dp d : Nat), dp ≤ d → ∀ (I : (Nat → Nat → Int32)) (L : (Nat → Nat → Int64)) (i1 : Int32) (i2 : Int32) (i3 : Int32) (r : Int32) (I1 : (Nat → Nat → Int32)) (L1 : (Nat → Nat → Int64)), (g_142 n dp (z, kd, Rf) 0 I L i1 i2 i3 = some (r, I1, L1) → K X d 142 0 0 (AI (fun x τ => x = r ∧ τ = (z, kd, I1, L1, Rf))) 0 [some (.ref 24), none, none, none] [] (z, kd, I, L, Rf) 0 0) ∧
    (g_142 n dp (z, kd, Rf) 1 I L i1 i2 i3 = some (r, I1, L1) → K X d 142 0 0 (AI (fun x τ => x = r ∧ τ = (z, kd, I1, L1, Rf))) 12 [some (.ref 24), some (.int i1), some (.int i2), some (.int i3)] [] (z, kd, I, L, Rf) 0 0) ∧
    (g_142 n dp (z, kd, Rf) 2 I L i1 i2 i3 = some (r, I1, L1) → K X d 142 0 0 (AI (fun x τ => x = r ∧ τ = (z, kd, I1, L1, Rf))) 34 [some (.ref 24), some (.int i1), some (.int i2), some (.int i3)] [] (z, kd, I, L, Rf) 0 0) := by
  intro n
  induction n with
  | zero => intro dp d hdp I L i1 i2 i3 r I1 L1; exact ⟨(fun h => by cases h), (fun h => by cases h), (fun h => by cases h)⟩
  | succ n ih =>
    intro dp d hdp I L i1 i2 i3 r I1 L1
    refine ⟨?_, ?_, ?_⟩
    · intro h
      rw [e_142_0] at h
      refine K_of b_142_0 h_142_0 ?_
      refine q_iconst (0) (by decide) ?_
      refine q_istore (ls1 := [some (.ref 24), some (.int (0 : Int32)), none, none]) (Nat.le_of_ble_eq_true rfl) rfl ?_
      refine q_aload rfl ?_
      refine q_getRs (c0 := 7) (j := 0) rfl rfl (zl hS 24 (by decide)) (sk hS 24 (by decide) rfl) rfl (by decide) (r_24_0 hS) ?_
      obtain ⟨d_6, h⟩ := ite_some h
      obtain ⟨⟨x0_6, I0_6, L0_6⟩, e_6, h⟩ := Option.bind_eq_some_iff.mp h
      dsimp only at h
      refine q_fv1I (a_16 X hS (d := d - 1) (by omega) e_6) (by omega) (Nat.le_refl _) (Nat.le_refl _) rfl (Nat.le_of_ble_eq_true rfl) ⟨(zl hS 1 (by decide)), congrArg Prod.fst (sk hS 1 (by decide) rfl), by decide⟩ ?_
      refine q_istore (ls1 := [some (.ref 24), some (.int (0 : Int32)), some (.int x0_6), none]) (Nat.le_of_ble_eq_true rfl) rfl ?_
      refine q_iconst (0) (by decide) ?_
      refine q_istore (ls1 := [some (.ref 24), some (.int (0 : Int32)), some (.int x0_6), some (.int (0 : Int32))]) (Nat.le_of_ble_eq_true rfl) rfl ?_
      refine q_end ?_
      exact (ih dp d hdp _ _ (0 : Int32) x0_6 (0 : Int32) _ _ _).2.1 h
    · intro h
      rw [e_142_1] at h
      refine K_of b_142_12 h_142_12 ?_
      refine q_iload rfl ?_
      refine q_iload rfl ?_
      refine q_icmp_ge (fun c_14 => ?_) (fun c_14 => ?_)
      · rw [if_pos c_14] at h
        refine K_of b_142_40 h_142_40 ?_
        refine q_iload rfl ?_
        cases h
        exact q_iret rfl (Nat.le_refl _) (Nat.le_refl _) ⟨rfl, rfl⟩
      · rw [if_neg c_14] at h
        refine q_aload rfl ?_
        refine q_iload rfl ?_
        obtain ⟨d_19, h⟩ := ite_some h
        obtain ⟨⟨x0_19, I0_19, L0_19⟩, e_19, h⟩ := Option.bind_eq_some_iff.mp h
        dsimp only at h
        refine q_fv2I (a_140 X hS (d := d - 1) (by omega) e_19) (by omega) (Nat.le_refl _) (Nat.le_refl _) rfl (Nat.le_of_ble_eq_true rfl) ⟨(zl hS 24 (by decide)), congrArg Prod.fst (sk hS 24 (by decide) rfl), by decide⟩ ?_
        refine q_aload rfl ?_
        refine q_getRs (c0 := 7) (j := 9) rfl rfl (zl hS 24 (by decide)) (sk hS 24 (by decide) rfl) rfl (by decide) (r_24_9 hS) ?_
        refine q_iload rfl ?_
        obtain ⟨⟨u_27, v_27⟩, h⟩ := ite_some h
        refine q_ialN (Int32.toNatClampNeg i3) (nx u_27) (zl hS 55 (by decide)) (sk hS 55 (by decide) rfl) v_27 (by decide) ?_
        refine q_icmp_eq (fun c_28 => ?_) (fun c_28 => ?_)
        · rw [if_pos c_28] at h
          exact (ih dp d hdp _ _ i1 i2 i3 _ _ _).2.2 h
        · rw [if_neg c_28] at h
          refine q_iinc (ls1 := [some (.ref 24), some (.int (i1 + Int32.ofInt (1))), some (.int i2), some (.int i3)]) rfl rfl ?_
          refine q_end ?_
          exact (ih dp d hdp _ _ (i1 + Int32.ofInt (1)) i2 i3 _ _ _).2.2 h
    · intro h
      rw [e_142_2] at h
      refine K_of b_142_34 h_142_34 ?_
      refine q_iinc (ls1 := [some (.ref 24), some (.int i1), some (.int i2), some (.int (i3 + Int32.ofInt (1)))]) rfl rfl ?_
      refine q_goto ?_
      exact (ih dp d hdp _ _ i1 i2 (i3 + Int32.ofInt (1)) _ _ _).2.1 h
theorem a_142 (X : GX) {z : Nat} {kd : Nat → Nat × Nat} {Rf : Nat → Nat → Option Nat} (hS : Sh z kd Rf) {n dp d : Nat} (hd : dp ≤ d) {I : (Nat → Nat → Int32)} {L : (Nat → Nat → Int64)} {I1 : (Nat → Nat → Int32)} {L1 : (Nat → Nat → Int64)} {r : Int32} (h : g_142 n dp (z, kd, Rf) 0 I L 0 0 0 = some (r, I1, L1)) : Ct X d 142 0 0 [.ref 24] (z, kd, I, L, Rf) (AI (fun x τ => x = r ∧ τ = (z, kd, I1, L1, Rf))) :=
  Ct_of mu_142 (Nat.le_of_ble_eq_true rfl) ((w_142 X hS n dp d hd I L 0 0 0 _ _ _).1 h)

/-! 143 CutFloor$Planner.toldLacks()I -/
set_option maxHeartbeats 4000000 in
set_option maxRecDepth 100000 in
def g_143 : Nat → Nat → EN → Nat → (Nat → Nat → Int32) → (Nat → Nat → Int64) → Int32 → Int32 →  Option (Int32 × (Nat → Nat → Int32) × (Nat → Nat → Int64))
  | 0, _, _, _, _, _, _, _ => none
  | n + 1, dp, e, lab, I, L, i1, i2 =>
    if lab = 0 then (g_143 n dp e 1 I L (0 : Int32) (0 : Int32))
    else if lab = 1 then (if (10 : Int32) ≤ i2 then (some (i1, I, L)) else (if 1 ≤ dp then (g_139 n (dp - 1) e 0 I L i2 0 0 0).bind (fun ⟨x0_18, I0_18, L0_18⟩ => (if 1 ≤ dp then (g_126 n (dp - 1) e 0 I0_18 L0_18 i2 x0_18).bind (fun ⟨x1_21, I1_21, L1_21⟩ => (g_143 n dp e 1 I1_21 L1_21 (i1 + x1_21) (i2 + Int32.ofInt (1)))) else none)) else none))
    else none
set_option maxRecDepth 100000 in
theorem e_143_0 (n dp : Nat) (e : EN) (I : (Nat → Nat → Int32)) (L : (Nat → Nat → Int64)) (i1 : Int32) (i2 : Int32) : g_143 (n + 1) dp e 0 I L i1 i2 = (g_143 n dp e 1 I L (0 : Int32) (0 : Int32)) := by rw [g_143.eq_2, if_pos (show (0 : Nat) = 0 from rfl)]
set_option maxRecDepth 100000 in
theorem e_143_1 (n dp : Nat) (e : EN) (I : (Nat → Nat → Int32)) (L : (Nat → Nat → Int64)) (i1 : Int32) (i2 : Int32) : g_143 (n + 1) dp e 1 I L i1 i2 = (if (10 : Int32) ≤ i2 then (some (i1, I, L)) else (if 1 ≤ dp then (g_139 n (dp - 1) e 0 I L i2 0 0 0).bind (fun ⟨x0_18, I0_18, L0_18⟩ => (if 1 ≤ dp then (g_126 n (dp - 1) e 0 I0_18 L0_18 i2 x0_18).bind (fun ⟨x1_21, I1_21, L1_21⟩ => (g_143 n dp e 1 I1_21 L1_21 (i1 + x1_21) (i2 + Int32.ofInt (1)))) else none)) else none)) := by rw [g_143.eq_2, if_neg (show ¬ ((1 : Nat) = 0) by decide), if_pos (show (1 : Nat) = 1 from rfl)]
set_option maxHeartbeats 8000000 in
set_option maxRecDepth 100000 in
theorem w_143 (X : GX) {z : Nat} {kd : Nat → Nat × Nat} {Rf : Nat → Nat → Option Nat} (hS : Sh z kd Rf) : ∀ (n dp d : Nat), dp ≤ d → ∀ (I : (Nat → Nat → Int32)) (L : (Nat → Nat → Int64)) (i1 : Int32) (i2 : Int32) (r : Int32) (I1 : (Nat → Nat → Int32)) (L1 : (Nat → Nat → Int64)), (g_143 n dp (z, kd, Rf) 0 I L i1 i2 = some (r, I1, L1) → K X d 143 0 0 (AI (fun x τ => x = r ∧ τ = (z, kd, I1, L1, Rf))) 0 [some (.ref 24), none, none] [] (z, kd, I, L, Rf) 0 0) ∧
    (g_143 n dp (z, kd, Rf) 1 I L i1 i2 = some (r, I1, L1) → K X d 143 0 0 (AI (fun x τ => x = r ∧ τ = (z, kd, I1, L1, Rf))) 4 [some (.ref 24), some (.int i1), some (.int i2)] [] (z, kd, I, L, Rf) 0 0) := by
  intro n
  induction n with
  | zero => intro dp d hdp I L i1 i2 r I1 L1; exact ⟨(fun h => by cases h), (fun h => by cases h)⟩
  | succ n ih =>
    intro dp d hdp I L i1 i2 r I1 L1
    refine ⟨?_, ?_⟩
    · intro h
      rw [e_143_0] at h
      refine K_of b_143_0 h_143_0 ?_
      refine q_iconst (0) (by decide) ?_
      refine q_istore (ls1 := [some (.ref 24), some (.int (0 : Int32)), none]) (Nat.le_of_ble_eq_true rfl) rfl ?_
      refine q_iconst (0) (by decide) ?_
      refine q_istore (ls1 := [some (.ref 24), some (.int (0 : Int32)), some (.int (0 : Int32))]) (Nat.le_of_ble_eq_true rfl) rfl ?_
      refine q_end ?_
      exact (ih dp d hdp _ _ (0 : Int32) (0 : Int32) _ _ _).2 h
    · intro h
      rw [e_143_1] at h
      refine K_of b_143_4 h_143_4 ?_
      refine q_iload rfl ?_
      refine q_iconst (10) (by decide) ?_
      refine q_icmp_ge (fun c_7 => ?_) (fun c_7 => ?_)
      · rw [if_pos c_7] at h
        refine K_of b_143_32 h_143_32 ?_
        refine q_iload rfl ?_
        cases h
        exact q_iret rfl (Nat.le_refl _) (Nat.le_refl _) ⟨rfl, rfl⟩
      · rw [if_neg c_7] at h
        refine q_iload rfl ?_
        refine q_aload rfl ?_
        refine q_getRs (c0 := 7) (j := 0) rfl rfl (zl hS 24 (by decide)) (sk hS 24 (by decide) rfl) rfl (by decide) (r_24_0 hS) ?_
        refine q_iload rfl ?_
        refine q_aload rfl ?_
        refine q_iload rfl ?_
        obtain ⟨d_18, h⟩ := ite_some h
        obtain ⟨⟨x0_18, I0_18, L0_18⟩, e_18, h⟩ := Option.bind_eq_some_iff.mp h
        dsimp only at h
        refine q_fv2I (a_139 X hS (d := d - 1) (by omega) e_18) (by omega) (Nat.le_refl _) (Nat.le_refl _) rfl (Nat.le_of_ble_eq_true rfl) ⟨(zl hS 24 (by decide)), congrArg Prod.fst (sk hS 24 (by decide) rfl), by decide⟩ ?_
        obtain ⟨d_21, h⟩ := ite_some h
        obtain ⟨⟨x1_21, I1_21, L1_21⟩, e_21, h⟩ := Option.bind_eq_some_iff.mp h
        dsimp only at h
        refine q_fv3I (a_126 X hS (d := d - 1) (by omega) e_21) (by omega) (Nat.le_refl _) (Nat.le_refl _) rfl (Nat.le_of_ble_eq_true rfl) ⟨(zl hS 1 (by decide)), congrArg Prod.fst (sk hS 1 (by decide) rfl), by decide⟩ ?_
        refine q_iadd ?_
        refine q_istore (ls1 := [some (.ref 24), some (.int (i1 + x1_21)), some (.int i2)]) (Nat.le_of_ble_eq_true rfl) rfl ?_
        refine q_iinc (ls1 := [some (.ref 24), some (.int (i1 + x1_21)), some (.int (i2 + Int32.ofInt (1)))]) rfl rfl ?_
        refine q_goto ?_
        exact (ih dp d hdp _ _ (i1 + x1_21) (i2 + Int32.ofInt (1)) _ _ _).2 h
theorem a_143 (X : GX) {z : Nat} {kd : Nat → Nat × Nat} {Rf : Nat → Nat → Option Nat} (hS : Sh z kd Rf) {n dp d : Nat} (hd : dp ≤ d) {I : (Nat → Nat → Int32)} {L : (Nat → Nat → Int64)} {I1 : (Nat → Nat → Int32)} {L1 : (Nat → Nat → Int64)} {r : Int32} (h : g_143 n dp (z, kd, Rf) 0 I L 0 0 = some (r, I1, L1)) : Ct X d 143 0 0 [.ref 24] (z, kd, I, L, Rf) (AI (fun x τ => x = r ∧ τ = (z, kd, I1, L1, Rf))) :=
  Ct_of mu_143 (Nat.le_of_ble_eq_true rfl) ((w_143 X hS n dp d hd I L 0 0 _ _ _).1 h)

/-! 146 CutFloor$Crew.addCarcass(II)V -/
set_option maxHeartbeats 4000000 in
set_option maxRecDepth 100000 in
def g_146 : Nat → Nat → EN → Nat → (Nat → Nat → Int32) → (Nat → Nat → Int64) → Int32 → Int32 → Int32 → Int32 → Int32 → Nat →  Option ((Nat → Nat → Int32) × (Nat → Nat → Int64))
  | 0, _, _, _, _, _, _, _, _, _, _, _ => none
  | n + 1, dp, e, lab, I, L, i1, i2, i4, i5, i6, a3 =>
    if lab = 0 then (if 0 ≤ i1 ∧ (Int32.toNatClampNeg i1) < 3 then (e.2.2 25 (Int32.toNatClampNeg i1)).bind (fun b_8 => (if b_8 < e.1 ∧ (e.2.1 b_8).1 = 2 then ((e.2.2 b_8 0).bind (fun b_9 => (if 1 ≤ dp then (g_36 n (dp - 1) e 0 I L (0 : Int32) 0 0 77).bind (fun ⟨I0_18, L0_18⟩ => (stI (u2 I0_18 77 0 (1 : Int32)) (fun I_27 => (g_146 n dp e 1 I_27 L0_18 i1 i2 (0 : Int32) 0 0 b_9)))) else none))) else none)) else none)
    else if lab = 1 then (if (10 : Int32) ≤ i4 then (some (I, L)) else (if (a3 < e.1 ∧ (e.2.1 a3).1 = 13 ∧ (e.2.1 a3).2 < 2 ^ 31) ∧ 0 ≤ ((i2 * (10 : Int32)) + i4) ∧ (Int32.toNatClampNeg ((i2 * (10 : Int32)) + i4)) < (e.2.1 a3).2 then (stI (I a3 (Int32.toNatClampNeg ((i2 * (10 : Int32)) + i4))) (fun v_47 => (if v_47 = (-1 : Int32) then (g_146 n dp e 4 I L i1 i2 i4 v_47 0 a3) else (if 0 ≤ v_47 ∧ (Int32.toNatClampNeg v_47) < 16 then (if 0 ≤ i4 ∧ (Int32.toNatClampNeg i4) < 10 then (if 1 ≤ dp then (g_77 n (dp - 1) e 0 I L (1 : Int32) v_47 i1 0 0).bind (fun ⟨x0_81, I0_81, L0_81⟩ => (if 0 ≤ v_47 ∧ (Int32.toNatClampNeg v_47) < 16 then (stI (u2 I0_81 74 (Int32.toNatClampNeg v_47) ((I 74 (Int32.toNatClampNeg v_47)) + ((I 77 (Int32.toNatClampNeg i4)) * x0_81))) (fun I_86 => (if 0 ≤ v_47 ∧ (Int32.toNatClampNeg v_47) < 16 then (if (I_86 75 (Int32.toNatClampNeg v_47)) = (-1 : Int32) then (if 1 ≤ dp then (g_77 n (dp - 1) e 0 I_86 L0_81 (2 : Int32) v_47 i1 0 0).bind (fun ⟨x1_112, I1_112, L1_112⟩ => (if 0 ≤ v_47 ∧ (Int32.toNatClampNeg v_47) < 16 then (stI (u2 I1_112 75 (Int32.toNatClampNeg v_47) x1_112) (fun I_115 => (g_146 n dp e 2 I_115 L1_112 i1 i2 i4 v_47 0 a3))) else none)) else none) else (g_146 n dp e 2 I_86 L0_81 i1 i2 i4 v_47 0 a3)) else none))) else none)) else none) else none) else none)))) else none))
    else if lab = 2 then (g_146 n dp e 3 I L i1 i2 i4 i5 (i4 + (1 : Int32)) a3)
    else if lab = 3 then (if (10 : Int32) ≤ i6 then (g_146 n dp e 4 I L i1 i2 i4 i5 0 a3) else (if 0 ≤ i6 ∧ (Int32.toNatClampNeg i6) < 10 then (if 0 ≤ i4 ∧ (Int32.toNatClampNeg i4) < 10 then ((e.2.2 1 7).bind (fun b_148 => (if b_148 < e.1 ∧ (e.2.1 b_148).1 = 10 then ((e.2.2 b_148 7).bind (fun b_151 => (if (b_151 < e.1 ∧ (e.2.1 b_151).1 = 13 ∧ (e.2.1 b_151).2 < 2 ^ 31) ∧ 0 ≤ ((i5 * (10 : Int32)) + i6) ∧ (Int32.toNatClampNeg ((i5 * (10 : Int32)) + i6)) < (e.2.1 b_151).2 then (if 0 ≤ i6 ∧ (Int32.toNatClampNeg i6) < 10 then (stI (u2 I 77 (Int32.toNatClampNeg i6) ((I 77 (Int32.toNatClampNeg i6)) + ((I 77 (Int32.toNatClampNeg i4)) * (I b_151 (Int32.toNatClampNeg ((i5 * (10 : Int32)) + i6)))))) (fun I_165 => (g_146 n dp e 3 I_165 L i1 i2 i4 i5 (i6 + Int32.ofInt (1)) a3))) else none) else none))) else none))) else none) else none))
    else if lab = 4 then (g_146 n dp e 1 I L i1 i2 (i4 + Int32.ofInt (1)) 0 0 a3)
    else none
set_option maxRecDepth 100000 in
theorem e_146_0 (n dp : Nat) (e : EN) (I : (Nat → Nat → Int32)) (L : (Nat → Nat → Int64)) (i1 : Int32) (i2 : Int32) (i4 : Int32) (i5 : Int32) (i6 : Int32) (a3 : Nat) : g_146 (n + 1) dp e 0 I L i1 i2 i4 i5 i6 a3 = (if 0 ≤ i1 ∧ (Int32.toNatClampNeg i1) < 3 then (e.2.2 25 (Int32.toNatClampNeg i1)).bind (fun b_8 => (if b_8 < e.1 ∧ (e.2.1 b_8).1 = 2 then ((e.2.2 b_8 0).bind (fun b_9 => (if 1 ≤ dp then (g_36 n (dp - 1) e 0 I L (0 : Int32) 0 0 77).bind (fun ⟨I0_18, L0_18⟩ => (stI (u2 I0_18 77 0 (1 : Int32)) (fun I_27 => (g_146 n dp e 1 I_27 L0_18 i1 i2 (0 : Int32) 0 0 b_9)))) else none))) else none)) else none) := by rw [g_146.eq_2, if_pos (show (0 : Nat) = 0 from rfl)]
set_option maxRecDepth 100000 in
theorem e_146_1 (n dp : Nat) (e : EN) (I : (Nat → Nat → Int32)) (L : (Nat → Nat → Int64)) (i1 : Int32) (i2 : Int32) (i4 : Int32) (i5 : Int32) (i6 : Int32) (a3 : Nat) : g_146 (n + 1) dp e 1 I L i1 i2 i4 i5 i6 a3 = (if (10 : Int32) ≤ i4 then (some (I, L)) else (if (a3 < e.1 ∧ (e.2.1 a3).1 = 13 ∧ (e.2.1 a3).2 < 2 ^ 31) ∧ 0 ≤ ((i2 * (10 : Int32)) + i4) ∧ (Int32.toNatClampNeg ((i2 * (10 : Int32)) + i4)) < (e.2.1 a3).2 then (stI (I a3 (Int32.toNatClampNeg ((i2 * (10 : Int32)) + i4))) (fun v_47 => (if v_47 = (-1 : Int32) then (g_146 n dp e 4 I L i1 i2 i4 v_47 0 a3) else (if 0 ≤ v_47 ∧ (Int32.toNatClampNeg v_47) < 16 then (if 0 ≤ i4 ∧ (Int32.toNatClampNeg i4) < 10 then (if 1 ≤ dp then (g_77 n (dp - 1) e 0 I L (1 : Int32) v_47 i1 0 0).bind (fun ⟨x0_81, I0_81, L0_81⟩ => (if 0 ≤ v_47 ∧ (Int32.toNatClampNeg v_47) < 16 then (stI (u2 I0_81 74 (Int32.toNatClampNeg v_47) ((I 74 (Int32.toNatClampNeg v_47)) + ((I 77 (Int32.toNatClampNeg i4)) * x0_81))) (fun I_86 => (if 0 ≤ v_47 ∧ (Int32.toNatClampNeg v_47) < 16 then (if (I_86 75 (Int32.toNatClampNeg v_47)) = (-1 : Int32) then (if 1 ≤ dp then (g_77 n (dp - 1) e 0 I_86 L0_81 (2 : Int32) v_47 i1 0 0).bind (fun ⟨x1_112, I1_112, L1_112⟩ => (if 0 ≤ v_47 ∧ (Int32.toNatClampNeg v_47) < 16 then (stI (u2 I1_112 75 (Int32.toNatClampNeg v_47) x1_112) (fun I_115 => (g_146 n dp e 2 I_115 L1_112 i1 i2 i4 v_47 0 a3))) else none)) else none) else (g_146 n dp e 2 I_86 L0_81 i1 i2 i4 v_47 0 a3)) else none))) else none)) else none) else none) else none)))) else none)) := by rw [g_146.eq_2, if_neg (show ¬ ((1 : Nat) = 0) by decide), if_pos (show (1 : Nat) = 1 from rfl)]
set_option maxRecDepth 100000 in
theorem e_146_2 (n dp : Nat) (e : EN) (I : (Nat → Nat → Int32)) (L : (Nat → Nat → Int64)) (i1 : Int32) (i2 : Int32) (i4 : Int32) (i5 : Int32) (i6 : Int32) (a3 : Nat) : g_146 (n + 1) dp e 2 I L i1 i2 i4 i5 i6 a3 = (g_146 n dp e 3 I L i1 i2 i4 i5 (i4 + (1 : Int32)) a3) := by rw [g_146.eq_2, if_neg (show ¬ ((2 : Nat) = 0) by decide), if_neg (show ¬ ((2 : Nat) = 1) by decide), if_pos (show (2 : Nat) = 2 from rfl)]
set_option maxRecDepth 100000 in
theorem e_146_3 (n dp : Nat) (e : EN) (I : (Nat → Nat → Int32)) (L : (Nat → Nat → Int64)) (i1 : Int32) (i2 : Int32) (i4 : Int32) (i5 : Int32) (i6 : Int32) (a3 : Nat) : g_146 (n + 1) dp e 3 I L i1 i2 i4 i5 i6 a3 = (if (10 : Int32) ≤ i6 then (g_146 n dp e 4 I L i1 i2 i4 i5 0 a3) else (if 0 ≤ i6 ∧ (Int32.toNatClampNeg i6) < 10 then (if 0 ≤ i4 ∧ (Int32.toNatClampNeg i4) < 10 then ((e.2.2 1 7).bind (fun b_148 => (if b_148 < e.1 ∧ (e.2.1 b_148).1 = 10 then ((e.2.2 b_148 7).bind (fun b_151 => (if (b_151 < e.1 ∧ (e.2.1 b_151).1 = 13 ∧ (e.2.1 b_151).2 < 2 ^ 31) ∧ 0 ≤ ((i5 * (10 : Int32)) + i6) ∧ (Int32.toNatClampNeg ((i5 * (10 : Int32)) + i6)) < (e.2.1 b_151).2 then (if 0 ≤ i6 ∧ (Int32.toNatClampNeg i6) < 10 then (stI (u2 I 77 (Int32.toNatClampNeg i6) ((I 77 (Int32.toNatClampNeg i6)) + ((I 77 (Int32.toNatClampNeg i4)) * (I b_151 (Int32.toNatClampNeg ((i5 * (10 : Int32)) + i6)))))) (fun I_165 => (g_146 n dp e 3 I_165 L i1 i2 i4 i5 (i6 + Int32.ofInt (1)) a3))) else none) else none))) else none))) else none) else none)) := by rw [g_146.eq_2, if_neg (show ¬ ((3 : Nat) = 0) by decide), if_neg (show ¬ ((3 : Nat) = 1) by decide), if_neg (show ¬ ((3 : Nat) = 2) by decide), if_pos (show (3 : Nat) = 3 from rfl)]
set_option maxRecDepth 100000 in
theorem e_146_4 (n dp : Nat) (e : EN) (I : (Nat → Nat → Int32)) (L : (Nat → Nat → Int64)) (i1 : Int32) (i2 : Int32) (i4 : Int32) (i5 : Int32) (i6 : Int32) (a3 : Nat) : g_146 (n + 1) dp e 4 I L i1 i2 i4 i5 i6 a3 = (g_146 n dp e 1 I L i1 i2 (i4 + Int32.ofInt (1)) 0 0 a3) := by rw [g_146.eq_2, if_neg (show ¬ ((4 : Nat) = 0) by decide), if_neg (show ¬ ((4 : Nat) = 1) by decide), if_neg (show ¬ ((4 : Nat) = 2) by decide), if_neg (show ¬ ((4 : Nat) = 3) by decide), if_pos (show (4 : Nat) = 4 from rfl)]
set_option maxHeartbeats 8000000 in
set_option maxRecDepth 100000 in
theorem w_146 (X : GX) {z : Nat} {kd : Nat → Nat × Nat} {Rf : Nat → Nat → Option Nat} (hS : Sh z kd Rf) : ∀ (n dp d : Nat), dp ≤ d → ∀ (I : (Nat → Nat → Int32)) (L : (Nat → Nat → Int64)) (i1 : Int32) (i2 : Int32) (i4 : Int32) (i5 : Int32) (i6 : Int32) (a3 : Nat) (I1 : (Nat → Nat → Int32)) (L1 : (Nat → Nat → Int64)), (g_146 n dp (z, kd, Rf) 0 I L i1 i2 i4 i5 i6 a3 = some (I1, L1) → K X d 146 0 0 (AV (fun τ => τ = (z, kd, I1, L1, Rf))) 0 [some (.ref 73), some (.int i1), some (.int i2), none, none, none, none] [] (z, kd, I, L, Rf) 0 0) ∧
    (g_146 n dp (z, kd, Rf) 1 I L i1 i2 i4 i5 i6 a3 = some (I1, L1) → K X d 146 0 0 (AV (fun τ => τ = (z, kd, I1, L1, Rf))) 31 [some (.ref 73), some (.int i1), some (.int i2), some (.ref a3), some (.int i4), none, none] [] (z, kd, I, L, Rf) 0 0) ∧
    (g_146 n dp (z, kd, Rf) 2 I L i1 i2 i4 i5 i6 a3 = some (I1, L1) → K X d 146 0 0 (AV (fun τ => τ = (z, kd, I1, L1, Rf))) 116 [some (.ref 73), some (.int i1), some (.int i2), some (.ref a3), some (.int i4), some (.int i5), none] [] (z, kd, I, L, Rf) 0 0) ∧
    (g_146 n dp (z, kd, Rf) 3 I L i1 i2 i4 i5 i6 a3 = some (I1, L1) → K X d 146 0 0 (AV (fun τ => τ = (z, kd, I1, L1, Rf))) 122 [some (.ref 73), some (.int i1), some (.int i2), some (.ref a3), some (.int i4), some (.int i5), some (.int i6)] [] (z, kd, I, L, Rf) 0 0) ∧
    (g_146 n dp (z, kd, Rf) 4 I L i1 i2 i4 i5 i6 a3 = some (I1, L1) → K X d 146 0 0 (AV (fun τ => τ = (z, kd, I1, L1, Rf))) 172 [some (.ref 73), some (.int i1), some (.int i2), some (.ref a3), some (.int i4), some (.int i5), none] [] (z, kd, I, L, Rf) 0 0) := by
  intro n
  induction n with
  | zero => intro dp d hdp I L i1 i2 i4 i5 i6 a3 I1 L1; exact ⟨(fun h => by cases h), (fun h => by cases h), (fun h => by cases h), (fun h => by cases h), (fun h => by cases h)⟩
  | succ n ih =>
    intro dp d hdp I L i1 i2 i4 i5 i6 a3 I1 L1
    refine ⟨?_, ?_, ?_, ?_, ?_⟩
    · intro h
      rw [e_146_0] at h
      refine K_of b_146_0 h_146_0 ?_
      refine q_aload rfl ?_
      refine q_getRs (c0 := 1) (j := 2) rfl rfl (zl hS 73 (by decide)) (sk hS 73 (by decide) rfl) rfl (by decide) (r_73_2 hS) ?_
      refine q_getRs (c0 := 7) (j := 2) rfl rfl (zl hS 24 (by decide)) (sk hS 24 (by decide) rfl) rfl (by decide) (r_24_2 hS) ?_
      refine q_iload rfl ?_
      obtain ⟨⟨u_8, v_8⟩, h⟩ := ite_some h
      obtain ⟨b_8, r_8, h⟩ := Option.bind_eq_some_iff.mp h
      refine q_aald (zl hS 25 (by decide)) (sk hS 25 (by decide) rfl) (by decide) (in_of u_8 v_8) r_8 ?_
      obtain ⟨⟨z_9, k_9⟩, h⟩ := ite_some h
      obtain ⟨b_9, r_9, h⟩ := Option.bind_eq_some_iff.mp h
      refine q_getRs (c0 := 2) (j := 0) rfl rfl z_9 (fst_eq k_9) rfl (by decide) r_9 ?_
      refine q_astore (ls1 := [some (.ref 73), some (.int i1), some (.int i2), some (.ref b_9), none, none, none]) rfl (Nat.le_of_ble_eq_true rfl) rfl ?_
      refine q_aload rfl ?_
      refine q_getRs (c0 := 1) (j := 6) rfl rfl (zl hS 73 (by decide)) (sk hS 73 (by decide) rfl) rfl (by decide) (r_73_6 hS) ?_
      refine q_iconst (0) (by decide) ?_
      obtain ⟨d_18, h⟩ := ite_some h
      obtain ⟨⟨I0_18, L0_18⟩, e_18, h⟩ := Option.bind_eq_some_iff.mp h
      dsimp only at h
      refine q_fs2V (a_36 X hS (d := d - 1) (by omega) e_18) (by omega) (Nat.le_refl _) (Nat.le_refl _) rfl (Nat.le_of_ble_eq_true rfl) ?_
      refine q_aload rfl ?_
      refine q_getRs (c0 := 1) (j := 6) rfl rfl (zl hS 73 (by decide)) (sk hS 73 (by decide) rfl) rfl (by decide) (r_73_6 hS) ?_
      refine q_iconst (0) (by decide) ?_
      refine q_iconst (1) (by decide) ?_
      refine q_iasN (0) rfl (zl hS 77 (by decide)) (sk hS 77 (by decide) rfl) (by decide) (by decide) ?_
      obtain ⟨I_27, nI_27, h⟩ := stI_some h
      refine q_nI nI_27 ?_
      refine q_iconst (0) (by decide) ?_
      refine q_istore (ls1 := [some (.ref 73), some (.int i1), some (.int i2), some (.ref b_9), some (.int (0 : Int32)), none, none]) (Nat.le_of_ble_eq_true rfl) rfl ?_
      refine q_end ?_
      exact (ih dp d hdp _ _ i1 i2 (0 : Int32) 0 0 b_9 _ _).2.1 h
    · intro h
      rw [e_146_1] at h
      refine K_of b_146_31 h_146_31 ?_
      refine q_iload rfl ?_
      refine q_iconst (10) (by decide) ?_
      refine q_icmp_ge (fun c_35 => ?_) (fun c_35 => ?_)
      · rw [if_pos c_35] at h
        refine K_of b_146_178 h_146_178 ?_
        cases h
        exact q_vret rfl (Nat.le_refl _) (Nat.le_refl _) rfl
      · rw [if_neg c_35] at h
        refine q_aload rfl ?_
        refine q_iload rfl ?_
        refine q_iconst (10) (by decide) ?_
        refine q_imul ?_
        refine q_iload rfl ?_
        refine q_iadd ?_
        obtain ⟨⟨⟨z_46, k_46, m_46⟩, u_46, v_46⟩, h⟩ := ite_some h
        refine q_ialN (Int32.toNatClampNeg ((i2 * (10 : Int32)) + i4)) (nx u_46) z_46 (fst_eq k_46) v_46 m_46 ?_
        obtain ⟨v_47, nv_47, h⟩ := stI_some h
        refine q_eqi nv_47.symm ?_
        refine q_istore (ls1 := [some (.ref 73), some (.int i1), some (.int i2), some (.ref a3), some (.int i4), some (.int v_47), none]) (Nat.le_of_ble_eq_true rfl) rfl ?_
        refine q_iload rfl ?_
        refine q_iconst (-1) (by decide) ?_
        refine q_icmp_ne (fun c_52 => ?_) (fun c_52 => ?_)
        · rw [if_neg c_52] at h
          refine K_of b_146_58 h_146_58 ?_
          refine q_aload rfl ?_
          refine q_getRs (c0 := 1) (j := 3) rfl rfl (zl hS 73 (by decide)) (sk hS 73 (by decide) rfl) rfl (by decide) (r_73_3 hS) ?_
          refine q_iload rfl ?_
          refine q_dup2 rfl rfl ?_
          obtain ⟨⟨u_65, v_65⟩, h⟩ := ite_some h
          refine q_ialN (Int32.toNatClampNeg v_47) (nx u_65) (zl hS 74 (by decide)) (sk hS 74 (by decide) rfl) v_65 (by decide) ?_
          refine q_aload rfl ?_
          refine q_getRs (c0 := 1) (j := 6) rfl rfl (zl hS 73 (by decide)) (sk hS 73 (by decide) rfl) rfl (by decide) (r_73_6 hS) ?_
          refine q_iload rfl ?_
          obtain ⟨⟨u_72, v_72⟩, h⟩ := ite_some h
          refine q_ialN (Int32.toNatClampNeg i4) (nx u_72) (zl hS 77 (by decide)) (sk hS 77 (by decide) rfl) v_72 (by decide) ?_
          refine q_aload rfl ?_
          refine q_getRs (c0 := 1) (j := 1) rfl rfl (zl hS 73 (by decide)) (sk hS 73 (by decide) rfl) rfl (by decide) (r_73_1 hS) ?_
          refine q_iconst (1) (by decide) ?_
          refine q_iload rfl ?_
          refine q_iload rfl ?_
          obtain ⟨d_81, h⟩ := ite_some h
          obtain ⟨⟨x0_81, I0_81, L0_81⟩, e_81, h⟩ := Option.bind_eq_some_iff.mp h
          dsimp only at h
          refine q_fv4I (a_77 X hS (d := d - 1) (by omega) e_81) (by omega) (Nat.le_refl _) (Nat.le_refl _) rfl (Nat.le_of_ble_eq_true rfl) ⟨(zl hS 21 (by decide)), congrArg Prod.fst (sk hS 21 (by decide) rfl), by decide⟩ ?_
          refine q_imul ?_
          refine q_iadd ?_
          obtain ⟨⟨u_86, v_86⟩, h⟩ := ite_some h
          refine q_iasN (Int32.toNatClampNeg v_47) (nx u_86) (zl hS 74 (by decide)) (sk hS 74 (by decide) rfl) v_86 (by decide) ?_
          obtain ⟨I_86, nI_86, h⟩ := stI_some h
          refine q_nI nI_86 ?_
          refine q_aload rfl ?_
          refine q_getRs (c0 := 1) (j := 4) rfl rfl (zl hS 73 (by decide)) (sk hS 73 (by decide) rfl) rfl (by decide) (r_73_4 hS) ?_
          refine q_iload rfl ?_
          obtain ⟨⟨u_93, v_93⟩, h⟩ := ite_some h
          refine q_ialN (Int32.toNatClampNeg v_47) (nx u_93) (zl hS 75 (by decide)) (sk hS 75 (by decide) rfl) v_93 (by decide) ?_
          refine q_iconst (-1) (by decide) ?_
          refine q_icmp_ne (fun c_95 => ?_) (fun c_95 => ?_)
          · rw [if_neg c_95] at h
            exact (ih dp d hdp _ _ i1 i2 i4 v_47 0 a3 _ _).2.2.1 h
          · rw [if_pos c_95] at h
            refine q_aload rfl ?_
            refine q_getRs (c0 := 1) (j := 4) rfl rfl (zl hS 73 (by decide)) (sk hS 73 (by decide) rfl) rfl (by decide) (r_73_4 hS) ?_
            refine q_iload rfl ?_
            refine q_aload rfl ?_
            refine q_getRs (c0 := 1) (j := 1) rfl rfl (zl hS 73 (by decide)) (sk hS 73 (by decide) rfl) rfl (by decide) (r_73_1 hS) ?_
            refine q_iconst (2) (by decide) ?_
            refine q_iload rfl ?_
            refine q_iload rfl ?_
            obtain ⟨d_112, h⟩ := ite_some h
            obtain ⟨⟨x1_112, I1_112, L1_112⟩, e_112, h⟩ := Option.bind_eq_some_iff.mp h
            dsimp only at h
            refine q_fv4I (a_77 X hS (d := d - 1) (by omega) e_112) (by omega) (Nat.le_refl _) (Nat.le_refl _) rfl (Nat.le_of_ble_eq_true rfl) ⟨(zl hS 21 (by decide)), congrArg Prod.fst (sk hS 21 (by decide) rfl), by decide⟩ ?_
            obtain ⟨⟨u_115, v_115⟩, h⟩ := ite_some h
            refine q_iasN (Int32.toNatClampNeg v_47) (nx u_115) (zl hS 75 (by decide)) (sk hS 75 (by decide) rfl) v_115 (by decide) ?_
            obtain ⟨I_115, nI_115, h⟩ := stI_some h
            refine q_nI nI_115 ?_
            refine q_end ?_
            exact (ih dp d hdp _ _ i1 i2 i4 v_47 0 a3 _ _).2.2.1 h
        · rw [if_pos c_52] at h
          refine q_goto ?_
          exact (ih dp d hdp _ _ i1 i2 i4 v_47 0 a3 _ _).2.2.2.2 h
    · intro h
      rw [e_146_2] at h
      refine K_of b_146_116 h_146_116 ?_
      refine q_iload rfl ?_
      refine q_iconst (1) (by decide) ?_
      refine q_iadd ?_
      refine q_istore (ls1 := [some (.ref 73), some (.int i1), some (.int i2), some (.ref a3), some (.int i4), some (.int i5), some (.int (i4 + (1 : Int32)))]) (Nat.le_of_ble_eq_true rfl) rfl ?_
      refine q_end ?_
      exact (ih dp d hdp _ _ i1 i2 i4 i5 (i4 + (1 : Int32)) a3 _ _).2.2.2.1 h
    · intro h
      rw [e_146_3] at h
      refine K_of b_146_122 h_146_122 ?_
      refine q_iload rfl ?_
      refine q_iconst (10) (by decide) ?_
      refine q_icmp_ge (fun c_126 => ?_) (fun c_126 => ?_)
      · rw [if_pos c_126] at h
        refine K_mask [true, true, true, true, true, true, false] (Nat.le_of_ble_eq_true rfl) ?_
        exact (ih dp d hdp _ _ i1 i2 i4 i5 0 a3 _ _).2.2.2.2 h
      · rw [if_neg c_126] at h
        refine q_aload rfl ?_
        refine q_getRs (c0 := 1) (j := 6) rfl rfl (zl hS 73 (by decide)) (sk hS 73 (by decide) rfl) rfl (by decide) (r_73_6 hS) ?_
        refine q_iload rfl ?_
        refine q_dup2 rfl rfl ?_
        obtain ⟨⟨u_136, v_136⟩, h⟩ := ite_some h
        refine q_ialN (Int32.toNatClampNeg i6) (nx u_136) (zl hS 77 (by decide)) (sk hS 77 (by decide) rfl) v_136 (by decide) ?_
        refine q_aload rfl ?_
        refine q_getRs (c0 := 1) (j := 6) rfl rfl (zl hS 73 (by decide)) (sk hS 73 (by decide) rfl) rfl (by decide) (r_73_6 hS) ?_
        refine q_iload rfl ?_
        obtain ⟨⟨u_143, v_143⟩, h⟩ := ite_some h
        refine q_ialN (Int32.toNatClampNeg i4) (nx u_143) (zl hS 77 (by decide)) (sk hS 77 (by decide) rfl) v_143 (by decide) ?_
        refine q_aload rfl ?_
        refine q_getRs (c0 := 1) (j := 0) rfl rfl (zl hS 73 (by decide)) (sk hS 73 (by decide) rfl) rfl (by decide) (r_73_0 hS) ?_
        obtain ⟨b_148, r_148, h⟩ := Option.bind_eq_some_iff.mp h
        refine q_getRs (c0 := 3) (j := 7) rfl rfl (zl hS 1 (by decide)) (sk hS 1 (by decide) rfl) rfl (by decide) r_148 ?_
        obtain ⟨⟨z_151, k_151⟩, h⟩ := ite_some h
        obtain ⟨b_151, r_151, h⟩ := Option.bind_eq_some_iff.mp h
        refine q_getRs (c0 := 10) (j := 7) rfl rfl z_151 (fst_eq k_151) rfl (by decide) r_151 ?_
        refine q_iload rfl ?_
        refine q_iconst (10) (by decide) ?_
        refine q_imul ?_
        refine q_iload rfl ?_
        refine q_iadd ?_
        obtain ⟨⟨⟨z_162, k_162, m_162⟩, u_162, v_162⟩, h⟩ := ite_some h
        refine q_ialN (Int32.toNatClampNeg ((i5 * (10 : Int32)) + i6)) (nx u_162) z_162 (fst_eq k_162) v_162 m_162 ?_
        refine q_imul ?_
        refine q_iadd ?_
        obtain ⟨⟨u_165, v_165⟩, h⟩ := ite_some h
        refine q_iasN (Int32.toNatClampNeg i6) (nx u_165) (zl hS 77 (by decide)) (sk hS 77 (by decide) rfl) v_165 (by decide) ?_
        obtain ⟨I_165, nI_165, h⟩ := stI_some h
        refine q_nI nI_165 ?_
        refine q_iinc (ls1 := [some (.ref 73), some (.int i1), some (.int i2), some (.ref a3), some (.int i4), some (.int i5), some (.int (i6 + Int32.ofInt (1)))]) rfl rfl ?_
        refine q_goto ?_
        exact (ih dp d hdp _ _ i1 i2 i4 i5 (i6 + Int32.ofInt (1)) a3 _ _).2.2.2.1 h
    · intro h
      rw [e_146_4] at h
      refine K_of b_146_172 h_146_172 ?_
      refine q_iinc (ls1 := [some (.ref 73), some (.int i1), some (.int i2), some (.ref a3), some (.int (i4 + Int32.ofInt (1))), some (.int i5), none]) rfl rfl ?_
      refine q_goto ?_
      refine K_mask [true, true, true, true, true, false, false] (Nat.le_of_ble_eq_true rfl) ?_
      exact (ih dp d hdp _ _ i1 i2 (i4 + Int32.ofInt (1)) 0 0 a3 _ _).2.1 h
theorem a_146 (X : GX) {z : Nat} {kd : Nat → Nat × Nat} {Rf : Nat → Nat → Option Nat} (hS : Sh z kd Rf) {n dp d : Nat} (hd : dp ≤ d) {I : (Nat → Nat → Int32)} {L : (Nat → Nat → Int64)} {i1 : Int32} {i2 : Int32} {I1 : (Nat → Nat → Int32)} {L1 : (Nat → Nat → Int64)} (h : g_146 n dp (z, kd, Rf) 0 I L i1 i2 0 0 0 0 = some (I1, L1)) : Ct X d 146 0 0 [.ref 73, .int i1, .int i2] (z, kd, I, L, Rf) (AV (fun τ => τ = (z, kd, I1, L1, Rf))) :=
  Ct_of mu_146 (Nat.le_of_ble_eq_true rfl) ((w_146 X hS n dp d hd I L i1 i2 0 0 0 0 _ _).1 h)

/-! 145 CutFloor$Crew.listTasks()V -/
set_option maxHeartbeats 4000000 in
set_option maxRecDepth 100000 in
def g_145 : Nat → Nat → EN → Nat → (Nat → Nat → Int32) → (Nat → Nat → Int64) → Int32 → Int32 →  Option ((Nat → Nat → Int32) × (Nat → Nat → Int64))
  | 0, _, _, _, _, _, _, _ => none
  | n + 1, dp, e, lab, I, L, i1, i2 =>
    if lab = 0 then (if (I 73 15) = 0 then (some (I, L)) else (stI (u2 I 73 15 (0 : Int32)) (fun I_10 => (if 1 ≤ dp then (g_36 n (dp - 1) e 0 I_10 L (0 : Int32) 0 0 74).bind (fun ⟨I0_18, L0_18⟩ => (if 1 ≤ dp then (g_36 n (dp - 1) e 0 I0_18 L0_18 (-1 : Int32) 0 0 75).bind (fun ⟨I1_26, L1_26⟩ => (if 1 ≤ dp then (g_16 n (dp - 1) e 0 I1_26 L1_26).bind (fun ⟨x2_33, I2_33, L2_33⟩ => (g_145 n dp e 1 I2_33 L2_33 x2_33 (0 : Int32))) else none)) else none)) else none))))
    else if lab = 1 then (if i1 ≤ i2 then (stI (u2 I 73 10 (0 : Int32)) (fun I_73 => (stI (u2 I_73 73 11 (0 : Int32)) (fun I_78 => (g_145 n dp e 2 I_78 L i1 (0 : Int32)))))) else (if 1 ≤ dp then (g_121 n (dp - 1) e 0 I L i2).bind (fun ⟨x0_50, I0_50, L0_50⟩ => (if 0 ≤ i2 ∧ (Int32.toNatClampNeg i2) < 8 then (if 1 ≤ dp then (g_146 n (dp - 1) e 0 I0_50 L0_50 x0_50 (I0_50 55 (Int32.toNatClampNeg i2)) 0 0 0 0).bind (fun ⟨I1_62, L1_62⟩ => (g_145 n dp e 1 I1_62 L1_62 i1 (i2 + Int32.ofInt (1)))) else none) else none)) else none))
    else if lab = 2 then (if (16 : Int32) ≤ i2 then (some (I, L)) else (if 0 ≤ i2 ∧ (Int32.toNatClampNeg i2) < 16 then (if (I 75 (Int32.toNatClampNeg i2)) = (-1 : Int32) then (g_145 n dp e 3 I L i1 i2) else (if 0 ≤ (I 73 10) ∧ (Int32.toNatClampNeg (I 73 10)) < 16 then (stI (u2 I 78 (Int32.toNatClampNeg (I 73 10)) i2) (fun I_108 => (stI (u2 I_108 73 10 ((I_108 73 10) + (1 : Int32))) (fun I_116 => (if 0 ≤ i2 ∧ (Int32.toNatClampNeg i2) < 16 then (stI (u2 I_116 73 11 ((I_116 73 11) + (I_116 74 (Int32.toNatClampNeg i2)))) (fun I_131 => (g_145 n dp e 3 I_131 L i1 i2))) else none))))) else none)) else none))
    else if lab = 3 then (g_145 n dp e 2 I L i1 (i2 + Int32.ofInt (1)))
    else none
set_option maxRecDepth 100000 in
theorem e_145_0 (n dp : Nat) (e : EN) (I : (Nat → Nat → Int32)) (L : (Nat → Nat → Int64)) (i1 : Int32) (i2 : Int32) : g_145 (n + 1) dp e 0 I L i1 i2 = (if (I 73 15) = 0 then (some (I, L)) else (stI (u2 I 73 15 (0 : Int32)) (fun I_10 => (if 1 ≤ dp then (g_36 n (dp - 1) e 0 I_10 L (0 : Int32) 0 0 74).bind (fun ⟨I0_18, L0_18⟩ => (if 1 ≤ dp then (g_36 n (dp - 1) e 0 I0_18 L0_18 (-1 : Int32) 0 0 75).bind (fun ⟨I1_26, L1_26⟩ => (if 1 ≤ dp then (g_16 n (dp - 1) e 0 I1_26 L1_26).bind (fun ⟨x2_33, I2_33, L2_33⟩ => (g_145 n dp e 1 I2_33 L2_33 x2_33 (0 : Int32))) else none)) else none)) else none)))) := by rw [g_145.eq_2, if_pos (show (0 : Nat) = 0 from rfl)]
set_option maxRecDepth 100000 in
theorem e_145_1 (n dp : Nat) (e : EN) (I : (Nat → Nat → Int32)) (L : (Nat → Nat → Int64)) (i1 : Int32) (i2 : Int32) : g_145 (n + 1) dp e 1 I L i1 i2 = (if i1 ≤ i2 then (stI (u2 I 73 10 (0 : Int32)) (fun I_73 => (stI (u2 I_73 73 11 (0 : Int32)) (fun I_78 => (g_145 n dp e 2 I_78 L i1 (0 : Int32)))))) else (if 1 ≤ dp then (g_121 n (dp - 1) e 0 I L i2).bind (fun ⟨x0_50, I0_50, L0_50⟩ => (if 0 ≤ i2 ∧ (Int32.toNatClampNeg i2) < 8 then (if 1 ≤ dp then (g_146 n (dp - 1) e 0 I0_50 L0_50 x0_50 (I0_50 55 (Int32.toNatClampNeg i2)) 0 0 0 0).bind (fun ⟨I1_62, L1_62⟩ => (g_145 n dp e 1 I1_62 L1_62 i1 (i2 + Int32.ofInt (1)))) else none) else none)) else none)) := by rw [g_145.eq_2, if_neg (show ¬ ((1 : Nat) = 0) by decide), if_pos (show (1 : Nat) = 1 from rfl)]
set_option maxRecDepth 100000 in
theorem e_145_2 (n dp : Nat) (e : EN) (I : (Nat → Nat → Int32)) (L : (Nat → Nat → Int64)) (i1 : Int32) (i2 : Int32) : g_145 (n + 1) dp e 2 I L i1 i2 = (if (16 : Int32) ≤ i2 then (some (I, L)) else (if 0 ≤ i2 ∧ (Int32.toNatClampNeg i2) < 16 then (if (I 75 (Int32.toNatClampNeg i2)) = (-1 : Int32) then (g_145 n dp e 3 I L i1 i2) else (if 0 ≤ (I 73 10) ∧ (Int32.toNatClampNeg (I 73 10)) < 16 then (stI (u2 I 78 (Int32.toNatClampNeg (I 73 10)) i2) (fun I_108 => (stI (u2 I_108 73 10 ((I_108 73 10) + (1 : Int32))) (fun I_116 => (if 0 ≤ i2 ∧ (Int32.toNatClampNeg i2) < 16 then (stI (u2 I_116 73 11 ((I_116 73 11) + (I_116 74 (Int32.toNatClampNeg i2)))) (fun I_131 => (g_145 n dp e 3 I_131 L i1 i2))) else none))))) else none)) else none)) := by rw [g_145.eq_2, if_neg (show ¬ ((2 : Nat) = 0) by decide), if_neg (show ¬ ((2 : Nat) = 1) by decide), if_pos (show (2 : Nat) = 2 from rfl)]
set_option maxRecDepth 100000 in
theorem e_145_3 (n dp : Nat) (e : EN) (I : (Nat → Nat → Int32)) (L : (Nat → Nat → Int64)) (i1 : Int32) (i2 : Int32) : g_145 (n + 1) dp e 3 I L i1 i2 = (g_145 n dp e 2 I L i1 (i2 + Int32.ofInt (1))) := by rw [g_145.eq_2, if_neg (show ¬ ((3 : Nat) = 0) by decide), if_neg (show ¬ ((3 : Nat) = 1) by decide), if_neg (show ¬ ((3 : Nat) = 2) by decide), if_pos (show (3 : Nat) = 3 from rfl)]
set_option maxHeartbeats 8000000 in
set_option maxRecDepth 100000 in
theorem w_145 (X : GX) {z : Nat} {kd : Nat → Nat × Nat} {Rf : Nat → Nat → Option Nat} (hS : Sh z kd Rf) : ∀ (n dp d : Nat), dp ≤ d → ∀ (I : (Nat → Nat → Int32)) (L : (Nat → Nat → Int64)) (i1 : Int32) (i2 : Int32) (I1 : (Nat → Nat → Int32)) (L1 : (Nat → Nat → Int64)), (g_145 n dp (z, kd, Rf) 0 I L i1 i2 = some (I1, L1) → K X d 145 0 0 (AV (fun τ => τ = (z, kd, I1, L1, Rf))) 0 [some (.ref 73), none, none] [] (z, kd, I, L, Rf) 0 0) ∧
    (g_145 n dp (z, kd, Rf) 1 I L i1 i2 = some (I1, L1) → K X d 145 0 0 (AV (fun τ => τ = (z, kd, I1, L1, Rf))) 39 [some (.ref 73), some (.int i1), some (.int i2)] [] (z, kd, I, L, Rf) 0 0) ∧
    (g_145 n dp (z, kd, Rf) 2 I L i1 i2 = some (I1, L1) → K X d 145 0 0 (AV (fun τ => τ = (z, kd, I1, L1, Rf))) 83 [some (.ref 73), some (.int i1), some (.int i2)] [] (z, kd, I, L, Rf) 0 0) ∧
    (g_145 n dp (z, kd, Rf) 3 I L i1 i2 = some (I1, L1) → K X d 145 0 0 (AV (fun τ => τ = (z, kd, I1, L1, Rf))) 134 [some (.ref 73), some (.int i1), some (.int i2)] [] (z, kd, I, L, Rf) 0 0) := by
  intro n
  induction n with
  | zero => intro dp d hdp I L i1 i2 I1 L1; exact ⟨(fun h => by cases h), (fun h => by cases h), (fun h => by cases h), (fun h => by cases h)⟩
  | succ n ih =>
    intro dp d hdp I L i1 i2 I1 L1
    refine ⟨?_, ?_, ?_, ?_⟩
    · intro h
      rw [e_145_0] at h
      refine K_of b_145_0 h_145_0 ?_
      refine q_aload rfl ?_
      refine q_getI (c0 := 1) (j := 15) rfl rfl (zl hS 73 (by decide)) (sk hS 73 (by decide) rfl) (Or.inr rfl) (by decide) ?_
      refine q_if_ne (fun c_4 => ?_) (fun c_4 => ?_)
      · rw [if_neg c_4] at h
        refine K_of b_145_8 h_145_8 ?_
        refine q_aload rfl ?_
        refine q_iconst (0) (by decide) ?_
        refine q_putZ (c0 := 1) (j := 15) rfl rfl (zl hS 73 (by decide)) (sk hS 73 (by decide) rfl) rfl (Or.inl rfl) ?_
        obtain ⟨I_10, nI_10, h⟩ := stI_some h
        refine q_nI nI_10 ?_
        refine q_aload rfl ?_
        refine q_getRs (c0 := 1) (j := 3) rfl rfl (zl hS 73 (by decide)) (sk hS 73 (by decide) rfl) rfl (by decide) (r_73_3 hS) ?_
        refine q_iconst (0) (by decide) ?_
        obtain ⟨d_18, h⟩ := ite_some h
        obtain ⟨⟨I0_18, L0_18⟩, e_18, h⟩ := Option.bind_eq_some_iff.mp h
        dsimp only at h
        refine q_fs2V (a_36 X hS (d := d - 1) (by omega) e_18) (by omega) (Nat.le_refl _) (Nat.le_refl _) rfl (Nat.le_of_ble_eq_true rfl) ?_
        refine q_aload rfl ?_
        refine q_getRs (c0 := 1) (j := 4) rfl rfl (zl hS 73 (by decide)) (sk hS 73 (by decide) rfl) rfl (by decide) (r_73_4 hS) ?_
        refine q_iconst (-1) (by decide) ?_
        obtain ⟨d_26, h⟩ := ite_some h
        obtain ⟨⟨I1_26, L1_26⟩, e_26, h⟩ := Option.bind_eq_some_iff.mp h
        dsimp only at h
        refine q_fs2V (a_36 X hS (d := d - 1) (by omega) e_26) (by omega) (Nat.le_refl _) (Nat.le_refl _) rfl (Nat.le_of_ble_eq_true rfl) ?_
        refine q_aload rfl ?_
        refine q_getRs (c0 := 1) (j := 0) rfl rfl (zl hS 73 (by decide)) (sk hS 73 (by decide) rfl) rfl (by decide) (r_73_0 hS) ?_
        obtain ⟨d_33, h⟩ := ite_some h
        obtain ⟨⟨x2_33, I2_33, L2_33⟩, e_33, h⟩ := Option.bind_eq_some_iff.mp h
        dsimp only at h
        refine q_fv1I (a_16 X hS (d := d - 1) (by omega) e_33) (by omega) (Nat.le_refl _) (Nat.le_refl _) rfl (Nat.le_of_ble_eq_true rfl) ⟨(zl hS 1 (by decide)), congrArg Prod.fst (sk hS 1 (by decide) rfl), by decide⟩ ?_
        refine q_istore (ls1 := [some (.ref 73), some (.int x2_33), none]) (Nat.le_of_ble_eq_true rfl) rfl ?_
        refine q_iconst (0) (by decide) ?_
        refine q_istore (ls1 := [some (.ref 73), some (.int x2_33), some (.int (0 : Int32))]) (Nat.le_of_ble_eq_true rfl) rfl ?_
        refine q_end ?_
        exact (ih dp d hdp _ _ x2_33 (0 : Int32) _ _).2.1 h
      · rw [if_pos c_4] at h
        cases h
        exact q_vret rfl (Nat.le_refl _) (Nat.le_refl _) rfl
    · intro h
      rw [e_145_1] at h
      refine K_of b_145_39 h_145_39 ?_
      refine q_iload rfl ?_
      refine q_iload rfl ?_
      refine q_icmp_ge (fun c_41 => ?_) (fun c_41 => ?_)
      · rw [if_pos c_41] at h
        refine K_of b_145_71 h_145_71 ?_
        refine q_aload rfl ?_
        refine q_iconst (0) (by decide) ?_
        refine q_putI (c0 := 1) (j := 10) rfl rfl (zl hS 73 (by decide)) (sk hS 73 (by decide) rfl) rfl ?_
        obtain ⟨I_73, nI_73, h⟩ := stI_some h
        refine q_nI nI_73 ?_
        refine q_aload rfl ?_
        refine q_iconst (0) (by decide) ?_
        refine q_putI (c0 := 1) (j := 11) rfl rfl (zl hS 73 (by decide)) (sk hS 73 (by decide) rfl) rfl ?_
        obtain ⟨I_78, nI_78, h⟩ := stI_some h
        refine q_nI nI_78 ?_
        refine q_iconst (0) (by decide) ?_
        refine q_istore (ls1 := [some (.ref 73), some (.int i1), some (.int (0 : Int32))]) (Nat.le_of_ble_eq_true rfl) rfl ?_
        refine q_end ?_
        exact (ih dp d hdp _ _ i1 (0 : Int32) _ _).2.2.1 h
      · rw [if_neg c_41] at h
        refine q_aload rfl ?_
        refine q_aload rfl ?_
        refine q_getRs (c0 := 1) (j := 0) rfl rfl (zl hS 73 (by decide)) (sk hS 73 (by decide) rfl) rfl (by decide) (r_73_0 hS) ?_
        refine q_iload rfl ?_
        obtain ⟨d_50, h⟩ := ite_some h
        obtain ⟨⟨x0_50, I0_50, L0_50⟩, e_50, h⟩ := Option.bind_eq_some_iff.mp h
        dsimp only at h
        refine q_fv2I (a_121 X hS (d := d - 1) (by omega) e_50) (by omega) (Nat.le_refl _) (Nat.le_refl _) rfl (Nat.le_of_ble_eq_true rfl) ⟨(zl hS 1 (by decide)), congrArg Prod.fst (sk hS 1 (by decide) rfl), by decide⟩ ?_
        refine q_aload rfl ?_
        refine q_getRs (c0 := 1) (j := 2) rfl rfl (zl hS 73 (by decide)) (sk hS 73 (by decide) rfl) rfl (by decide) (r_73_2 hS) ?_
        refine q_getRs (c0 := 7) (j := 9) rfl rfl (zl hS 24 (by decide)) (sk hS 24 (by decide) rfl) rfl (by decide) (r_24_9 hS) ?_
        refine q_iload rfl ?_
        obtain ⟨⟨u_61, v_61⟩, h⟩ := ite_some h
        refine q_ialN (Int32.toNatClampNeg i2) (nx u_61) (zl hS 55 (by decide)) (sk hS 55 (by decide) rfl) v_61 (by decide) ?_
        obtain ⟨d_62, h⟩ := ite_some h
        obtain ⟨⟨I1_62, L1_62⟩, e_62, h⟩ := Option.bind_eq_some_iff.mp h
        dsimp only at h
        refine q_fv3V (a_146 X hS (d := d - 1) (by omega) e_62) (by omega) (Nat.le_refl _) (Nat.le_refl _) rfl (Nat.le_of_ble_eq_true rfl) ⟨(zl hS 73 (by decide)), congrArg Prod.fst (sk hS 73 (by decide) rfl), by decide⟩ ?_
        refine q_iinc (ls1 := [some (.ref 73), some (.int i1), some (.int (i2 + Int32.ofInt (1)))]) rfl rfl ?_
        refine q_goto ?_
        exact (ih dp d hdp _ _ i1 (i2 + Int32.ofInt (1)) _ _).2.1 h
    · intro h
      rw [e_145_2] at h
      refine K_of b_145_83 h_145_83 ?_
      refine q_iload rfl ?_
      refine q_iconst (16) (by decide) ?_
      refine q_icmp_ge (fun c_86 => ?_) (fun c_86 => ?_)
      · rw [if_pos c_86] at h
        refine K_of b_145_140 h_145_140 ?_
        cases h
        exact q_vret rfl (Nat.le_refl _) (Nat.le_refl _) rfl
      · rw [if_neg c_86] at h
        refine q_aload rfl ?_
        refine q_getRs (c0 := 1) (j := 4) rfl rfl (zl hS 73 (by decide)) (sk hS 73 (by decide) rfl) rfl (by decide) (r_73_4 hS) ?_
        refine q_iload rfl ?_
        obtain ⟨⟨u_94, v_94⟩, h⟩ := ite_some h
        refine q_ialN (Int32.toNatClampNeg i2) (nx u_94) (zl hS 75 (by decide)) (sk hS 75 (by decide) rfl) v_94 (by decide) ?_
        refine q_iconst (-1) (by decide) ?_
        refine q_icmp_eq (fun c_96 => ?_) (fun c_96 => ?_)
        · rw [if_pos c_96] at h
          exact (ih dp d hdp _ _ i1 i2 _ _).2.2.2 h
        · rw [if_neg c_96] at h
          refine q_aload rfl ?_
          refine q_getRs (c0 := 1) (j := 7) rfl rfl (zl hS 73 (by decide)) (sk hS 73 (by decide) rfl) rfl (by decide) (r_73_7 hS) ?_
          refine q_aload rfl ?_
          refine q_getI (c0 := 1) (j := 10) rfl rfl (zl hS 73 (by decide)) (sk hS 73 (by decide) rfl) (Or.inl rfl) (by decide) ?_
          refine q_iload rfl ?_
          obtain ⟨⟨u_108, v_108⟩, h⟩ := ite_some h
          refine q_iasN (Int32.toNatClampNeg (I 73 10)) (nx u_108) (zl hS 78 (by decide)) (sk hS 78 (by decide) rfl) v_108 (by decide) ?_
          obtain ⟨I_108, nI_108, h⟩ := stI_some h
          refine q_nI nI_108 ?_
          refine q_aload rfl ?_
          refine q_dup rfl ?_
          refine q_getI (c0 := 1) (j := 10) rfl rfl (zl hS 73 (by decide)) (sk hS 73 (by decide) rfl) (Or.inl rfl) (by decide) ?_
          refine q_iconst (1) (by decide) ?_
          refine q_iadd ?_
          refine q_putI (c0 := 1) (j := 10) rfl rfl (zl hS 73 (by decide)) (sk hS 73 (by decide) rfl) rfl ?_
          obtain ⟨I_116, nI_116, h⟩ := stI_some h
          refine q_nI nI_116 ?_
          refine q_aload rfl ?_
          refine q_dup rfl ?_
          refine q_getI (c0 := 1) (j := 11) rfl rfl (zl hS 73 (by decide)) (sk hS 73 (by decide) rfl) (Or.inl rfl) (by decide) ?_
          refine q_aload rfl ?_
          refine q_getRs (c0 := 1) (j := 3) rfl rfl (zl hS 73 (by decide)) (sk hS 73 (by decide) rfl) rfl (by decide) (r_73_3 hS) ?_
          refine q_iload rfl ?_
          obtain ⟨⟨u_129, v_129⟩, h⟩ := ite_some h
          refine q_ialN (Int32.toNatClampNeg i2) (nx u_129) (zl hS 74 (by decide)) (sk hS 74 (by decide) rfl) v_129 (by decide) ?_
          refine q_iadd ?_
          refine q_putI (c0 := 1) (j := 11) rfl rfl (zl hS 73 (by decide)) (sk hS 73 (by decide) rfl) rfl ?_
          obtain ⟨I_131, nI_131, h⟩ := stI_some h
          refine q_nI nI_131 ?_
          refine q_end ?_
          exact (ih dp d hdp _ _ i1 i2 _ _).2.2.2 h
    · intro h
      rw [e_145_3] at h
      refine K_of b_145_134 h_145_134 ?_
      refine q_iinc (ls1 := [some (.ref 73), some (.int i1), some (.int (i2 + Int32.ofInt (1)))]) rfl rfl ?_
      refine q_goto ?_
      exact (ih dp d hdp _ _ i1 (i2 + Int32.ofInt (1)) _ _).2.2.1 h
theorem a_145 (X : GX) {z : Nat} {kd : Nat → Nat × Nat} {Rf : Nat → Nat → Option Nat} (hS : Sh z kd Rf) {n dp d : Nat} (hd : dp ≤ d) {I : (Nat → Nat → Int32)} {L : (Nat → Nat → Int64)} {I1 : (Nat → Nat → Int32)} {L1 : (Nat → Nat → Int64)} (h : g_145 n dp (z, kd, Rf) 0 I L 0 0 = some (I1, L1)) : Ct X d 145 0 0 [.ref 73] (z, kd, I, L, Rf) (AV (fun τ => τ = (z, kd, I1, L1, Rf))) :=
  Ct_of mu_145 (Nat.le_of_ble_eq_true rfl) ((w_145 X hS n dp d hd I L 0 0 _ _).1 h)

/-! 150 CutFloor$Crew.isAhead(IIZ)Z -/
set_option maxHeartbeats 4000000 in
set_option maxRecDepth 100000 in
def g_150 : Nat → Nat → EN → Nat → (Nat → Nat → Int32) → (Nat → Nat → Int64) → Int32 → Int32 → Int32 →  Option (Int32 × (Nat → Nat → Int32) × (Nat → Nat → Int64))
  | 0, _, _, _, _, _, _, _, _ => none
  | n + 1, dp, e, lab, I, L, i1, i2, i3 =>
    if lab = 0 then (if i3 = 0 then (if i2 ≤ i1 then (some ((0 : Int32), I, L)) else (some ((1 : Int32), I, L))) else (if 0 ≤ i1 ∧ (Int32.toNatClampNeg i1) < 16 then (if 0 ≤ i2 ∧ (Int32.toNatClampNeg i2) < 16 then (if (I 74 (Int32.toNatClampNeg i1)) ≤ (I 74 (Int32.toNatClampNeg i2)) then (some ((0 : Int32), I, L)) else (some ((1 : Int32), I, L))) else none) else none))
    else none
set_option maxRecDepth 100000 in
theorem e_150_0 (n dp : Nat) (e : EN) (I : (Nat → Nat → Int32)) (L : (Nat → Nat → Int64)) (i1 : Int32) (i2 : Int32) (i3 : Int32) : g_150 (n + 1) dp e 0 I L i1 i2 i3 = (if i3 = 0 then (if i2 ≤ i1 then (some ((0 : Int32), I, L)) else (some ((1 : Int32), I, L))) else (if 0 ≤ i1 ∧ (Int32.toNatClampNeg i1) < 16 then (if 0 ≤ i2 ∧ (Int32.toNatClampNeg i2) < 16 then (if (I 74 (Int32.toNatClampNeg i1)) ≤ (I 74 (Int32.toNatClampNeg i2)) then (some ((0 : Int32), I, L)) else (some ((1 : Int32), I, L))) else none) else none)) := by rw [g_150.eq_2, if_pos (show (0 : Nat) = 0 from rfl)]
set_option maxHeartbeats 8000000 in
set_option maxRecDepth 100000 in
theorem w_150 (X : GX) {z : Nat} {kd : Nat → Nat × Nat} {Rf : Nat → Nat → Option Nat} (hS : Sh z kd Rf) : ∀ (n dp d : Nat), dp ≤ d → ∀ (I : (Nat → Nat → Int32)) (L : (Nat → Nat → Int64)) (i1 : Int32) (i2 : Int32) (i3 : Int32) (r : Int32) (I1 : (Nat → Nat → Int32)) (L1 : (Nat → Nat → Int64)), (g_150 n dp (z, kd, Rf) 0 I L i1 i2 i3 = some (r, I1, L1) → K X d 150 0 0 (AI (fun x τ => x = r ∧ τ = (z, kd, I1, L1, Rf))) 0 [some (.ref 73), some (.int i1), some (.int i2), some (.int i3)] [] (z, kd, I, L, Rf) 0 0) := by
  intro n
  induction n with
  | zero => intro dp d hdp I L i1 i2 i3 r I1 L1; exact fun h => by cases h
  | succ n ih =>
    intro dp d hdp I L i1 i2 i3 r I1 L1
    · intro h
      rw [e_150_0] at h
      refine K_of b_150_0 h_150_0 ?_
      refine q_iload rfl ?_
      refine q_if_eq (fun c_1 => ?_) (fun c_1 => ?_)
      · rw [if_pos c_1] at h
        refine K_of b_150_27 h_150_27 ?_
        refine q_iload rfl ?_
        refine q_iload rfl ?_
        refine q_icmp_ge (fun c_29 => ?_) (fun c_29 => ?_)
        · rw [if_pos c_29] at h
          refine K_of b_150_36 h_150_36 ?_
          refine q_iconst (0) (by decide) ?_
          refine q_end ?_
          refine K_of b_150_37 h_150_37 ?_
          cases h
          exact q_iret rfl (Nat.le_refl _) (Nat.le_refl _) ⟨rfl, rfl⟩
        · rw [if_neg c_29] at h
          refine q_iconst (1) (by decide) ?_
          refine q_goto ?_
          refine K_of b_150_37 h_150_37 ?_
          cases h
          exact q_iret rfl (Nat.le_refl _) (Nat.le_refl _) ⟨rfl, rfl⟩
      · rw [if_neg c_1] at h
        refine q_aload rfl ?_
        refine q_getRs (c0 := 1) (j := 3) rfl rfl (zl hS 73 (by decide)) (sk hS 73 (by decide) rfl) rfl (by decide) (r_73_3 hS) ?_
        refine q_iload rfl ?_
        obtain ⟨⟨u_9, v_9⟩, h⟩ := ite_some h
        refine q_ialN (Int32.toNatClampNeg i1) (nx u_9) (zl hS 74 (by decide)) (sk hS 74 (by decide) rfl) v_9 (by decide) ?_
        refine q_aload rfl ?_
        refine q_getRs (c0 := 1) (j := 3) rfl rfl (zl hS 73 (by decide)) (sk hS 73 (by decide) rfl) rfl (by decide) (r_73_3 hS) ?_
        refine q_iload rfl ?_
        obtain ⟨⟨u_15, v_15⟩, h⟩ := ite_some h
        refine q_ialN (Int32.toNatClampNeg i2) (nx u_15) (zl hS 74 (by decide)) (sk hS 74 (by decide) rfl) v_15 (by decide) ?_
        refine q_icmp_le (fun c_16 => ?_) (fun c_16 => ?_)
        · rw [if_pos c_16] at h
          refine K_of b_150_23 h_150_23 ?_
          refine q_iconst (0) (by decide) ?_
          refine q_goto ?_
          refine K_of b_150_37 h_150_37 ?_
          cases h
          exact q_iret rfl (Nat.le_refl _) (Nat.le_refl _) ⟨rfl, rfl⟩
        · rw [if_neg c_16] at h
          refine q_iconst (1) (by decide) ?_
          refine q_goto ?_
          refine K_of b_150_37 h_150_37 ?_
          cases h
          exact q_iret rfl (Nat.le_refl _) (Nat.le_refl _) ⟨rfl, rfl⟩
theorem a_150 (X : GX) {z : Nat} {kd : Nat → Nat × Nat} {Rf : Nat → Nat → Option Nat} (hS : Sh z kd Rf) {n dp d : Nat} (hd : dp ≤ d) {I : (Nat → Nat → Int32)} {L : (Nat → Nat → Int64)} {i1 : Int32} {i2 : Int32} {i3 : Int32} {I1 : (Nat → Nat → Int32)} {L1 : (Nat → Nat → Int64)} {r : Int32} (h : g_150 n dp (z, kd, Rf) 0 I L i1 i2 i3 = some (r, I1, L1)) : Ct X d 150 0 0 [.ref 73, .int i1, .int i2, .int i3] (z, kd, I, L, Rf) (AI (fun x τ => x = r ∧ τ = (z, kd, I1, L1, Rf))) :=
  Ct_of mu_150 (Nat.le_of_ble_eq_true rfl) ((w_150 X hS n dp d hd I L i1 i2 i3 _ _ _) h)

/-! 149 CutFloor$Crew.sortTasks(Z)V -/
set_option maxHeartbeats 4000000 in
set_option maxRecDepth 100000 in
def g_149 : Nat → Nat → EN → Nat → (Nat → Nat → Int32) → (Nat → Nat → Int64) → Int32 → Int32 → Int32 → Int32 →  Option ((Nat → Nat → Int32) × (Nat → Nat → Int64))
  | 0, _, _, _, _, _, _, _, _, _ => none
  | n + 1, dp, e, lab, I, L, i1, i2, i3, i4 =>
    if lab = 0 then (g_149 n dp e 1 I L i1 (1 : Int32) 0 0)
    else if lab = 1 then (if (I 73 10) ≤ i2 then (some (I, L)) else (if 0 ≤ i2 ∧ (Int32.toNatClampNeg i2) < 16 then (stI (I 78 (Int32.toNatClampNeg i2)) (fun v_16 => (g_149 n dp e 2 I L i1 i2 v_16 i2))) else none))
    else if lab = 2 then (if i4 ≤ 0 then (g_149 n dp e 3 I L i1 i2 i3 i4) else (if 0 ≤ (i4 - (1 : Int32)) ∧ (Int32.toNatClampNeg (i4 - (1 : Int32))) < 16 then (if 1 ≤ dp then (g_150 n (dp - 1) e 0 I L i3 (I 78 (Int32.toNatClampNeg (i4 - (1 : Int32)))) i1).bind (fun ⟨x0_37, I0_37, L0_37⟩ => (if x0_37 = 0 then (g_149 n dp e 3 I0_37 L0_37 i1 i2 i3 i4) else (if 0 ≤ (i4 - (1 : Int32)) ∧ (Int32.toNatClampNeg (i4 - (1 : Int32))) < 16 then (if 0 ≤ i4 ∧ (Int32.toNatClampNeg i4) < 16 then (stI (u2 I0_37 78 (Int32.toNatClampNeg i4) (I0_37 78 (Int32.toNatClampNeg (i4 - (1 : Int32))))) (fun I_58 => (g_149 n dp e 2 I_58 L0_37 i1 i2 i3 (i4 + Int32.ofInt (-1))))) else none) else none))) else none) else none))
    else if lab = 3 then (if 0 ≤ i4 ∧ (Int32.toNatClampNeg i4) < 16 then (stI (u2 I 78 (Int32.toNatClampNeg i4) i3) (fun I_72 => (g_149 n dp e 1 I_72 L i1 (i2 + Int32.ofInt (1)) 0 0))) else none)
    else none
set_option maxRecDepth 100000 in
theorem e_149_0 (n dp : Nat) (e : EN) (I : (Nat → Nat → Int32)) (L : (Nat → Nat → Int64)) (i1 : Int32) (i2 : Int32) (i3 : Int32) (i4 : Int32) : g_149 (n + 1) dp e 0 I L i1 i2 i3 i4 = (g_149 n dp e 1 I L i1 (1 : Int32) 0 0) := by rw [g_149.eq_2, if_pos (show (0 : Nat) = 0 from rfl)]
set_option maxRecDepth 100000 in
theorem e_149_1 (n dp : Nat) (e : EN) (I : (Nat → Nat → Int32)) (L : (Nat → Nat → Int64)) (i1 : Int32) (i2 : Int32) (i3 : Int32) (i4 : Int32) : g_149 (n + 1) dp e 1 I L i1 i2 i3 i4 = (if (I 73 10) ≤ i2 then (some (I, L)) else (if 0 ≤ i2 ∧ (Int32.toNatClampNeg i2) < 16 then (stI (I 78 (Int32.toNatClampNeg i2)) (fun v_16 => (g_149 n dp e 2 I L i1 i2 v_16 i2))) else none)) := by rw [g_149.eq_2, if_neg (show ¬ ((1 : Nat) = 0) by decide), if_pos (show (1 : Nat) = 1 from rfl)]
set_option maxRecDepth 100000 in
theorem e_149_2 (n dp : Nat) (e : EN) (I : (Nat → Nat → Int32)) (L : (Nat → Nat → Int64)) (i1 : Int32) (i2 : Int32) (i3 : Int32) (i4 : Int32) : g_149 (n + 1) dp e 2 I L i1 i2 i3 i4 = (if i4 ≤ 0 then (g_149 n dp e 3 I L i1 i2 i3 i4) else (if 0 ≤ (i4 - (1 : Int32)) ∧ (Int32.toNatClampNeg (i4 - (1 : Int32))) < 16 then (if 1 ≤ dp then (g_150 n (dp - 1) e 0 I L i3 (I 78 (Int32.toNatClampNeg (i4 - (1 : Int32)))) i1).bind (fun ⟨x0_37, I0_37, L0_37⟩ => (if x0_37 = 0 then (g_149 n dp e 3 I0_37 L0_37 i1 i2 i3 i4) else (if 0 ≤ (i4 - (1 : Int32)) ∧ (Int32.toNatClampNeg (i4 - (1 : Int32))) < 16 then (if 0 ≤ i4 ∧ (Int32.toNatClampNeg i4) < 16 then (stI (u2 I0_37 78 (Int32.toNatClampNeg i4) (I0_37 78 (Int32.toNatClampNeg (i4 - (1 : Int32))))) (fun I_58 => (g_149 n dp e 2 I_58 L0_37 i1 i2 i3 (i4 + Int32.ofInt (-1))))) else none) else none))) else none) else none)) := by rw [g_149.eq_2, if_neg (show ¬ ((2 : Nat) = 0) by decide), if_neg (show ¬ ((2 : Nat) = 1) by decide), if_pos (show (2 : Nat) = 2 from rfl)]
set_option maxRecDepth 100000 in
theorem e_149_3 (n dp : Nat) (e : EN) (I : (Nat → Nat → Int32)) (L : (Nat → Nat → Int64)) (i1 : Int32) (i2 : Int32) (i3 : Int32) (i4 : Int32) : g_149 (n + 1) dp e 3 I L i1 i2 i3 i4 = (if 0 ≤ i4 ∧ (Int32.toNatClampNeg i4) < 16 then (stI (u2 I 78 (Int32.toNatClampNeg i4) i3) (fun I_72 => (g_149 n dp e 1 I_72 L i1 (i2 + Int32.ofInt (1)) 0 0))) else none) := by rw [g_149.eq_2, if_neg (show ¬ ((3 : Nat) = 0) by decide), if_neg (show ¬ ((3 : Nat) = 1) by decide), if_neg (show ¬ ((3 : Nat) = 2) by decide), if_pos (show (3 : Nat) = 3 from rfl)]
set_option maxHeartbeats 8000000 in
set_option maxRecDepth 100000 in
theorem w_149 (X : GX) {z : Nat} {kd : Nat → Nat × Nat} {Rf : Nat → Nat → Option Nat} (hS : Sh z kd Rf) : ∀ (n dp d : Nat), dp ≤ d → ∀ (I : (Nat → Nat → Int32)) (L : (Nat → Nat → Int64)) (i1 : Int32) (i2 : Int32) (i3 : Int32) (i4 : Int32) (I1 : (Nat → Nat → Int32)) (L1 : (Nat → Nat → Int64)), (g_149 n dp (z, kd, Rf) 0 I L i1 i2 i3 i4 = some (I1, L1) → K X d 149 0 0 (AV (fun τ => τ = (z, kd, I1, L1, Rf))) 0 [some (.ref 73), some (.int i1), none, none, none] [] (z, kd, I, L, Rf) 0 0) ∧
    (g_149 n dp (z, kd, Rf) 1 I L i1 i2 i3 i4 = some (I1, L1) → K X d 149 0 0 (AV (fun τ => τ = (z, kd, I1, L1, Rf))) 2 [some (.ref 73), some (.int i1), some (.int i2), none, none] [] (z, kd, I, L, Rf) 0 0) ∧
    (g_149 n dp (z, kd, Rf) 2 I L i1 i2 i3 i4 = some (I1, L1) → K X d 149 0 0 (AV (fun τ => τ = (z, kd, I1, L1, Rf))) 20 [some (.ref 73), some (.int i1), some (.int i2), some (.int i3), some (.int i4)] [] (z, kd, I, L, Rf) 0 0) ∧
    (g_149 n dp (z, kd, Rf) 3 I L i1 i2 i3 i4 = some (I1, L1) → K X d 149 0 0 (AV (fun τ => τ = (z, kd, I1, L1, Rf))) 65 [some (.ref 73), some (.int i1), some (.int i2), some (.int i3), some (.int i4)] [] (z, kd, I, L, Rf) 0 0) := by
  intro n
  induction n with
  | zero => intro dp d hdp I L i1 i2 i3 i4 I1 L1; exact ⟨(fun h => by cases h), (fun h => by cases h), (fun h => by cases h), (fun h => by cases h)⟩
  | succ n ih =>
    intro dp d hdp I L i1 i2 i3 i4 I1 L1
    refine ⟨?_, ?_, ?_, ?_⟩
    · intro h
      rw [e_149_0] at h
      refine K_of b_149_0 h_149_0 ?_
      refine q_iconst (1) (by decide) ?_
      refine q_istore (ls1 := [some (.ref 73), some (.int i1), some (.int (1 : Int32)), none, none]) (Nat.le_of_ble_eq_true rfl) rfl ?_
      refine q_end ?_
      exact (ih dp d hdp _ _ i1 (1 : Int32) 0 0 _ _).2.1 h
    · intro h
      rw [e_149_1] at h
      refine K_of b_149_2 h_149_2 ?_
      refine q_iload rfl ?_
      refine q_aload rfl ?_
      refine q_getI (c0 := 1) (j := 10) rfl rfl (zl hS 73 (by decide)) (sk hS 73 (by decide) rfl) (Or.inl rfl) (by decide) ?_
      refine q_icmp_ge (fun c_7 => ?_) (fun c_7 => ?_)
      · rw [if_pos c_7] at h
        refine K_of b_149_79 h_149_79 ?_
        cases h
        exact q_vret rfl (Nat.le_refl _) (Nat.le_refl _) rfl
      · rw [if_neg c_7] at h
        refine q_aload rfl ?_
        refine q_getRs (c0 := 1) (j := 7) rfl rfl (zl hS 73 (by decide)) (sk hS 73 (by decide) rfl) rfl (by decide) (r_73_7 hS) ?_
        refine q_iload rfl ?_
        obtain ⟨⟨u_15, v_15⟩, h⟩ := ite_some h
        refine q_ialN (Int32.toNatClampNeg i2) (nx u_15) (zl hS 78 (by decide)) (sk hS 78 (by decide) rfl) v_15 (by decide) ?_
        obtain ⟨v_16, nv_16, h⟩ := stI_some h
        refine q_eqi nv_16.symm ?_
        refine q_istore (ls1 := [some (.ref 73), some (.int i1), some (.int i2), some (.int v_16), none]) (Nat.le_of_ble_eq_true rfl) rfl ?_
        refine q_iload rfl ?_
        refine q_istore (ls1 := [some (.ref 73), some (.int i1), some (.int i2), some (.int v_16), some (.int i2)]) (Nat.le_of_ble_eq_true rfl) rfl ?_
        refine q_end ?_
        exact (ih dp d hdp _ _ i1 i2 v_16 i2 _ _).2.2.1 h
    · intro h
      rw [e_149_2] at h
      refine K_of b_149_20 h_149_20 ?_
      refine q_iload rfl ?_
      refine q_if_le (fun c_22 => ?_) (fun c_22 => ?_)
      · rw [if_pos c_22] at h
        exact (ih dp d hdp _ _ i1 i2 i3 i4 _ _).2.2.2 h
      · rw [if_neg c_22] at h
        refine q_aload rfl ?_
        refine q_iload rfl ?_
        refine q_aload rfl ?_
        refine q_getRs (c0 := 1) (j := 7) rfl rfl (zl hS 73 (by decide)) (sk hS 73 (by decide) rfl) rfl (by decide) (r_73_7 hS) ?_
        refine q_iload rfl ?_
        refine q_iconst (1) (by decide) ?_
        refine q_isub ?_
        obtain ⟨⟨u_35, v_35⟩, h⟩ := ite_some h
        refine q_ialN (Int32.toNatClampNeg (i4 - (1 : Int32))) (nx u_35) (zl hS 78 (by decide)) (sk hS 78 (by decide) rfl) v_35 (by decide) ?_
        refine q_iload rfl ?_
        obtain ⟨d_37, h⟩ := ite_some h
        obtain ⟨⟨x0_37, I0_37, L0_37⟩, e_37, h⟩ := Option.bind_eq_some_iff.mp h
        dsimp only at h
        refine q_fv4I (a_150 X hS (d := d - 1) (by omega) e_37) (by omega) (Nat.le_refl _) (Nat.le_refl _) rfl (Nat.le_of_ble_eq_true rfl) ⟨(zl hS 73 (by decide)), congrArg Prod.fst (sk hS 73 (by decide) rfl), by decide⟩ ?_
        refine q_if_eq (fun c_40 => ?_) (fun c_40 => ?_)
        · rw [if_pos c_40] at h
          exact (ih dp d hdp _ _ i1 i2 i3 i4 _ _).2.2.2 h
        · rw [if_neg c_40] at h
          refine q_aload rfl ?_
          refine q_getRs (c0 := 1) (j := 7) rfl rfl (zl hS 73 (by decide)) (sk hS 73 (by decide) rfl) rfl (by decide) (r_73_7 hS) ?_
          refine q_iload rfl ?_
          refine q_aload rfl ?_
          refine q_getRs (c0 := 1) (j := 7) rfl rfl (zl hS 73 (by decide)) (sk hS 73 (by decide) rfl) rfl (by decide) (r_73_7 hS) ?_
          refine q_iload rfl ?_
          refine q_iconst (1) (by decide) ?_
          refine q_isub ?_
          obtain ⟨⟨u_57, v_57⟩, h⟩ := ite_some h
          refine q_ialN (Int32.toNatClampNeg (i4 - (1 : Int32))) (nx u_57) (zl hS 78 (by decide)) (sk hS 78 (by decide) rfl) v_57 (by decide) ?_
          obtain ⟨⟨u_58, v_58⟩, h⟩ := ite_some h
          refine q_iasN (Int32.toNatClampNeg i4) (nx u_58) (zl hS 78 (by decide)) (sk hS 78 (by decide) rfl) v_58 (by decide) ?_
          obtain ⟨I_58, nI_58, h⟩ := stI_some h
          refine q_nI nI_58 ?_
          refine q_iinc (ls1 := [some (.ref 73), some (.int i1), some (.int i2), some (.int i3), some (.int (i4 + Int32.ofInt (-1)))]) rfl rfl ?_
          refine q_goto ?_
          exact (ih dp d hdp _ _ i1 i2 i3 (i4 + Int32.ofInt (-1)) _ _).2.2.1 h
    · intro h
      rw [e_149_3] at h
      refine K_of b_149_65 h_149_65 ?_
      refine q_aload rfl ?_
      refine q_getRs (c0 := 1) (j := 7) rfl rfl (zl hS 73 (by decide)) (sk hS 73 (by decide) rfl) rfl (by decide) (r_73_7 hS) ?_
      refine q_iload rfl ?_
      refine q_iload rfl ?_
      obtain ⟨⟨u_72, v_72⟩, h⟩ := ite_some h
      refine q_iasN (Int32.toNatClampNeg i4) (nx u_72) (zl hS 78 (by decide)) (sk hS 78 (by decide) rfl) v_72 (by decide) ?_
      obtain ⟨I_72, nI_72, h⟩ := stI_some h
      refine q_nI nI_72 ?_
      refine q_iinc (ls1 := [some (.ref 73), some (.int i1), some (.int (i2 + Int32.ofInt (1))), some (.int i3), some (.int i4)]) rfl rfl ?_
      refine q_goto ?_
      refine K_mask [true, true, true, false, false] (Nat.le_of_ble_eq_true rfl) ?_
      exact (ih dp d hdp _ _ i1 (i2 + Int32.ofInt (1)) 0 0 _ _).2.1 h
theorem a_149 (X : GX) {z : Nat} {kd : Nat → Nat × Nat} {Rf : Nat → Nat → Option Nat} (hS : Sh z kd Rf) {n dp d : Nat} (hd : dp ≤ d) {I : (Nat → Nat → Int32)} {L : (Nat → Nat → Int64)} {i1 : Int32} {I1 : (Nat → Nat → Int32)} {L1 : (Nat → Nat → Int64)} (h : g_149 n dp (z, kd, Rf) 0 I L i1 0 0 0 = some (I1, L1)) : Ct X d 149 0 0 [.ref 73, .int i1] (z, kd, I, L, Rf) (AV (fun τ => τ = (z, kd, I1, L1, Rf))) :=
  Ct_of mu_149 (Nat.le_of_ble_eq_true rfl) ((w_149 X hS n dp d hd I L i1 0 0 0 _ _).1 h)

