/-! 152 CutFloor$Crew.keepTried(I)V -/
set_option maxHeartbeats 4000000 in
set_option maxRecDepth 100000 in
def g_152 : Nat → Nat → EN → Nat → (Nat → Nat → Int32) → (Nat → Nat → Int64) → Int32 → Int32 →  Option ((Nat → Nat → Int32) × (Nat → Nat → Int64))
  | 0, _, _, _, _, _, _, _ => none
  | n + 1, dp, e, lab, I, L, i1, i2 =>
    if lab = 0 then (stI (u2 I 73 13 i1) (fun I_2 => (g_152 n dp e 1 I_2 L i1 (0 : Int32))))
    else if lab = 1 then (if (I 73 10) ≤ i2 then (some (I, L)) else (if 0 ≤ i2 ∧ (Int32.toNatClampNeg i2) < 16 then (if 0 ≤ i2 ∧ (Int32.toNatClampNeg i2) < 16 then (if 0 ≤ (I 78 (Int32.toNatClampNeg i2)) ∧ (Int32.toNatClampNeg (I 78 (Int32.toNatClampNeg i2))) < 16 then (stI (u2 I 76 (Int32.toNatClampNeg (I 78 (Int32.toNatClampNeg i2))) (I 79 (Int32.toNatClampNeg i2))) (fun I_31 => (g_152 n dp e 1 I_31 L i1 (i2 + Int32.ofInt (1))))) else none) else none) else none))
    else none
set_option maxRecDepth 100000 in
theorem e_152_0 (n dp : Nat) (e : EN) (I : (Nat → Nat → Int32)) (L : (Nat → Nat → Int64)) (i1 : Int32) (i2 : Int32) : g_152 (n + 1) dp e 0 I L i1 i2 = (stI (u2 I 73 13 i1) (fun I_2 => (g_152 n dp e 1 I_2 L i1 (0 : Int32)))) := by rw [g_152.eq_2, if_pos (show (0 : Nat) = 0 from rfl)]
set_option maxRecDepth 100000 in
theorem e_152_1 (n dp : Nat) (e : EN) (I : (Nat → Nat → Int32)) (L : (Nat → Nat → Int64)) (i1 : Int32) (i2 : Int32) : g_152 (n + 1) dp e 1 I L i1 i2 = (if (I 73 10) ≤ i2 then (some (I, L)) else (if 0 ≤ i2 ∧ (Int32.toNatClampNeg i2) < 16 then (if 0 ≤ i2 ∧ (Int32.toNatClampNeg i2) < 16 then (if 0 ≤ (I 78 (Int32.toNatClampNeg i2)) ∧ (Int32.toNatClampNeg (I 78 (Int32.toNatClampNeg i2))) < 16 then (stI (u2 I 76 (Int32.toNatClampNeg (I 78 (Int32.toNatClampNeg i2))) (I 79 (Int32.toNatClampNeg i2))) (fun I_31 => (g_152 n dp e 1 I_31 L i1 (i2 + Int32.ofInt (1))))) else none) else none) else none)) := by rw [g_152.eq_2, if_neg (show ¬ ((1 : Nat) = 0) by decide), if_pos (show (1 : Nat) = 1 from rfl)]
set_option maxHeartbeats 8000000 in
set_option maxRecDepth 100000 in
theorem w_152 (X : GX) {z : Nat} {kd : Nat → Nat × Nat} {Rf : Nat → Nat → Option Nat} (hS : Sh z kd Rf) : ∀ (n dp d : Nat), dp ≤ d → ∀ (I : (Nat → Nat → Int32)) (L : (Nat → Nat → Int64)) (i1 : Int32) (i2 : Int32) (I1 : (Nat → Nat → Int32)) (L1 : (Nat → Nat → Int64)), (g_152 n dp (z, kd, Rf) 0 I L i1 i2 = some (I1, L1) → K X d 152 0 0 (AV (fun τ => τ = (z, kd, I1, L1, Rf))) 0 [some (.ref 73), some (.int i1), none] [] (z, kd, I, L, Rf) 0 0) ∧
    (g_152 n dp (z, kd, Rf) 1 I L i1 i2 = some (I1, L1) → K X d 152 0 0 (AV (fun τ => τ = (z, kd, I1, L1, Rf))) 7 [some (.ref 73), some (.int i1), some (.int i2)] [] (z, kd, I, L, Rf) 0 0) := by
  intro n
  induction n with
  | zero => intro dp d hdp I L i1 i2 I1 L1; exact ⟨(fun h => by cases h), (fun h => by cases h)⟩
  | succ n ih =>
    intro dp d hdp I L i1 i2 I1 L1
    refine ⟨?_, ?_⟩
    · intro h
      rw [e_152_0] at h
      refine K_of b_152_0 h_152_0 ?_
      refine q_aload rfl ?_
      refine q_iload rfl ?_
      refine q_putI (c0 := 1) (j := 13) rfl rfl (zl hS 73 (by decide)) (sk hS 73 (by decide) rfl) rfl ?_
      obtain ⟨I_2, nI_2, h⟩ := stI_some h
      refine q_nI nI_2 ?_
      refine q_iconst (0) (by decide) ?_
      refine q_istore (ls1 := [some (.ref 73), some (.int i1), some (.int (0 : Int32))]) (Nat.le_of_ble_eq_true rfl) rfl ?_
      refine q_end ?_
      exact (ih dp d hdp _ _ i1 (0 : Int32) _ _).2 h
    · intro h
      rw [e_152_1] at h
      refine K_of b_152_7 h_152_7 ?_
      refine q_iload rfl ?_
      refine q_aload rfl ?_
      refine q_getI (c0 := 1) (j := 10) rfl rfl (zl hS 73 (by decide)) (sk hS 73 (by decide) rfl) (Or.inl rfl) (by decide) ?_
      refine q_icmp_ge (fun c_12 => ?_) (fun c_12 => ?_)
      · rw [if_pos c_12] at h
        refine K_of b_152_38 h_152_38 ?_
        cases h
        exact q_vret rfl (Nat.le_refl _) (Nat.le_refl _) rfl
      · rw [if_neg c_12] at h
        refine q_aload rfl ?_
        refine q_getRs (c0 := 1) (j := 5) rfl rfl (zl hS 73 (by decide)) (sk hS 73 (by decide) rfl) rfl (by decide) (r_73_5 hS) ?_
        refine q_aload rfl ?_
        refine q_getRs (c0 := 1) (j := 7) rfl rfl (zl hS 73 (by decide)) (sk hS 73 (by decide) rfl) rfl (by decide) (r_73_7 hS) ?_
        refine q_iload rfl ?_
        obtain ⟨⟨u_24, v_24⟩, h⟩ := ite_some h
        refine q_ialN (Int32.toNatClampNeg i2) (nx u_24) (zl hS 78 (by decide)) (sk hS 78 (by decide) rfl) v_24 (by decide) ?_
        refine q_aload rfl ?_
        refine q_getRs (c0 := 1) (j := 8) rfl rfl (zl hS 73 (by decide)) (sk hS 73 (by decide) rfl) rfl (by decide) (r_73_8 hS) ?_
        refine q_iload rfl ?_
        obtain ⟨⟨u_30, v_30⟩, h⟩ := ite_some h
        refine q_ialN (Int32.toNatClampNeg i2) (nx u_30) (zl hS 79 (by decide)) (sk hS 79 (by decide) rfl) v_30 (by decide) ?_
        obtain ⟨⟨u_31, v_31⟩, h⟩ := ite_some h
        refine q_iasN (Int32.toNatClampNeg (I 78 (Int32.toNatClampNeg i2))) (nx u_31) (zl hS 76 (by decide)) (sk hS 76 (by decide) rfl) v_31 (by decide) ?_
        obtain ⟨I_31, nI_31, h⟩ := stI_some h
        refine q_nI nI_31 ?_
        refine q_iinc (ls1 := [some (.ref 73), some (.int i1), some (.int (i2 + Int32.ofInt (1)))]) rfl rfl ?_
        refine q_goto ?_
        exact (ih dp d hdp _ _ i1 (i2 + Int32.ofInt (1)) _ _).2 h
theorem a_152 (X : GX) {z : Nat} {kd : Nat → Nat × Nat} {Rf : Nat → Nat → Option Nat} (hS : Sh z kd Rf) {n dp d : Nat} (hd : dp ≤ d) {I : (Nat → Nat → Int32)} {L : (Nat → Nat → Int64)} {i1 : Int32} {I1 : (Nat → Nat → Int32)} {L1 : (Nat → Nat → Int64)} (h : g_152 n dp (z, kd, Rf) 0 I L i1 0 = some (I1, L1)) : Ct X d 152 0 0 [.ref 73, .int i1] (z, kd, I, L, Rf) (AV (fun τ => τ = (z, kd, I1, L1, Rf))) :=
  Ct_of mu_152 (Nat.le_of_ble_eq_true rfl) ((w_152 X hS n dp d hd I L i1 0 _ _).1 h)

/-! 153 CutFloor$Crew.canDo(II)Z -/
set_option maxHeartbeats 4000000 in
set_option maxRecDepth 100000 in
def g_153 : Nat → Nat → EN → Nat → (Nat → Nat → Int32) → (Nat → Nat → Int64) → Int32 → Int32 →  Option (Int32 × (Nat → Nat → Int32) × (Nat → Nat → Int64))
  | 0, _, _, _, _, _, _, _ => none
  | n + 1, dp, e, lab, I, L, i1, i2 =>
    if lab = 0 then (if 0 ≤ i1 ∧ (Int32.toNatClampNeg i1) < 4 then (if 0 ≤ i2 ∧ (Int32.toNatClampNeg i2) < 16 then (if (((I 5 (Int32.toNatClampNeg i1)) >>> ((I 75 (Int32.toNatClampNeg i2)) &&& 31)) &&& (1 : Int32)) = (1 : Int32) then (some ((1 : Int32), I, L)) else (some ((0 : Int32), I, L))) else none) else none)
    else none
set_option maxRecDepth 100000 in
theorem e_153_0 (n dp : Nat) (e : EN) (I : (Nat → Nat → Int32)) (L : (Nat → Nat → Int64)) (i1 : Int32) (i2 : Int32) : g_153 (n + 1) dp e 0 I L i1 i2 = (if 0 ≤ i1 ∧ (Int32.toNatClampNeg i1) < 4 then (if 0 ≤ i2 ∧ (Int32.toNatClampNeg i2) < 16 then (if (((I 5 (Int32.toNatClampNeg i1)) >>> ((I 75 (Int32.toNatClampNeg i2)) &&& 31)) &&& (1 : Int32)) = (1 : Int32) then (some ((1 : Int32), I, L)) else (some ((0 : Int32), I, L))) else none) else none) := by rw [g_153.eq_2, if_pos (show (0 : Nat) = 0 from rfl)]
set_option maxHeartbeats 8000000 in
set_option maxRecDepth 100000 in
theorem w_153 (X : GX) {z : Nat} {kd : Nat → Nat × Nat} {Rf : Nat → Nat → Option Nat} (hS : Sh z kd Rf) : ∀ (n dp d : Nat), dp ≤ d → ∀ (I : (Nat → Nat → Int32)) (L : (Nat → Nat → Int64)) (i1 : Int32) (i2 : Int32) (r : Int32) (I1 : (Nat → Nat → Int32)) (L1 : (Nat → Nat → Int64)), (g_153 n dp (z, kd, Rf) 0 I L i1 i2 = some (r, I1, L1) → K X d 153 0 0 (AI (fun x τ => x = r ∧ τ = (z, kd, I1, L1, Rf))) 0 [some (.ref 73), some (.int i1), some (.int i2)] [] (z, kd, I, L, Rf) 0 0) := by
  intro n
  induction n with
  | zero => intro dp d hdp I L i1 i2 r I1 L1; exact fun h => by cases h
  | succ n ih =>
    intro dp d hdp I L i1 i2 r I1 L1
    · intro h
      rw [e_153_0] at h
      refine K_of b_153_0 h_153_0 ?_
      refine q_aload rfl ?_
      refine q_getRs (c0 := 1) (j := 0) rfl rfl (zl hS 73 (by decide)) (sk hS 73 (by decide) rfl) rfl (by decide) (r_73_0 hS) ?_
      refine q_getRs (c0 := 3) (j := 3) rfl rfl (zl hS 1 (by decide)) (sk hS 1 (by decide) rfl) rfl (by decide) (r_1_3 hS) ?_
      refine q_iload rfl ?_
      obtain ⟨⟨u_8, v_8⟩, h⟩ := ite_some h
      refine q_ialN (Int32.toNatClampNeg i1) (nx u_8) (zl hS 5 (by decide)) (sk hS 5 (by decide) rfl) v_8 (by decide) ?_
      refine q_aload rfl ?_
      refine q_getRs (c0 := 1) (j := 4) rfl rfl (zl hS 73 (by decide)) (sk hS 73 (by decide) rfl) rfl (by decide) (r_73_4 hS) ?_
      refine q_iload rfl ?_
      obtain ⟨⟨u_14, v_14⟩, h⟩ := ite_some h
      refine q_ialN (Int32.toNatClampNeg i2) (nx u_14) (zl hS 75 (by decide)) (sk hS 75 (by decide) rfl) v_14 (by decide) ?_
      refine q_ishr ?_
      refine q_iconst (1) (by decide) ?_
      refine q_iand ?_
      refine q_iconst (1) (by decide) ?_
      refine q_icmp_ne (fun c_19 => ?_) (fun c_19 => ?_)
      · rw [if_neg c_19] at h
        refine K_of b_153_26 h_153_26 ?_
        refine q_iconst (0) (by decide) ?_
        refine q_end ?_
        refine K_of b_153_27 h_153_27 ?_
        cases h
        exact q_iret rfl (Nat.le_refl _) (Nat.le_refl _) ⟨rfl, rfl⟩
      · rw [if_pos c_19] at h
        refine q_iconst (1) (by decide) ?_
        refine q_goto ?_
        refine K_of b_153_27 h_153_27 ?_
        cases h
        exact q_iret rfl (Nat.le_refl _) (Nat.le_refl _) ⟨rfl, rfl⟩
theorem a_153 (X : GX) {z : Nat} {kd : Nat → Nat × Nat} {Rf : Nat → Nat → Option Nat} (hS : Sh z kd Rf) {n dp d : Nat} (hd : dp ≤ d) {I : (Nat → Nat → Int32)} {L : (Nat → Nat → Int64)} {i1 : Int32} {i2 : Int32} {I1 : (Nat → Nat → Int32)} {L1 : (Nat → Nat → Int64)} {r : Int32} (h : g_153 n dp (z, kd, Rf) 0 I L i1 i2 = some (r, I1, L1)) : Ct X d 153 0 0 [.ref 73, .int i1, .int i2] (z, kd, I, L, Rf) (AI (fun x τ => x = r ∧ τ = (z, kd, I1, L1, Rf))) :=
  Ct_of mu_153 (Nat.le_of_ble_eq_true rfl) ((w_153 X hS n dp d hd I L i1 i2 _ _ _) h)

/-! 154 CutFloor$Crew.isLikeEarlier(I)Z -/
set_option maxHeartbeats 4000000 in
set_option maxRecDepth 100000 in
def g_154 : Nat → Nat → EN → Nat → (Nat → Nat → Int32) → (Nat → Nat → Int64) → Int32 → Int32 →  Option (Int32 × (Nat → Nat → Int32) × (Nat → Nat → Int64))
  | 0, _, _, _, _, _, _, _ => none
  | n + 1, dp, e, lab, I, L, i1, i2 =>
    if lab = 0 then (g_154 n dp e 1 I L i1 (0 : Int32))
    else if lab = 1 then (if i1 ≤ i2 then (some ((0 : Int32), I, L)) else (if 0 ≤ i2 ∧ (Int32.toNatClampNeg i2) < 4 then (if 0 ≤ i1 ∧ (Int32.toNatClampNeg i1) < 4 then (if (I 5 (Int32.toNatClampNeg i2)) = (I 5 (Int32.toNatClampNeg i1)) then (if 0 ≤ i2 ∧ (Int32.toNatClampNeg i2) < 4 then (if 0 ≤ i1 ∧ (Int32.toNatClampNeg i1) < 4 then (if (I 80 (Int32.toNatClampNeg i2)) = (I 80 (Int32.toNatClampNeg i1)) then (some ((1 : Int32), I, L)) else (g_154 n dp e 2 I L i1 i2)) else none) else none) else (g_154 n dp e 2 I L i1 i2)) else none) else none))
    else if lab = 2 then (g_154 n dp e 1 I L i1 (i2 + Int32.ofInt (1)))
    else none
set_option maxRecDepth 100000 in
theorem e_154_0 (n dp : Nat) (e : EN) (I : (Nat → Nat → Int32)) (L : (Nat → Nat → Int64)) (i1 : Int32) (i2 : Int32) : g_154 (n + 1) dp e 0 I L i1 i2 = (g_154 n dp e 1 I L i1 (0 : Int32)) := by rw [g_154.eq_2, if_pos (show (0 : Nat) = 0 from rfl)]
set_option maxRecDepth 100000 in
theorem e_154_1 (n dp : Nat) (e : EN) (I : (Nat → Nat → Int32)) (L : (Nat → Nat → Int64)) (i1 : Int32) (i2 : Int32) : g_154 (n + 1) dp e 1 I L i1 i2 = (if i1 ≤ i2 then (some ((0 : Int32), I, L)) else (if 0 ≤ i2 ∧ (Int32.toNatClampNeg i2) < 4 then (if 0 ≤ i1 ∧ (Int32.toNatClampNeg i1) < 4 then (if (I 5 (Int32.toNatClampNeg i2)) = (I 5 (Int32.toNatClampNeg i1)) then (if 0 ≤ i2 ∧ (Int32.toNatClampNeg i2) < 4 then (if 0 ≤ i1 ∧ (Int32.toNatClampNeg i1) < 4 then (if (I 80 (Int32.toNatClampNeg i2)) = (I 80 (Int32.toNatClampNeg i1)) then (some ((1 : Int32), I, L)) else (g_154 n dp e 2 I L i1 i2)) else none) else none) else (g_154 n dp e 2 I L i1 i2)) else none) else none)) := by rw [g_154.eq_2, if_neg (show ¬ ((1 : Nat) = 0) by decide), if_pos (show (1 : Nat) = 1 from rfl)]
set_option maxRecDepth 100000 in
theorem e_154_2 (n dp : Nat) (e : EN) (I : (Nat → Nat → Int32)) (L : (Nat → Nat → Int64)) (i1 : Int32) (i2 : Int32) : g_154 (n + 1) dp e 2 I L i1 i2 = (g_154 n dp e 1 I L i1 (i2 + Int32.ofInt (1))) := by rw [g_154.eq_2, if_neg (show ¬ ((2 : Nat) = 0) by decide), if_neg (show ¬ ((2 : Nat) = 1) by decide), if_pos (show (2 : Nat) = 2 from rfl)]
set_option maxHeartbeats 8000000 in
set_option maxRecDepth 100000 in
theorem w_154 (X : GX) {z : Nat} {kd : Nat → Nat × Nat} {Rf : Nat → Nat → Option Nat} (hS : Sh z kd Rf) : ∀ (n dp d : Nat), dp ≤ d → ∀ (I : (Nat → Nat → Int32)) (L : (Nat → Nat → Int64)) (i1 : Int32) (i2 : Int32) (r : Int32) (I1 : (Nat → Nat → Int32)) (L1 : (Nat → Nat → Int64)), (g_154 n dp (z, kd, Rf) 0 I L i1 i2 = some (r, I1, L1) → K X d 154 0 0 (AI (fun x τ => x = r ∧ τ = (z, kd, I1, L1, Rf))) 0 [some (.ref 73), some (.int i1), none] [] (z, kd, I, L, Rf) 0 0) ∧
    (g_154 n dp (z, kd, Rf) 1 I L i1 i2 = some (r, I1, L1) → K X d 154 0 0 (AI (fun x τ => x = r ∧ τ = (z, kd, I1, L1, Rf))) 2 [some (.ref 73), some (.int i1), some (.int i2)] [] (z, kd, I, L, Rf) 0 0) ∧
    (g_154 n dp (z, kd, Rf) 2 I L i1 i2 = some (r, I1, L1) → K X d 154 0 0 (AI (fun x τ => x = r ∧ τ = (z, kd, I1, L1, Rf))) 45 [some (.ref 73), some (.int i1), some (.int i2)] [] (z, kd, I, L, Rf) 0 0) := by
  intro n
  induction n with
  | zero => intro dp d hdp I L i1 i2 r I1 L1; exact ⟨(fun h => by cases h), (fun h => by cases h), (fun h => by cases h)⟩
  | succ n ih =>
    intro dp d hdp I L i1 i2 r I1 L1
    refine ⟨?_, ?_, ?_⟩
    · intro h
      rw [e_154_0] at h
      refine K_of b_154_0 h_154_0 ?_
      refine q_iconst (0) (by decide) ?_
      refine q_istore (ls1 := [some (.ref 73), some (.int i1), some (.int (0 : Int32))]) (Nat.le_of_ble_eq_true rfl) rfl ?_
      refine q_end ?_
      exact (ih dp d hdp _ _ i1 (0 : Int32) _ _ _).2.1 h
    · intro h
      rw [e_154_1] at h
      refine K_of b_154_2 h_154_2 ?_
      refine q_iload rfl ?_
      refine q_iload rfl ?_
      refine q_icmp_ge (fun c_4 => ?_) (fun c_4 => ?_)
      · rw [if_pos c_4] at h
        refine K_of b_154_51 h_154_51 ?_
        refine q_iconst (0) (by decide) ?_
        cases h
        exact q_iret rfl (Nat.le_refl _) (Nat.le_refl _) ⟨rfl, rfl⟩
      · rw [if_neg c_4] at h
        refine q_aload rfl ?_
        refine q_getRs (c0 := 1) (j := 0) rfl rfl (zl hS 73 (by decide)) (sk hS 73 (by decide) rfl) rfl (by decide) (r_73_0 hS) ?_
        refine q_getRs (c0 := 3) (j := 3) rfl rfl (zl hS 1 (by decide)) (sk hS 1 (by decide) rfl) rfl (by decide) (r_1_3 hS) ?_
        refine q_iload rfl ?_
        obtain ⟨⟨u_15, v_15⟩, h⟩ := ite_some h
        refine q_ialN (Int32.toNatClampNeg i2) (nx u_15) (zl hS 5 (by decide)) (sk hS 5 (by decide) rfl) v_15 (by decide) ?_
        refine q_aload rfl ?_
        refine q_getRs (c0 := 1) (j := 0) rfl rfl (zl hS 73 (by decide)) (sk hS 73 (by decide) rfl) rfl (by decide) (r_73_0 hS) ?_
        refine q_getRs (c0 := 3) (j := 3) rfl rfl (zl hS 1 (by decide)) (sk hS 1 (by decide) rfl) rfl (by decide) (r_1_3 hS) ?_
        refine q_iload rfl ?_
        obtain ⟨⟨u_24, v_24⟩, h⟩ := ite_some h
        refine q_ialN (Int32.toNatClampNeg i1) (nx u_24) (zl hS 5 (by decide)) (sk hS 5 (by decide) rfl) v_24 (by decide) ?_
        refine q_icmp_ne (fun c_25 => ?_) (fun c_25 => ?_)
        · rw [if_neg c_25] at h
          exact (ih dp d hdp _ _ i1 i2 _ _ _).2.2 h
        · rw [if_pos c_25] at h
          refine q_aload rfl ?_
          refine q_getRs (c0 := 1) (j := 9) rfl rfl (zl hS 73 (by decide)) (sk hS 73 (by decide) rfl) rfl (by decide) (r_73_9 hS) ?_
          refine q_iload rfl ?_
          obtain ⟨⟨u_33, v_33⟩, h⟩ := ite_some h
          refine q_ialN (Int32.toNatClampNeg i2) (nx u_33) (zl hS 80 (by decide)) (sk hS 80 (by decide) rfl) v_33 (by decide) ?_
          refine q_aload rfl ?_
          refine q_getRs (c0 := 1) (j := 9) rfl rfl (zl hS 73 (by decide)) (sk hS 73 (by decide) rfl) rfl (by decide) (r_73_9 hS) ?_
          refine q_iload rfl ?_
          obtain ⟨⟨u_39, v_39⟩, h⟩ := ite_some h
          refine q_ialN (Int32.toNatClampNeg i1) (nx u_39) (zl hS 80 (by decide)) (sk hS 80 (by decide) rfl) v_39 (by decide) ?_
          refine q_icmp_ne (fun c_40 => ?_) (fun c_40 => ?_)
          · rw [if_neg c_40] at h
            exact (ih dp d hdp _ _ i1 i2 _ _ _).2.2 h
          · rw [if_pos c_40] at h
            refine q_iconst (1) (by decide) ?_
            cases h
            exact q_iret rfl (Nat.le_refl _) (Nat.le_refl _) ⟨rfl, rfl⟩
    · intro h
      rw [e_154_2] at h
      refine K_of b_154_45 h_154_45 ?_
      refine q_iinc (ls1 := [some (.ref 73), some (.int i1), some (.int (i2 + Int32.ofInt (1)))]) rfl rfl ?_
      refine q_goto ?_
      exact (ih dp d hdp _ _ i1 (i2 + Int32.ofInt (1)) _ _ _).2.1 h
theorem a_154 (X : GX) {z : Nat} {kd : Nat → Nat × Nat} {Rf : Nat → Nat → Option Nat} (hS : Sh z kd Rf) {n dp d : Nat} (hd : dp ≤ d) {I : (Nat → Nat → Int32)} {L : (Nat → Nat → Int64)} {i1 : Int32} {I1 : (Nat → Nat → Int32)} {L1 : (Nat → Nat → Int64)} {r : Int32} (h : g_154 n dp (z, kd, Rf) 0 I L i1 0 = some (r, I1, L1)) : Ct X d 154 0 0 [.ref 73, .int i1] (z, kd, I, L, Rf) (AI (fun x τ => x = r ∧ τ = (z, kd, I1, L1, Rf))) :=
  Ct_of mu_154 (Nat.le_of_ble_eq_true rfl) ((w_154 X hS n dp d hd I L i1 0 _ _ _).1 h)

/-! 151 CutFloor$Crew.tryTasks(LCutFloor$Crew;II)V -/
set_option maxHeartbeats 4000000 in
set_option maxRecDepth 100000 in
def g_151 : Nat → Nat → EN → Nat → (Nat → Nat → Int32) → (Nat → Nat → Int64) → Int32 → Int32 → Int32 → Int32 →  Option ((Nat → Nat → Int32) × (Nat → Nat → Int64))
  | 0, _, _, _, _, _, _, _, _, _ => none
  | n + 1, dp, e, lab, I, L, i1, i2, i3, i4 =>
    if lab = 0 then (if (I 73 13) ≤ i2 then (some (I, L)) else (if (I 73 14) < (I 73 13) then (if i1 < (I 73 10) then (if 0 ≤ i1 ∧ (Int32.toNatClampNeg i1) < 16 then (stI (I 78 (Int32.toNatClampNeg i1)) (fun v_40 => (g_151 n dp e 1 I L i1 i2 v_40 (0 : Int32)))) else none) else (if 1 ≤ dp then (g_152 n (dp - 1) e 0 I L i2 0).bind (fun ⟨I0_30, L0_30⟩ => (some (I0_30, L0_30))) else none)) else (some (I, L))))
    else if lab = 1 then (if (I 1 8) ≤ i4 then (some (I, L)) else (if 1 ≤ dp then (g_153 n (dp - 1) e 0 I L i4 i3).bind (fun ⟨x0_60, I0_60, L0_60⟩ => (if x0_60 = 0 then (g_151 n dp e 2 I0_60 L0_60 i1 i2 i3 i4) else (if 1 ≤ dp then (g_154 n (dp - 1) e 0 I0_60 L0_60 i4 0).bind (fun ⟨x1_69, I1_69, L1_69⟩ => (if x1_69 = 0 then (if 0 ≤ i1 ∧ (Int32.toNatClampNeg i1) < 16 then (stI (u2 I1_69 79 (Int32.toNatClampNeg i1) i4) (fun I_82 => (if 0 ≤ i4 ∧ (Int32.toNatClampNeg i4) < 4 then (if 0 ≤ i3 ∧ (Int32.toNatClampNeg i3) < 16 then (if 0 ≤ i4 ∧ (Int32.toNatClampNeg i4) < 4 then (stI (u2 I_82 80 (Int32.toNatClampNeg i4) ((I_82 80 (Int32.toNatClampNeg i4)) + (I_82 74 (Int32.toNatClampNeg i3)))) (fun I_98 => (if 0 ≤ i4 ∧ (Int32.toNatClampNeg i4) < 4 then (if 1 ≤ dp then (if 1 ≤ dp then (g_151 n (dp - 1) e 0 I_98 L1_69 (i1 + (1 : Int32)) (if i2 < (I_98 80 (Int32.toNatClampNeg i4)) then (I_98 80 (Int32.toNatClampNeg i4)) else i2) 0 0).bind (fun ⟨I2_114, L2_114⟩ => (if 0 ≤ i4 ∧ (Int32.toNatClampNeg i4) < 4 then (if 0 ≤ i3 ∧ (Int32.toNatClampNeg i3) < 16 then (if 0 ≤ i4 ∧ (Int32.toNatClampNeg i4) < 4 then (stI (u2 I2_114 80 (Int32.toNatClampNeg i4) ((I2_114 80 (Int32.toNatClampNeg i4)) - (I2_114 74 (Int32.toNatClampNeg i3)))) (fun I_132 => (g_151 n dp e 2 I_132 L2_114 i1 i2 i3 i4))) else none) else none) else none)) else none) else none) else none))) else none) else none) else none))) else none) else (g_151 n dp e 2 I1_69 L1_69 i1 i2 i3 i4))) else none))) else none))
    else if lab = 2 then (g_151 n dp e 1 I L i1 i2 i3 (i4 + Int32.ofInt (1)))
    else none
set_option maxRecDepth 100000 in
theorem e_151_0 (n dp : Nat) (e : EN) (I : (Nat → Nat → Int32)) (L : (Nat → Nat → Int64)) (i1 : Int32) (i2 : Int32) (i3 : Int32) (i4 : Int32) : g_151 (n + 1) dp e 0 I L i1 i2 i3 i4 = (if (I 73 13) ≤ i2 then (some (I, L)) else (if (I 73 14) < (I 73 13) then (if i1 < (I 73 10) then (if 0 ≤ i1 ∧ (Int32.toNatClampNeg i1) < 16 then (stI (I 78 (Int32.toNatClampNeg i1)) (fun v_40 => (g_151 n dp e 1 I L i1 i2 v_40 (0 : Int32)))) else none) else (if 1 ≤ dp then (g_152 n (dp - 1) e 0 I L i2 0).bind (fun ⟨I0_30, L0_30⟩ => (some (I0_30, L0_30))) else none)) else (some (I, L)))) := by rw [g_151.eq_2, if_pos (show (0 : Nat) = 0 from rfl)]
set_option maxRecDepth 100000 in
theorem e_151_1 (n dp : Nat) (e : EN) (I : (Nat → Nat → Int32)) (L : (Nat → Nat → Int64)) (i1 : Int32) (i2 : Int32) (i3 : Int32) (i4 : Int32) : g_151 (n + 1) dp e 1 I L i1 i2 i3 i4 = (if (I 1 8) ≤ i4 then (some (I, L)) else (if 1 ≤ dp then (g_153 n (dp - 1) e 0 I L i4 i3).bind (fun ⟨x0_60, I0_60, L0_60⟩ => (if x0_60 = 0 then (g_151 n dp e 2 I0_60 L0_60 i1 i2 i3 i4) else (if 1 ≤ dp then (g_154 n (dp - 1) e 0 I0_60 L0_60 i4 0).bind (fun ⟨x1_69, I1_69, L1_69⟩ => (if x1_69 = 0 then (if 0 ≤ i1 ∧ (Int32.toNatClampNeg i1) < 16 then (stI (u2 I1_69 79 (Int32.toNatClampNeg i1) i4) (fun I_82 => (if 0 ≤ i4 ∧ (Int32.toNatClampNeg i4) < 4 then (if 0 ≤ i3 ∧ (Int32.toNatClampNeg i3) < 16 then (if 0 ≤ i4 ∧ (Int32.toNatClampNeg i4) < 4 then (stI (u2 I_82 80 (Int32.toNatClampNeg i4) ((I_82 80 (Int32.toNatClampNeg i4)) + (I_82 74 (Int32.toNatClampNeg i3)))) (fun I_98 => (if 0 ≤ i4 ∧ (Int32.toNatClampNeg i4) < 4 then (if 1 ≤ dp then (if 1 ≤ dp then (g_151 n (dp - 1) e 0 I_98 L1_69 (i1 + (1 : Int32)) (if i2 < (I_98 80 (Int32.toNatClampNeg i4)) then (I_98 80 (Int32.toNatClampNeg i4)) else i2) 0 0).bind (fun ⟨I2_114, L2_114⟩ => (if 0 ≤ i4 ∧ (Int32.toNatClampNeg i4) < 4 then (if 0 ≤ i3 ∧ (Int32.toNatClampNeg i3) < 16 then (if 0 ≤ i4 ∧ (Int32.toNatClampNeg i4) < 4 then (stI (u2 I2_114 80 (Int32.toNatClampNeg i4) ((I2_114 80 (Int32.toNatClampNeg i4)) - (I2_114 74 (Int32.toNatClampNeg i3)))) (fun I_132 => (g_151 n dp e 2 I_132 L2_114 i1 i2 i3 i4))) else none) else none) else none)) else none) else none) else none))) else none) else none) else none))) else none) else (g_151 n dp e 2 I1_69 L1_69 i1 i2 i3 i4))) else none))) else none)) := by rw [g_151.eq_2, if_neg (show ¬ ((1 : Nat) = 0) by decide), if_pos (show (1 : Nat) = 1 from rfl)]
set_option maxRecDepth 100000 in
theorem e_151_2 (n dp : Nat) (e : EN) (I : (Nat → Nat → Int32)) (L : (Nat → Nat → Int64)) (i1 : Int32) (i2 : Int32) (i3 : Int32) (i4 : Int32) : g_151 (n + 1) dp e 2 I L i1 i2 i3 i4 = (g_151 n dp e 1 I L i1 i2 i3 (i4 + Int32.ofInt (1))) := by rw [g_151.eq_2, if_neg (show ¬ ((2 : Nat) = 0) by decide), if_neg (show ¬ ((2 : Nat) = 1) by decide), if_pos (show (2 : Nat) = 2 from rfl)]
set_option maxHeartbeats 8000000 in
set_option maxRecDepth 100000 in
theorem w_151 (X : GX) {z : Nat} {kd : Nat → Nat × Nat} {Rf : Nat → Nat → Option Nat} (hS : Sh z kd Rf) : ∀ (n dp d : Nat), dp ≤ d → ∀ (I : (Nat → Nat → Int32)) (L : (Nat → Nat → Int64)) (i1 : Int32) (i2 : Int32) (i3 : Int32) (i4 : Int32) (I1 : (Nat → Nat → Int32)) (L1 : (Nat → Nat → Int64)), (g_151 n dp (z, kd, Rf) 0 I L i1 i2 i3 i4 = some (I1, L1) → K X d 151 0 0 (AV (fun τ => τ = (z, kd, I1, L1, Rf))) 0 [some (.ref 73), some (.int i1), some (.int i2), none, none] [] (z, kd, I, L, Rf) 0 0) ∧
    (g_151 n dp (z, kd, Rf) 1 I L i1 i2 i3 i4 = some (I1, L1) → K X d 151 0 0 (AV (fun τ => τ = (z, kd, I1, L1, Rf))) 44 [some (.ref 73), some (.int i1), some (.int i2), some (.int i3), some (.int i4)] [] (z, kd, I, L, Rf) 0 0) ∧
    (g_151 n dp (z, kd, Rf) 2 I L i1 i2 i3 i4 = some (I1, L1) → K X d 151 0 0 (AV (fun τ => τ = (z, kd, I1, L1, Rf))) 133 [some (.ref 73), some (.int i1), some (.int i2), some (.int i3), some (.int i4)] [] (z, kd, I, L, Rf) 0 0) := by
  intro n
  induction n with
  | zero => intro dp d hdp I L i1 i2 i3 i4 I1 L1; exact ⟨(fun h => by cases h), (fun h => by cases h), (fun h => by cases h)⟩
  | succ n ih =>
    intro dp d hdp I L i1 i2 i3 i4 I1 L1
    refine ⟨?_, ?_, ?_⟩
    · intro h
      rw [e_151_0] at h
      refine K_of b_151_0 h_151_0 ?_
      refine q_iload rfl ?_
      refine q_aload rfl ?_
      refine q_getI (c0 := 1) (j := 13) rfl rfl (zl hS 73 (by decide)) (sk hS 73 (by decide) rfl) (Or.inl rfl) (by decide) ?_
      refine q_icmp_ge (fun c_5 => ?_) (fun c_5 => ?_)
      · rw [if_pos c_5] at h
        refine K_of b_151_19 h_151_19 ?_
        cases h
        exact q_vret rfl (Nat.le_refl _) (Nat.le_refl _) rfl
      · rw [if_neg c_5] at h
        refine q_aload rfl ?_
        refine q_getI (c0 := 1) (j := 13) rfl rfl (zl hS 73 (by decide)) (sk hS 73 (by decide) rfl) (Or.inl rfl) (by decide) ?_
        refine q_aload rfl ?_
        refine q_getI (c0 := 1) (j := 14) rfl rfl (zl hS 73 (by decide)) (sk hS 73 (by decide) rfl) (Or.inl rfl) (by decide) ?_
        refine q_icmp_gt (fun c_16 => ?_) (fun c_16 => ?_)
        · rw [if_pos c_16] at h
          refine K_of b_151_20 h_151_20 ?_
          refine q_iload rfl ?_
          refine q_aload rfl ?_
          refine q_getI (c0 := 1) (j := 10) rfl rfl (zl hS 73 (by decide)) (sk hS 73 (by decide) rfl) (Or.inl rfl) (by decide) ?_
          refine q_icmp_lt (fun c_25 => ?_) (fun c_25 => ?_)
          · rw [if_pos c_25] at h
            refine K_of b_151_34 h_151_34 ?_
            refine q_aload rfl ?_
            refine q_getRs (c0 := 1) (j := 7) rfl rfl (zl hS 73 (by decide)) (sk hS 73 (by decide) rfl) rfl (by decide) (r_73_7 hS) ?_
            refine q_iload rfl ?_
            obtain ⟨⟨u_39, v_39⟩, h⟩ := ite_some h
            refine q_ialN (Int32.toNatClampNeg i1) (nx u_39) (zl hS 78 (by decide)) (sk hS 78 (by decide) rfl) v_39 (by decide) ?_
            obtain ⟨v_40, nv_40, h⟩ := stI_some h
            refine q_eqi nv_40.symm ?_
            refine q_istore (ls1 := [some (.ref 73), some (.int i1), some (.int i2), some (.int v_40), none]) (Nat.le_of_ble_eq_true rfl) rfl ?_
            refine q_iconst (0) (by decide) ?_
            refine q_istore (ls1 := [some (.ref 73), some (.int i1), some (.int i2), some (.int v_40), some (.int (0 : Int32))]) (Nat.le_of_ble_eq_true rfl) rfl ?_
            refine q_end ?_
            exact (ih dp d hdp _ _ i1 i2 v_40 (0 : Int32) _ _).2.1 h
          · rw [if_neg c_25] at h
            refine q_aload rfl ?_
            refine q_iload rfl ?_
            obtain ⟨d_30, h⟩ := ite_some h
            obtain ⟨⟨I0_30, L0_30⟩, e_30, h⟩ := Option.bind_eq_some_iff.mp h
            dsimp only at h
            refine q_fv2V (a_152 X hS (d := d - 1) (by omega) e_30) (by omega) (Nat.le_refl _) (Nat.le_refl _) rfl (Nat.le_of_ble_eq_true rfl) ⟨(zl hS 73 (by decide)), congrArg Prod.fst (sk hS 73 (by decide) rfl), by decide⟩ ?_
            cases h
            exact q_vret rfl (Nat.le_refl _) (Nat.le_refl _) rfl
        · rw [if_neg c_16] at h
          refine q_end ?_
          refine K_of b_151_19 h_151_19 ?_
          cases h
          exact q_vret rfl (Nat.le_refl _) (Nat.le_refl _) rfl
    · intro h
      rw [e_151_1] at h
      refine K_of b_151_44 h_151_44 ?_
      refine q_iload rfl ?_
      refine q_aload rfl ?_
      refine q_getRs (c0 := 1) (j := 0) rfl rfl (zl hS 73 (by decide)) (sk hS 73 (by decide) rfl) rfl (by decide) (r_73_0 hS) ?_
      refine q_getI (c0 := 3) (j := 8) rfl rfl (zl hS 1 (by decide)) (sk hS 1 (by decide) rfl) (Or.inl rfl) (by decide) ?_
      refine q_icmp_ge (fun c_53 => ?_) (fun c_53 => ?_)
      · rw [if_pos c_53] at h
        refine K_of b_151_139 h_151_139 ?_
        cases h
        exact q_vret rfl (Nat.le_refl _) (Nat.le_refl _) rfl
      · rw [if_neg c_53] at h
        refine q_aload rfl ?_
        refine q_iload rfl ?_
        refine q_iload rfl ?_
        obtain ⟨d_60, h⟩ := ite_some h
        obtain ⟨⟨x0_60, I0_60, L0_60⟩, e_60, h⟩ := Option.bind_eq_some_iff.mp h
        dsimp only at h
        refine q_fv3I (a_153 X hS (d := d - 1) (by omega) e_60) (by omega) (Nat.le_refl _) (Nat.le_refl _) rfl (Nat.le_of_ble_eq_true rfl) ⟨(zl hS 73 (by decide)), congrArg Prod.fst (sk hS 73 (by decide) rfl), by decide⟩ ?_
        refine q_if_eq (fun c_63 => ?_) (fun c_63 => ?_)
        · rw [if_pos c_63] at h
          exact (ih dp d hdp _ _ i1 i2 i3 i4 _ _).2.2 h
        · rw [if_neg c_63] at h
          refine q_aload rfl ?_
          refine q_iload rfl ?_
          obtain ⟨d_69, h⟩ := ite_some h
          obtain ⟨⟨x1_69, I1_69, L1_69⟩, e_69, h⟩ := Option.bind_eq_some_iff.mp h
          dsimp only at h
          refine q_fv2I (a_154 X hS (d := d - 1) (by omega) e_69) (by omega) (Nat.le_refl _) (Nat.le_refl _) rfl (Nat.le_of_ble_eq_true rfl) ⟨(zl hS 73 (by decide)), congrArg Prod.fst (sk hS 73 (by decide) rfl), by decide⟩ ?_
          refine q_if_ne (fun c_72 => ?_) (fun c_72 => ?_)
          · rw [if_neg c_72] at h
            exact (ih dp d hdp _ _ i1 i2 i3 i4 _ _).2.2 h
          · rw [if_pos c_72] at h
            refine q_aload rfl ?_
            refine q_getRs (c0 := 1) (j := 8) rfl rfl (zl hS 73 (by decide)) (sk hS 73 (by decide) rfl) rfl (by decide) (r_73_8 hS) ?_
            refine q_iload rfl ?_
            refine q_iload rfl ?_
            obtain ⟨⟨u_82, v_82⟩, h⟩ := ite_some h
            refine q_iasN (Int32.toNatClampNeg i1) (nx u_82) (zl hS 79 (by decide)) (sk hS 79 (by decide) rfl) v_82 (by decide) ?_
            obtain ⟨I_82, nI_82, h⟩ := stI_some h
            refine q_nI nI_82 ?_
            refine q_aload rfl ?_
            refine q_getRs (c0 := 1) (j := 9) rfl rfl (zl hS 73 (by decide)) (sk hS 73 (by decide) rfl) rfl (by decide) (r_73_9 hS) ?_
            refine q_iload rfl ?_
            refine q_dup2 rfl rfl ?_
            obtain ⟨⟨u_90, v_90⟩, h⟩ := ite_some h
            refine q_ialN (Int32.toNatClampNeg i4) (nx u_90) (zl hS 80 (by decide)) (sk hS 80 (by decide) rfl) v_90 (by decide) ?_
            refine q_aload rfl ?_
            refine q_getRs (c0 := 1) (j := 3) rfl rfl (zl hS 73 (by decide)) (sk hS 73 (by decide) rfl) rfl (by decide) (r_73_3 hS) ?_
            refine q_iload rfl ?_
            obtain ⟨⟨u_96, v_96⟩, h⟩ := ite_some h
            refine q_ialN (Int32.toNatClampNeg i3) (nx u_96) (zl hS 74 (by decide)) (sk hS 74 (by decide) rfl) v_96 (by decide) ?_
            refine q_iadd ?_
            obtain ⟨⟨u_98, v_98⟩, h⟩ := ite_some h
            refine q_iasN (Int32.toNatClampNeg i4) (nx u_98) (zl hS 80 (by decide)) (sk hS 80 (by decide) rfl) v_98 (by decide) ?_
            obtain ⟨I_98, nI_98, h⟩ := stI_some h
            refine q_nI nI_98 ?_
            refine q_aload rfl ?_
            refine q_iload rfl ?_
            refine q_iconst (1) (by decide) ?_
            refine q_iadd ?_
            refine q_iload rfl ?_
            refine q_aload rfl ?_
            refine q_getRs (c0 := 1) (j := 9) rfl rfl (zl hS 73 (by decide)) (sk hS 73 (by decide) rfl) rfl (by decide) (r_73_9 hS) ?_
            refine q_iload rfl ?_
            obtain ⟨⟨u_110, v_110⟩, h⟩ := ite_some h
            refine q_ialN (Int32.toNatClampNeg i4) (nx u_110) (zl hS 80 (by decide)) (sk hS 80 (by decide) rfl) v_110 (by decide) ?_
            obtain ⟨d_111, h⟩ := ite_some h
            refine q_max (Nat.le_of_ble_eq_true rfl) (Nat.le_trans d_111 hdp) (Nat.le_refl _) (Nat.le_refl _) ?_
            obtain ⟨d_114, h⟩ := ite_some h
            obtain ⟨⟨I2_114, L2_114⟩, e_114, h⟩ := Option.bind_eq_some_iff.mp h
            dsimp only at h
            refine q_fs3V (Ct_of mu_151 (Nat.le_of_ble_eq_true rfl) ((ih (dp - 1) (d - 1) (by omega) _ _ (i1 + (1 : Int32)) (if i2 < (I_98 80 (Int32.toNatClampNeg i4)) then (I_98 80 (Int32.toNatClampNeg i4)) else i2) 0 0 _ _).1 e_114)) (by omega) (Nat.le_refl _) (Nat.le_refl _) rfl (Nat.le_of_ble_eq_true rfl) ?_
            refine q_aload rfl ?_
            refine q_getRs (c0 := 1) (j := 9) rfl rfl (zl hS 73 (by decide)) (sk hS 73 (by decide) rfl) rfl (by decide) (r_73_9 hS) ?_
            refine q_iload rfl ?_
            refine q_dup2 rfl rfl ?_
            obtain ⟨⟨u_124, v_124⟩, h⟩ := ite_some h
            refine q_ialN (Int32.toNatClampNeg i4) (nx u_124) (zl hS 80 (by decide)) (sk hS 80 (by decide) rfl) v_124 (by decide) ?_
            refine q_aload rfl ?_
            refine q_getRs (c0 := 1) (j := 3) rfl rfl (zl hS 73 (by decide)) (sk hS 73 (by decide) rfl) rfl (by decide) (r_73_3 hS) ?_
            refine q_iload rfl ?_
            obtain ⟨⟨u_130, v_130⟩, h⟩ := ite_some h
            refine q_ialN (Int32.toNatClampNeg i3) (nx u_130) (zl hS 74 (by decide)) (sk hS 74 (by decide) rfl) v_130 (by decide) ?_
            refine q_isub ?_
            obtain ⟨⟨u_132, v_132⟩, h⟩ := ite_some h
            refine q_iasN (Int32.toNatClampNeg i4) (nx u_132) (zl hS 80 (by decide)) (sk hS 80 (by decide) rfl) v_132 (by decide) ?_
            obtain ⟨I_132, nI_132, h⟩ := stI_some h
            refine q_nI nI_132 ?_
            refine q_end ?_
            exact (ih dp d hdp _ _ i1 i2 i3 i4 _ _).2.2 h
    · intro h
      rw [e_151_2] at h
      refine K_of b_151_133 h_151_133 ?_
      refine q_iinc (ls1 := [some (.ref 73), some (.int i1), some (.int i2), some (.int i3), some (.int (i4 + Int32.ofInt (1)))]) rfl rfl ?_
      refine q_goto ?_
      exact (ih dp d hdp _ _ i1 i2 i3 (i4 + Int32.ofInt (1)) _ _).2.1 h
theorem a_151 (X : GX) {z : Nat} {kd : Nat → Nat × Nat} {Rf : Nat → Nat → Option Nat} (hS : Sh z kd Rf) {n dp d : Nat} (hd : dp ≤ d) {I : (Nat → Nat → Int32)} {L : (Nat → Nat → Int64)} {i1 : Int32} {i2 : Int32} {I1 : (Nat → Nat → Int32)} {L1 : (Nat → Nat → Int64)} (h : g_151 n dp (z, kd, Rf) 0 I L i1 i2 0 0 = some (I1, L1)) : Ct X d 151 0 0 [.ref 73, .int i1, .int i2] (z, kd, I, L, Rf) (AV (fun τ => τ = (z, kd, I1, L1, Rf))) :=
  Ct_of mu_151 (Nat.le_of_ble_eq_true rfl) ((w_151 X hS n dp d hd I L i1 i2 0 0 _ _).1 h)

/-! 148 CutFloor$Crew.shareTasks()V -/
set_option maxHeartbeats 4000000 in
set_option maxRecDepth 100000 in
def g_148 : Nat → Nat → EN → Nat → (Nat → Nat → Int32) → (Nat → Nat → Int64) →  Option ((Nat → Nat → Int32) × (Nat → Nat → Int64))
  | 0, _, _, _, _, _ => none
  | n + 1, dp, e, lab, I, L =>
    if lab = 0 then (if (I 73 16) = 0 then (some (I, L)) else (stI (u2 I 73 16 (0 : Int32)) (fun I_10 => (if 1 ≤ dp then (g_36 n (dp - 1) e 0 I_10 L (-1 : Int32) 0 0 76).bind (fun ⟨I0_18, L0_18⟩ => (stI (u2 I0_18 73 12 (-1 : Int32)) (fun I_23 => (if (I_23 73 10) ≤ (10 : Int32) then (if 1 ≤ dp then (g_36 n (dp - 1) e 0 I_23 L0_18 (0 : Int32) 0 0 80).bind (fun ⟨I1_41, L1_41⟩ => (stI (u2 I1_41 73 13 ((I1_41 73 11) + (1 : Int32))) (fun I_51 => (if (I_51 1 8) = 0 then (stI (u2 I_51 73 14 (0 : Int32)) (fun I_91 => (if 1 ≤ dp then (g_149 n (dp - 1) e 0 I_91 L1_41 (1 : Int32) 0 0 0).bind (fun ⟨I2_96, L2_96⟩ => (if 1 ≤ dp then (g_151 n (dp - 1) e 0 I2_96 L2_96 (0 : Int32) (0 : Int32) 0 0).bind (fun ⟨I3_102, L3_102⟩ => (if (I3_102 73 13) ≤ (I3_102 73 11) then (stI (u2 I3_102 73 12 (I3_102 73 13)) (fun I_122 => (stI (u2 I_122 73 13 ((I_122 73 12) + (1 : Int32))) (fun I_132 => (stI (u2 I_132 73 14 (I_132 73 12)) (fun I_140 => (if 1 ≤ dp then (g_149 n (dp - 1) e 0 I_140 L3_102 (0 : Int32) 0 0 0).bind (fun ⟨I4_145, L4_145⟩ => (if 1 ≤ dp then (g_151 n (dp - 1) e 0 I4_145 L4_145 (0 : Int32) (0 : Int32) 0 0).bind (fun ⟨I5_151, L5_151⟩ => (some (I5_151, L5_151))) else none)) else none))))))) else (some (I3_102, L3_102)))) else none)) else none))) else (if ¬ (I_51 1 8) = 0 then (stI (u2 I_51 73 14 ((((I_51 73 11) + (I_51 1 8)) - (1 : Int32)) / (I_51 1 8))) (fun I_91 => (if 1 ≤ dp then (g_149 n (dp - 1) e 0 I_91 L1_41 (1 : Int32) 0 0 0).bind (fun ⟨I2_96, L2_96⟩ => (if 1 ≤ dp then (g_151 n (dp - 1) e 0 I2_96 L2_96 (0 : Int32) (0 : Int32) 0 0).bind (fun ⟨I3_102, L3_102⟩ => (if (I3_102 73 13) ≤ (I3_102 73 11) then (stI (u2 I3_102 73 12 (I3_102 73 13)) (fun I_122 => (stI (u2 I_122 73 13 ((I_122 73 12) + (1 : Int32))) (fun I_132 => (stI (u2 I_132 73 14 (I_132 73 12)) (fun I_140 => (if 1 ≤ dp then (g_149 n (dp - 1) e 0 I_140 L3_102 (0 : Int32) 0 0 0).bind (fun ⟨I4_145, L4_145⟩ => (if 1 ≤ dp then (g_151 n (dp - 1) e 0 I4_145 L4_145 (0 : Int32) (0 : Int32) 0 0).bind (fun ⟨I5_151, L5_151⟩ => (some (I5_151, L5_151))) else none)) else none))))))) else (some (I3_102, L3_102)))) else none)) else none))) else none))))) else none) else (some (I_23, L0_18)))))) else none))))
    else none
set_option maxRecDepth 100000 in
theorem e_148_0 (n dp : Nat) (e : EN) (I : (Nat → Nat → Int32)) (L : (Nat → Nat → Int64)) : g_148 (n + 1) dp e 0 I L = (if (I 73 16) = 0 then (some (I, L)) else (stI (u2 I 73 16 (0 : Int32)) (fun I_10 => (if 1 ≤ dp then (g_36 n (dp - 1) e 0 I_10 L (-1 : Int32) 0 0 76).bind (fun ⟨I0_18, L0_18⟩ => (stI (u2 I0_18 73 12 (-1 : Int32)) (fun I_23 => (if (I_23 73 10) ≤ (10 : Int32) then (if 1 ≤ dp then (g_36 n (dp - 1) e 0 I_23 L0_18 (0 : Int32) 0 0 80).bind (fun ⟨I1_41, L1_41⟩ => (stI (u2 I1_41 73 13 ((I1_41 73 11) + (1 : Int32))) (fun I_51 => (if (I_51 1 8) = 0 then (stI (u2 I_51 73 14 (0 : Int32)) (fun I_91 => (if 1 ≤ dp then (g_149 n (dp - 1) e 0 I_91 L1_41 (1 : Int32) 0 0 0).bind (fun ⟨I2_96, L2_96⟩ => (if 1 ≤ dp then (g_151 n (dp - 1) e 0 I2_96 L2_96 (0 : Int32) (0 : Int32) 0 0).bind (fun ⟨I3_102, L3_102⟩ => (if (I3_102 73 13) ≤ (I3_102 73 11) then (stI (u2 I3_102 73 12 (I3_102 73 13)) (fun I_122 => (stI (u2 I_122 73 13 ((I_122 73 12) + (1 : Int32))) (fun I_132 => (stI (u2 I_132 73 14 (I_132 73 12)) (fun I_140 => (if 1 ≤ dp then (g_149 n (dp - 1) e 0 I_140 L3_102 (0 : Int32) 0 0 0).bind (fun ⟨I4_145, L4_145⟩ => (if 1 ≤ dp then (g_151 n (dp - 1) e 0 I4_145 L4_145 (0 : Int32) (0 : Int32) 0 0).bind (fun ⟨I5_151, L5_151⟩ => (some (I5_151, L5_151))) else none)) else none))))))) else (some (I3_102, L3_102)))) else none)) else none))) else (if ¬ (I_51 1 8) = 0 then (stI (u2 I_51 73 14 ((((I_51 73 11) + (I_51 1 8)) - (1 : Int32)) / (I_51 1 8))) (fun I_91 => (if 1 ≤ dp then (g_149 n (dp - 1) e 0 I_91 L1_41 (1 : Int32) 0 0 0).bind (fun ⟨I2_96, L2_96⟩ => (if 1 ≤ dp then (g_151 n (dp - 1) e 0 I2_96 L2_96 (0 : Int32) (0 : Int32) 0 0).bind (fun ⟨I3_102, L3_102⟩ => (if (I3_102 73 13) ≤ (I3_102 73 11) then (stI (u2 I3_102 73 12 (I3_102 73 13)) (fun I_122 => (stI (u2 I_122 73 13 ((I_122 73 12) + (1 : Int32))) (fun I_132 => (stI (u2 I_132 73 14 (I_132 73 12)) (fun I_140 => (if 1 ≤ dp then (g_149 n (dp - 1) e 0 I_140 L3_102 (0 : Int32) 0 0 0).bind (fun ⟨I4_145, L4_145⟩ => (if 1 ≤ dp then (g_151 n (dp - 1) e 0 I4_145 L4_145 (0 : Int32) (0 : Int32) 0 0).bind (fun ⟨I5_151, L5_151⟩ => (some (I5_151, L5_151))) else none)) else none))))))) else (some (I3_102, L3_102)))) else none)) else none))) else none))))) else none) else (some (I_23, L0_18)))))) else none)))) := by rw [g_148.eq_2, if_pos (show (0 : Nat) = 0 from rfl)]
set_option maxHeartbeats 8000000 in
set_option maxRecDepth 100000 in
theorem w_148 (X : GX) {z : Nat} {kd : Nat → Nat × Nat} {Rf : Nat → Nat → Option Nat} (hS : Sh z kd Rf) : ∀ (n dp d : Nat), dp ≤ d → ∀ (I : (Nat → Nat → Int32)) (L : (Nat → Nat → Int64)) (I1 : (Nat → Nat → Int32)) (L1 : (Nat → Nat → Int64)), (g_148 n dp (z, kd, Rf) 0 I L = some (I1, L1) → K X d 148 0 0 (AV (fun τ => τ = (z, kd, I1, L1, Rf))) 0 [some (.ref 73)] [] (z, kd, I, L, Rf) 0 0) := by
  intro n
  induction n with
  | zero => intro dp d hdp I L I1 L1; exact fun h => by cases h
  | succ n ih =>
    intro dp d hdp I L I1 L1
    · intro h
      rw [e_148_0] at h
      refine K_of b_148_0 h_148_0 ?_
      refine q_aload rfl ?_
      refine q_getI (c0 := 1) (j := 16) rfl rfl (zl hS 73 (by decide)) (sk hS 73 (by decide) rfl) (Or.inr rfl) (by decide) ?_
      refine q_if_ne (fun c_4 => ?_) (fun c_4 => ?_)
      · rw [if_neg c_4] at h
        refine K_of b_148_8 h_148_8 ?_
        refine q_aload rfl ?_
        refine q_iconst (0) (by decide) ?_
        refine q_putZ (c0 := 1) (j := 16) rfl rfl (zl hS 73 (by decide)) (sk hS 73 (by decide) rfl) rfl (Or.inl rfl) ?_
        obtain ⟨I_10, nI_10, h⟩ := stI_some h
        refine q_nI nI_10 ?_
        refine q_aload rfl ?_
        refine q_getRs (c0 := 1) (j := 5) rfl rfl (zl hS 73 (by decide)) (sk hS 73 (by decide) rfl) rfl (by decide) (r_73_5 hS) ?_
        refine q_iconst (-1) (by decide) ?_
        obtain ⟨d_18, h⟩ := ite_some h
        obtain ⟨⟨I0_18, L0_18⟩, e_18, h⟩ := Option.bind_eq_some_iff.mp h
        dsimp only at h
        refine q_fs2V (a_36 X hS (d := d - 1) (by omega) e_18) (by omega) (Nat.le_refl _) (Nat.le_refl _) rfl (Nat.le_of_ble_eq_true rfl) ?_
        refine q_aload rfl ?_
        refine q_iconst (-1) (by decide) ?_
        refine q_putI (c0 := 1) (j := 12) rfl rfl (zl hS 73 (by decide)) (sk hS 73 (by decide) rfl) rfl ?_
        obtain ⟨I_23, nI_23, h⟩ := stI_some h
        refine q_nI nI_23 ?_
        refine q_aload rfl ?_
        refine q_getI (c0 := 1) (j := 10) rfl rfl (zl hS 73 (by decide)) (sk hS 73 (by decide) rfl) (Or.inl rfl) (by decide) ?_
        refine q_iconst (10) (by decide) ?_
        refine q_icmp_le (fun c_32 => ?_) (fun c_32 => ?_)
        · rw [if_pos c_32] at h
          refine K_of b_148_36 h_148_36 ?_
          refine q_aload rfl ?_
          refine q_getRs (c0 := 1) (j := 9) rfl rfl (zl hS 73 (by decide)) (sk hS 73 (by decide) rfl) rfl (by decide) (r_73_9 hS) ?_
          refine q_iconst (0) (by decide) ?_
          obtain ⟨d_41, h⟩ := ite_some h
          obtain ⟨⟨I1_41, L1_41⟩, e_41, h⟩ := Option.bind_eq_some_iff.mp h
          dsimp only at h
          refine q_fs2V (a_36 X hS (d := d - 1) (by omega) e_41) (by omega) (Nat.le_refl _) (Nat.le_refl _) rfl (Nat.le_of_ble_eq_true rfl) ?_
          refine q_aload rfl ?_
          refine q_aload rfl ?_
          refine q_getI (c0 := 1) (j := 11) rfl rfl (zl hS 73 (by decide)) (sk hS 73 (by decide) rfl) (Or.inl rfl) (by decide) ?_
          refine q_iconst (1) (by decide) ?_
          refine q_iadd ?_
          refine q_putI (c0 := 1) (j := 13) rfl rfl (zl hS 73 (by decide)) (sk hS 73 (by decide) rfl) rfl ?_
          obtain ⟨I_51, nI_51, h⟩ := stI_some h
          refine q_nI nI_51 ?_
          refine q_aload rfl ?_
          refine q_aload rfl ?_
          refine q_getRs (c0 := 1) (j := 0) rfl rfl (zl hS 73 (by decide)) (sk hS 73 (by decide) rfl) rfl (by decide) (r_73_0 hS) ?_
          refine q_getI (c0 := 3) (j := 8) rfl rfl (zl hS 1 (by decide)) (sk hS 1 (by decide) rfl) (Or.inl rfl) (by decide) ?_
          refine q_if_ne (fun c_62 => ?_) (fun c_62 => ?_)
          · rw [if_neg c_62] at h
            refine K_of b_148_69 h_148_69 ?_
            refine q_aload rfl ?_
            refine q_getI (c0 := 1) (j := 11) rfl rfl (zl hS 73 (by decide)) (sk hS 73 (by decide) rfl) (Or.inl rfl) (by decide) ?_
            refine q_aload rfl ?_
            refine q_getRs (c0 := 1) (j := 0) rfl rfl (zl hS 73 (by decide)) (sk hS 73 (by decide) rfl) rfl (by decide) (r_73_0 hS) ?_
            refine q_getI (c0 := 3) (j := 8) rfl rfl (zl hS 1 (by decide)) (sk hS 1 (by decide) rfl) (Or.inl rfl) (by decide) ?_
            refine q_iadd ?_
            refine q_iconst (1) (by decide) ?_
            refine q_isub ?_
            refine q_aload rfl ?_
            refine q_getRs (c0 := 1) (j := 0) rfl rfl (zl hS 73 (by decide)) (sk hS 73 (by decide) rfl) rfl (by decide) (r_73_0 hS) ?_
            refine q_getI (c0 := 3) (j := 8) rfl rfl (zl hS 1 (by decide)) (sk hS 1 (by decide) rfl) (Or.inl rfl) (by decide) ?_
            obtain ⟨d_90, h⟩ := ite_some h
            refine q_idiv d_90 ?_
            refine q_end ?_
            refine K_of b_148_91 h_148_91 ?_
            refine q_putI (c0 := 1) (j := 14) rfl rfl (zl hS 73 (by decide)) (sk hS 73 (by decide) rfl) rfl ?_
            obtain ⟨I_91, nI_91, h⟩ := stI_some h
            refine q_nI nI_91 ?_
            refine q_aload rfl ?_
            refine q_iconst (1) (by decide) ?_
            obtain ⟨d_96, h⟩ := ite_some h
            obtain ⟨⟨I2_96, L2_96⟩, e_96, h⟩ := Option.bind_eq_some_iff.mp h
            dsimp only at h
            refine q_fv2V (a_149 X hS (d := d - 1) (by omega) e_96) (by omega) (Nat.le_refl _) (Nat.le_refl _) rfl (Nat.le_of_ble_eq_true rfl) ⟨(zl hS 73 (by decide)), congrArg Prod.fst (sk hS 73 (by decide) rfl), by decide⟩ ?_
            refine q_aload rfl ?_
            refine q_iconst (0) (by decide) ?_
            refine q_iconst (0) (by decide) ?_
            obtain ⟨d_102, h⟩ := ite_some h
            obtain ⟨⟨I3_102, L3_102⟩, e_102, h⟩ := Option.bind_eq_some_iff.mp h
            dsimp only at h
            refine q_fs3V (a_151 X hS (d := d - 1) (by omega) e_102) (by omega) (Nat.le_refl _) (Nat.le_refl _) rfl (Nat.le_of_ble_eq_true rfl) ?_
            refine q_aload rfl ?_
            refine q_getI (c0 := 1) (j := 13) rfl rfl (zl hS 73 (by decide)) (sk hS 73 (by decide) rfl) (Or.inl rfl) (by decide) ?_
            refine q_aload rfl ?_
            refine q_getI (c0 := 1) (j := 11) rfl rfl (zl hS 73 (by decide)) (sk hS 73 (by decide) rfl) (Or.inl rfl) (by decide) ?_
            refine q_icmp_le (fun c_113 => ?_) (fun c_113 => ?_)
            · rw [if_pos c_113] at h
              refine K_of b_148_117 h_148_117 ?_
              refine q_aload rfl ?_
              refine q_aload rfl ?_
              refine q_getI (c0 := 1) (j := 13) rfl rfl (zl hS 73 (by decide)) (sk hS 73 (by decide) rfl) (Or.inl rfl) (by decide) ?_
              refine q_putI (c0 := 1) (j := 12) rfl rfl (zl hS 73 (by decide)) (sk hS 73 (by decide) rfl) rfl ?_
              obtain ⟨I_122, nI_122, h⟩ := stI_some h
              refine q_nI nI_122 ?_
              refine q_aload rfl ?_
              refine q_aload rfl ?_
              refine q_getI (c0 := 1) (j := 12) rfl rfl (zl hS 73 (by decide)) (sk hS 73 (by decide) rfl) (Or.inl rfl) (by decide) ?_
              refine q_iconst (1) (by decide) ?_
              refine q_iadd ?_
              refine q_putI (c0 := 1) (j := 13) rfl rfl (zl hS 73 (by decide)) (sk hS 73 (by decide) rfl) rfl ?_
              obtain ⟨I_132, nI_132, h⟩ := stI_some h
              refine q_nI nI_132 ?_
              refine q_aload rfl ?_
              refine q_aload rfl ?_
              refine q_getI (c0 := 1) (j := 12) rfl rfl (zl hS 73 (by decide)) (sk hS 73 (by decide) rfl) (Or.inl rfl) (by decide) ?_
              refine q_putI (c0 := 1) (j := 14) rfl rfl (zl hS 73 (by decide)) (sk hS 73 (by decide) rfl) rfl ?_
              obtain ⟨I_140, nI_140, h⟩ := stI_some h
              refine q_nI nI_140 ?_
              refine q_aload rfl ?_
              refine q_iconst (0) (by decide) ?_
              obtain ⟨d_145, h⟩ := ite_some h
              obtain ⟨⟨I4_145, L4_145⟩, e_145, h⟩ := Option.bind_eq_some_iff.mp h
              dsimp only at h
              refine q_fv2V (a_149 X hS (d := d - 1) (by omega) e_145) (by omega) (Nat.le_refl _) (Nat.le_refl _) rfl (Nat.le_of_ble_eq_true rfl) ⟨(zl hS 73 (by decide)), congrArg Prod.fst (sk hS 73 (by decide) rfl), by decide⟩ ?_
              refine q_aload rfl ?_
              refine q_iconst (0) (by decide) ?_
              refine q_iconst (0) (by decide) ?_
              obtain ⟨d_151, h⟩ := ite_some h
              obtain ⟨⟨I5_151, L5_151⟩, e_151, h⟩ := Option.bind_eq_some_iff.mp h
              dsimp only at h
              refine q_fs3V (a_151 X hS (d := d - 1) (by omega) e_151) (by omega) (Nat.le_refl _) (Nat.le_refl _) rfl (Nat.le_of_ble_eq_true rfl) ?_
              cases h
              exact q_vret rfl (Nat.le_refl _) (Nat.le_refl _) rfl
            · rw [if_neg c_113] at h
              cases h
              exact q_vret rfl (Nat.le_refl _) (Nat.le_refl _) rfl
          · rw [if_pos c_62] at h
            refine q_iconst (0) (by decide) ?_
            refine q_goto ?_
            refine K_of b_148_91 h_148_91 ?_
            refine q_putI (c0 := 1) (j := 14) rfl rfl (zl hS 73 (by decide)) (sk hS 73 (by decide) rfl) rfl ?_
            obtain ⟨I_91, nI_91, h⟩ := stI_some h
            refine q_nI nI_91 ?_
            refine q_aload rfl ?_
            refine q_iconst (1) (by decide) ?_
            obtain ⟨d_96, h⟩ := ite_some h
            obtain ⟨⟨I2_96, L2_96⟩, e_96, h⟩ := Option.bind_eq_some_iff.mp h
            dsimp only at h
            refine q_fv2V (a_149 X hS (d := d - 1) (by omega) e_96) (by omega) (Nat.le_refl _) (Nat.le_refl _) rfl (Nat.le_of_ble_eq_true rfl) ⟨(zl hS 73 (by decide)), congrArg Prod.fst (sk hS 73 (by decide) rfl), by decide⟩ ?_
            refine q_aload rfl ?_
            refine q_iconst (0) (by decide) ?_
            refine q_iconst (0) (by decide) ?_
            obtain ⟨d_102, h⟩ := ite_some h
            obtain ⟨⟨I3_102, L3_102⟩, e_102, h⟩ := Option.bind_eq_some_iff.mp h
            dsimp only at h
            refine q_fs3V (a_151 X hS (d := d - 1) (by omega) e_102) (by omega) (Nat.le_refl _) (Nat.le_refl _) rfl (Nat.le_of_ble_eq_true rfl) ?_
            refine q_aload rfl ?_
            refine q_getI (c0 := 1) (j := 13) rfl rfl (zl hS 73 (by decide)) (sk hS 73 (by decide) rfl) (Or.inl rfl) (by decide) ?_
            refine q_aload rfl ?_
            refine q_getI (c0 := 1) (j := 11) rfl rfl (zl hS 73 (by decide)) (sk hS 73 (by decide) rfl) (Or.inl rfl) (by decide) ?_
            refine q_icmp_le (fun c_113 => ?_) (fun c_113 => ?_)
            · rw [if_pos c_113] at h
              refine K_of b_148_117 h_148_117 ?_
              refine q_aload rfl ?_
              refine q_aload rfl ?_
              refine q_getI (c0 := 1) (j := 13) rfl rfl (zl hS 73 (by decide)) (sk hS 73 (by decide) rfl) (Or.inl rfl) (by decide) ?_
              refine q_putI (c0 := 1) (j := 12) rfl rfl (zl hS 73 (by decide)) (sk hS 73 (by decide) rfl) rfl ?_
              obtain ⟨I_122, nI_122, h⟩ := stI_some h
              refine q_nI nI_122 ?_
              refine q_aload rfl ?_
              refine q_aload rfl ?_
              refine q_getI (c0 := 1) (j := 12) rfl rfl (zl hS 73 (by decide)) (sk hS 73 (by decide) rfl) (Or.inl rfl) (by decide) ?_
              refine q_iconst (1) (by decide) ?_
              refine q_iadd ?_
              refine q_putI (c0 := 1) (j := 13) rfl rfl (zl hS 73 (by decide)) (sk hS 73 (by decide) rfl) rfl ?_
              obtain ⟨I_132, nI_132, h⟩ := stI_some h
              refine q_nI nI_132 ?_
              refine q_aload rfl ?_
              refine q_aload rfl ?_
              refine q_getI (c0 := 1) (j := 12) rfl rfl (zl hS 73 (by decide)) (sk hS 73 (by decide) rfl) (Or.inl rfl) (by decide) ?_
              refine q_putI (c0 := 1) (j := 14) rfl rfl (zl hS 73 (by decide)) (sk hS 73 (by decide) rfl) rfl ?_
              obtain ⟨I_140, nI_140, h⟩ := stI_some h
              refine q_nI nI_140 ?_
              refine q_aload rfl ?_
              refine q_iconst (0) (by decide) ?_
              obtain ⟨d_145, h⟩ := ite_some h
              obtain ⟨⟨I4_145, L4_145⟩, e_145, h⟩ := Option.bind_eq_some_iff.mp h
              dsimp only at h
              refine q_fv2V (a_149 X hS (d := d - 1) (by omega) e_145) (by omega) (Nat.le_refl _) (Nat.le_refl _) rfl (Nat.le_of_ble_eq_true rfl) ⟨(zl hS 73 (by decide)), congrArg Prod.fst (sk hS 73 (by decide) rfl), by decide⟩ ?_
              refine q_aload rfl ?_
              refine q_iconst (0) (by decide) ?_
              refine q_iconst (0) (by decide) ?_
              obtain ⟨d_151, h⟩ := ite_some h
              obtain ⟨⟨I5_151, L5_151⟩, e_151, h⟩ := Option.bind_eq_some_iff.mp h
              dsimp only at h
              refine q_fs3V (a_151 X hS (d := d - 1) (by omega) e_151) (by omega) (Nat.le_refl _) (Nat.le_refl _) rfl (Nat.le_of_ble_eq_true rfl) ?_
              cases h
              exact q_vret rfl (Nat.le_refl _) (Nat.le_refl _) rfl
            · rw [if_neg c_113] at h
              cases h
              exact q_vret rfl (Nat.le_refl _) (Nat.le_refl _) rfl
        · rw [if_neg c_32] at h
          cases h
          exact q_vret rfl (Nat.le_refl _) (Nat.le_refl _) rfl
      · rw [if_pos c_4] at h
        cases h
        exact q_vret rfl (Nat.le_refl _) (Nat.le_refl _) rfl
theorem a_148 (X : GX) {z : Nat} {kd : Nat → Nat × Nat} {Rf : Nat → Nat → Option Nat} (hS : Sh z kd Rf) {n dp d : Nat} (hd : dp ≤ d) {I : (Nat → Nat → Int32)} {L : (Nat → Nat → Int64)} {I1 : (Nat → Nat → Int32)} {L1 : (Nat → Nat → Int64)} (h : g_148 n dp (z, kd, Rf) 0 I L = some (I1, L1)) : Ct X d 148 0 0 [.ref 73] (z, kd, I, L, Rf) (AV (fun τ => τ = (z, kd, I1, L1, Rf))) :=
  Ct_of mu_148 (Nat.le_of_ble_eq_true rfl) ((w_148 X hS n dp d hd I L _ _) h)

/-! 156 CutFloor$Stock.canBe(IIIIII)Z -/
set_option maxHeartbeats 4000000 in
set_option maxRecDepth 100000 in
def g_156 : Nat → Nat → EN → Nat → (Nat → Nat → Int32) → (Nat → Nat → Int64) → Int32 → Int32 → Int32 → Int32 → Int32 → Int32 →  Option (Int32 × (Nat → Nat → Int32) × (Nat → Nat → Int64))
  | 0, _, _, _, _, _, _, _, _, _, _, _ => none
  | n + 1, dp, e, lab, I, L, i1, i2, i3, i4, i5, i6 =>
    if lab = 0 then (if 1 ≤ dp then (g_14 n (dp - 1) e 0 I L i1 (1 : Int32) (99 : Int32)).bind (fun ⟨x0_4, I0_4, L0_4⟩ => (if x0_4 = 0 then (some ((0 : Int32), I0_4, L0_4)) else (if 1 ≤ dp then (g_14 n (dp - 1) e 0 I0_4 L0_4 i2 (0 : Int32) (100 : Int32)).bind (fun ⟨x1_14, I1_14, L1_14⟩ => (if x1_14 = 0 then (some ((0 : Int32), I1_14, L1_14)) else (if 1 ≤ dp then (g_14 n (dp - 1) e 0 I1_14 L1_14 i3 (0 : Int32) (99 : Int32)).bind (fun ⟨x2_24, I2_24, L2_24⟩ => (if x2_24 = 0 then (some ((0 : Int32), I2_24, L2_24)) else (if 1 ≤ dp then (g_14 n (dp - 1) e 0 I2_24 L2_24 i4 (0 : Int32) (3 : Int32)).bind (fun ⟨x3_34, I3_34, L3_34⟩ => (if x3_34 = 0 then (some ((0 : Int32), I3_34, L3_34)) else (if 1 ≤ dp then (g_14 n (dp - 1) e 0 I3_34 L3_34 i5 (0 : Int32) (23 : Int32)).bind (fun ⟨x4_45, I4_45, L4_45⟩ => (if x4_45 = 0 then (some ((0 : Int32), I4_45, L4_45)) else (if 1 ≤ dp then (g_14 n (dp - 1) e 0 I4_45 L4_45 i6 (0 : Int32) (255 : Int32)).bind (fun ⟨x5_57, I5_57, L5_57⟩ => (if x5_57 = 0 then (some ((0 : Int32), I5_57, L5_57)) else (some ((1 : Int32), I5_57, L5_57)))) else none))) else none))) else none))) else none))) else none))) else none)
    else none
set_option maxRecDepth 100000 in
theorem e_156_0 (n dp : Nat) (e : EN) (I : (Nat → Nat → Int32)) (L : (Nat → Nat → Int64)) (i1 : Int32) (i2 : Int32) (i3 : Int32) (i4 : Int32) (i5 : Int32) (i6 : Int32) : g_156 (n + 1) dp e 0 I L i1 i2 i3 i4 i5 i6 = (if 1 ≤ dp then (g_14 n (dp - 1) e 0 I L i1 (1 : Int32) (99 : Int32)).bind (fun ⟨x0_4, I0_4, L0_4⟩ => (if x0_4 = 0 then (some ((0 : Int32), I0_4, L0_4)) else (if 1 ≤ dp then (g_14 n (dp - 1) e 0 I0_4 L0_4 i2 (0 : Int32) (100 : Int32)).bind (fun ⟨x1_14, I1_14, L1_14⟩ => (if x1_14 = 0 then (some ((0 : Int32), I1_14, L1_14)) else (if 1 ≤ dp then (g_14 n (dp - 1) e 0 I1_14 L1_14 i3 (0 : Int32) (99 : Int32)).bind (fun ⟨x2_24, I2_24, L2_24⟩ => (if x2_24 = 0 then (some ((0 : Int32), I2_24, L2_24)) else (if 1 ≤ dp then (g_14 n (dp - 1) e 0 I2_24 L2_24 i4 (0 : Int32) (3 : Int32)).bind (fun ⟨x3_34, I3_34, L3_34⟩ => (if x3_34 = 0 then (some ((0 : Int32), I3_34, L3_34)) else (if 1 ≤ dp then (g_14 n (dp - 1) e 0 I3_34 L3_34 i5 (0 : Int32) (23 : Int32)).bind (fun ⟨x4_45, I4_45, L4_45⟩ => (if x4_45 = 0 then (some ((0 : Int32), I4_45, L4_45)) else (if 1 ≤ dp then (g_14 n (dp - 1) e 0 I4_45 L4_45 i6 (0 : Int32) (255 : Int32)).bind (fun ⟨x5_57, I5_57, L5_57⟩ => (if x5_57 = 0 then (some ((0 : Int32), I5_57, L5_57)) else (some ((1 : Int32), I5_57, L5_57)))) else none))) else none))) else none))) else none))) else none))) else none) := by rw [g_156.eq_2, if_pos (show (0 : Nat) = 0 from rfl)]
set_option maxHeartbeats 8000000 in
set_option maxRecDepth 100000 in
theorem w_156 (X : GX) {z : Nat} {kd : Nat → Nat × Nat} {Rf : Nat → Nat → Option Nat} (hS : Sh z kd Rf) : ∀ (n dp d : Nat), dp ≤ d → ∀ (I : (Nat → Nat → Int32)) (L : (Nat → Nat → Int64)) (i1 : Int32) (i2 : Int32) (i3 : Int32) (i4 : Int32) (i5 : Int32) (i6 : Int32) (r : Int32) (I1 : (Nat → Nat → Int32)) (L1 : (Nat → Nat → Int64)), (g_156 n dp (z, kd, Rf) 0 I L i1 i2 i3 i4 i5 i6 = some (r, I1, L1) → K X d 156 0 0 (AI (fun x τ => x = r ∧ τ = (z, kd, I1, L1, Rf))) 0 [some (.ref 87), some (.int i1), some (.int i2), some (.int i3), some (.int i4), some (.int i5), some (.int i6)] [] (z, kd, I, L, Rf) 0 0) := by
  intro n
  induction n with
  | zero => intro dp d hdp I L i1 i2 i3 i4 i5 i6 r I1 L1; exact fun h => by cases h
  | succ n ih =>
    intro dp d hdp I L i1 i2 i3 i4 i5 i6 r I1 L1
    · intro h
      rw [e_156_0] at h
      refine K_of b_156_0 h_156_0 ?_
      refine q_iload rfl ?_
      refine q_iconst (1) (by decide) ?_
      refine q_iconst (99) (by decide) ?_
      obtain ⟨d_4, h⟩ := ite_some h
      obtain ⟨⟨x0_4, I0_4, L0_4⟩, e_4, h⟩ := Option.bind_eq_some_iff.mp h
      dsimp only at h
      refine q_fs3I (a_14 X hS (d := d - 1) (by omega) e_4) (by omega) (Nat.le_refl _) (Nat.le_refl _) rfl (Nat.le_of_ble_eq_true rfl) ?_
      refine q_if_eq (fun c_7 => ?_) (fun c_7 => ?_)
      · rw [if_pos c_7] at h
        refine K_of b_156_67 h_156_67 ?_
        refine q_iconst (0) (by decide) ?_
        refine q_end ?_
        refine K_of b_156_68 h_156_68 ?_
        cases h
        exact q_iret rfl (Nat.le_refl _) (Nat.le_refl _) ⟨rfl, rfl⟩
      · rw [if_neg c_7] at h
        refine q_iload rfl ?_
        refine q_iconst (0) (by decide) ?_
        refine q_iconst (100) (by decide) ?_
        obtain ⟨d_14, h⟩ := ite_some h
        obtain ⟨⟨x1_14, I1_14, L1_14⟩, e_14, h⟩ := Option.bind_eq_some_iff.mp h
        dsimp only at h
        refine q_fs3I (a_14 X hS (d := d - 1) (by omega) e_14) (by omega) (Nat.le_refl _) (Nat.le_refl _) rfl (Nat.le_of_ble_eq_true rfl) ?_
        refine q_if_eq (fun c_17 => ?_) (fun c_17 => ?_)
        · rw [if_pos c_17] at h
          refine K_of b_156_67 h_156_67 ?_
          refine q_iconst (0) (by decide) ?_
          refine q_end ?_
          refine K_of b_156_68 h_156_68 ?_
          cases h
          exact q_iret rfl (Nat.le_refl _) (Nat.le_refl _) ⟨rfl, rfl⟩
        · rw [if_neg c_17] at h
          refine q_iload rfl ?_
          refine q_iconst (0) (by decide) ?_
          refine q_iconst (99) (by decide) ?_
          obtain ⟨d_24, h⟩ := ite_some h
          obtain ⟨⟨x2_24, I2_24, L2_24⟩, e_24, h⟩ := Option.bind_eq_some_iff.mp h
          dsimp only at h
          refine q_fs3I (a_14 X hS (d := d - 1) (by omega) e_24) (by omega) (Nat.le_refl _) (Nat.le_refl _) rfl (Nat.le_of_ble_eq_true rfl) ?_
          refine q_if_eq (fun c_27 => ?_) (fun c_27 => ?_)
          · rw [if_pos c_27] at h
            refine K_of b_156_67 h_156_67 ?_
            refine q_iconst (0) (by decide) ?_
            refine q_end ?_
            refine K_of b_156_68 h_156_68 ?_
            cases h
            exact q_iret rfl (Nat.le_refl _) (Nat.le_refl _) ⟨rfl, rfl⟩
          · rw [if_neg c_27] at h
            refine q_iload rfl ?_
            refine q_iconst (0) (by decide) ?_
            refine q_iconst (3) (by decide) ?_
            obtain ⟨d_34, h⟩ := ite_some h
            obtain ⟨⟨x3_34, I3_34, L3_34⟩, e_34, h⟩ := Option.bind_eq_some_iff.mp h
            dsimp only at h
            refine q_fs3I (a_14 X hS (d := d - 1) (by omega) e_34) (by omega) (Nat.le_refl _) (Nat.le_refl _) rfl (Nat.le_of_ble_eq_true rfl) ?_
            refine q_if_eq (fun c_37 => ?_) (fun c_37 => ?_)
            · rw [if_pos c_37] at h
              refine K_of b_156_67 h_156_67 ?_
              refine q_iconst (0) (by decide) ?_
              refine q_end ?_
              refine K_of b_156_68 h_156_68 ?_
              cases h
              exact q_iret rfl (Nat.le_refl _) (Nat.le_refl _) ⟨rfl, rfl⟩
            · rw [if_neg c_37] at h
              refine q_iload rfl ?_
              refine q_iconst (0) (by decide) ?_
              refine q_iconst (23) (by decide) ?_
              obtain ⟨d_45, h⟩ := ite_some h
              obtain ⟨⟨x4_45, I4_45, L4_45⟩, e_45, h⟩ := Option.bind_eq_some_iff.mp h
              dsimp only at h
              refine q_fs3I (a_14 X hS (d := d - 1) (by omega) e_45) (by omega) (Nat.le_refl _) (Nat.le_refl _) rfl (Nat.le_of_ble_eq_true rfl) ?_
              refine q_if_eq (fun c_48 => ?_) (fun c_48 => ?_)
              · rw [if_pos c_48] at h
                refine K_of b_156_67 h_156_67 ?_
                refine q_iconst (0) (by decide) ?_
                refine q_end ?_
                refine K_of b_156_68 h_156_68 ?_
                cases h
                exact q_iret rfl (Nat.le_refl _) (Nat.le_refl _) ⟨rfl, rfl⟩
              · rw [if_neg c_48] at h
                refine q_iload rfl ?_
                refine q_iconst (0) (by decide) ?_
                refine q_iconst (255) (by decide) ?_
                obtain ⟨d_57, h⟩ := ite_some h
                obtain ⟨⟨x5_57, I5_57, L5_57⟩, e_57, h⟩ := Option.bind_eq_some_iff.mp h
                dsimp only at h
                refine q_fs3I (a_14 X hS (d := d - 1) (by omega) e_57) (by omega) (Nat.le_refl _) (Nat.le_refl _) rfl (Nat.le_of_ble_eq_true rfl) ?_
                refine q_if_eq (fun c_60 => ?_) (fun c_60 => ?_)
                · rw [if_pos c_60] at h
                  refine K_of b_156_67 h_156_67 ?_
                  refine q_iconst (0) (by decide) ?_
                  refine q_end ?_
                  refine K_of b_156_68 h_156_68 ?_
                  cases h
                  exact q_iret rfl (Nat.le_refl _) (Nat.le_refl _) ⟨rfl, rfl⟩
                · rw [if_neg c_60] at h
                  refine q_iconst (1) (by decide) ?_
                  refine q_goto ?_
                  refine K_of b_156_68 h_156_68 ?_
                  cases h
                  exact q_iret rfl (Nat.le_refl _) (Nat.le_refl _) ⟨rfl, rfl⟩
theorem a_156 (X : GX) {z : Nat} {kd : Nat → Nat × Nat} {Rf : Nat → Nat → Option Nat} (hS : Sh z kd Rf) {n dp d : Nat} (hd : dp ≤ d) {I : (Nat → Nat → Int32)} {L : (Nat → Nat → Int64)} {i1 : Int32} {i2 : Int32} {i3 : Int32} {i4 : Int32} {i5 : Int32} {i6 : Int32} {I1 : (Nat → Nat → Int32)} {L1 : (Nat → Nat → Int64)} {r : Int32} (h : g_156 n dp (z, kd, Rf) 0 I L i1 i2 i3 i4 i5 i6 = some (r, I1, L1)) : Ct X d 156 0 0 [.ref 87, .int i1, .int i2, .int i3, .int i4, .int i5, .int i6] (z, kd, I, L, Rf) (AI (fun x τ => x = r ∧ τ = (z, kd, I1, L1, Rf))) :=
  Ct_of mu_156 (Nat.le_of_ble_eq_true rfl) ((w_156 X hS n dp d hd I L i1 i2 i3 i4 i5 i6 _ _ _) h)

/-! 157 CutFloor$Mixer.forget()V -/
set_option maxHeartbeats 4000000 in
set_option maxRecDepth 100000 in
def g_157 : Nat → Nat → EN → Nat → (Nat → Nat → Int32) → (Nat → Nat → Int64) →  Option ((Nat → Nat → Int32) × (Nat → Nat → Int64))
  | 0, _, _, _, _, _ => none
  | n + 1, dp, e, lab, I, L =>
    if lab = 0 then (stI (u2 I 81 11 (1 : Int32)) (fun I_2 => (some (I_2, L))))
    else none
set_option maxRecDepth 100000 in
theorem e_157_0 (n dp : Nat) (e : EN) (I : (Nat → Nat → Int32)) (L : (Nat → Nat → Int64)) : g_157 (n + 1) dp e 0 I L = (stI (u2 I 81 11 (1 : Int32)) (fun I_2 => (some (I_2, L)))) := by rw [g_157.eq_2, if_pos (show (0 : Nat) = 0 from rfl)]
set_option maxHeartbeats 8000000 in
set_option maxRecDepth 100000 in
theorem w_157 (X : GX) {z : Nat} {kd : Nat → Nat × Nat} {Rf : Nat → Nat → Option Nat} (hS : Sh z kd Rf) : ∀ (n dp d : Nat), dp ≤ d → ∀ (I : (Nat → Nat → Int32)) (L : (Nat → Nat → Int64)) (I1 : (Nat → Nat → Int32)) (L1 : (Nat → Nat → Int64)), (g_157 n dp (z, kd, Rf) 0 I L = some (I1, L1) → K X d 157 0 0 (AV (fun τ => τ = (z, kd, I1, L1, Rf))) 0 [some (.ref 81)] [] (z, kd, I, L, Rf) 0 0) := by
  intro n
  induction n with
  | zero => intro dp d hdp I L I1 L1; exact fun h => by cases h
  | succ n ih =>
    intro dp d hdp I L I1 L1
    · intro h
      rw [e_157_0] at h
      refine K_of b_157_0 h_157_0 ?_
      refine q_aload rfl ?_
      refine q_iconst (1) (by decide) ?_
      refine q_putZ (c0 := 5) (j := 11) rfl rfl (zl hS 81 (by decide)) (sk hS 81 (by decide) rfl) rfl (Or.inr rfl) ?_
      obtain ⟨I_2, nI_2, h⟩ := stI_some h
      refine q_nI nI_2 ?_
      cases h
      exact q_vret rfl (Nat.le_refl _) (Nat.le_refl _) rfl
theorem a_157 (X : GX) {z : Nat} {kd : Nat → Nat × Nat} {Rf : Nat → Nat → Option Nat} (hS : Sh z kd Rf) {n dp d : Nat} (hd : dp ≤ d) {I : (Nat → Nat → Int32)} {L : (Nat → Nat → Int64)} {I1 : (Nat → Nat → Int32)} {L1 : (Nat → Nat → Int64)} (h : g_157 n dp (z, kd, Rf) 0 I L = some (I1, L1)) : Ct X d 157 0 0 [.ref 81] (z, kd, I, L, Rf) (AV (fun τ => τ = (z, kd, I1, L1, Rf))) :=
  Ct_of mu_157 (Nat.le_of_ble_eq_true rfl) ((w_157 X hS n dp d hd I L _ _) h)

/-! 158 CutFloor$Stock.store(IIIIII)I -/
set_option maxHeartbeats 4000000 in
set_option maxRecDepth 100000 in
def g_158 : Nat → Nat → EN → Nat → (Nat → Nat → Int32) → (Nat → Nat → Int64) → Int32 → Int32 → Int32 → Int32 → Int32 → Int32 →  Option (Int32 × (Nat → Nat → Int32) × (Nat → Nat → Int64))
  | 0, _, _, _, _, _, _, _, _, _, _, _ => none
  | n + 1, dp, e, lab, I, L, i1, i2, i3, i4, i5, i6 =>
    if lab = 0 then (if (I 1 9) < (16 : Int32) then (if 0 ≤ (((I 1 9) * (7 : Int32)) + (0 : Int32)) ∧ (Int32.toNatClampNeg (((I 1 9) * (7 : Int32)) + (0 : Int32))) < 112 then (stI (u2 I 7 (Int32.toNatClampNeg (((I 1 9) * (7 : Int32)) + (0 : Int32))) i1) (fun I_37 => (if 0 ≤ (((I 1 9) * (7 : Int32)) + (1 : Int32)) ∧ (Int32.toNatClampNeg (((I 1 9) * (7 : Int32)) + (1 : Int32))) < 112 then (stI (u2 I_37 7 (Int32.toNatClampNeg (((I 1 9) * (7 : Int32)) + (1 : Int32))) i2) (fun I_50 => (if 0 ≤ (((I 1 9) * (7 : Int32)) + (2 : Int32)) ∧ (Int32.toNatClampNeg (((I 1 9) * (7 : Int32)) + (2 : Int32))) < 112 then (stI (u2 I_50 7 (Int32.toNatClampNeg (((I 1 9) * (7 : Int32)) + (2 : Int32))) i3) (fun I_63 => (if 0 ≤ (((I 1 9) * (7 : Int32)) + (3 : Int32)) ∧ (Int32.toNatClampNeg (((I 1 9) * (7 : Int32)) + (3 : Int32))) < 112 then (stI (u2 I_63 7 (Int32.toNatClampNeg (((I 1 9) * (7 : Int32)) + (3 : Int32))) i4) (fun I_77 => (if 0 ≤ (((I 1 9) * (7 : Int32)) + (4 : Int32)) ∧ (Int32.toNatClampNeg (((I 1 9) * (7 : Int32)) + (4 : Int32))) < 112 then (stI (u2 I_77 7 (Int32.toNatClampNeg (((I 1 9) * (7 : Int32)) + (4 : Int32))) i5) (fun I_91 => (if 0 ≤ (((I 1 9) * (7 : Int32)) + (5 : Int32)) ∧ (Int32.toNatClampNeg (((I 1 9) * (7 : Int32)) + (5 : Int32))) < 112 then (stI (u2 I_91 7 (Int32.toNatClampNeg (((I 1 9) * (7 : Int32)) + (5 : Int32))) i6) (fun I_105 => (if 0 ≤ (((I 1 9) * (7 : Int32)) + (6 : Int32)) ∧ (Int32.toNatClampNeg (((I 1 9) * (7 : Int32)) + (6 : Int32))) < 112 then (stI (u2 I_105 7 (Int32.toNatClampNeg (((I 1 9) * (7 : Int32)) + (6 : Int32))) (1 : Int32)) (fun I_119 => (stI (u2 I_119 1 9 ((I 1 9) + (1 : Int32))) (fun I_128 => (some ((I 1 9), I_128, L)))))) else none))) else none))) else none))) else none))) else none))) else none))) else none) else (some ((-1 : Int32), I, L)))
    else none
set_option maxRecDepth 100000 in
theorem e_158_0 (n dp : Nat) (e : EN) (I : (Nat → Nat → Int32)) (L : (Nat → Nat → Int64)) (i1 : Int32) (i2 : Int32) (i3 : Int32) (i4 : Int32) (i5 : Int32) (i6 : Int32) : g_158 (n + 1) dp e 0 I L i1 i2 i3 i4 i5 i6 = (if (I 1 9) < (16 : Int32) then (if 0 ≤ (((I 1 9) * (7 : Int32)) + (0 : Int32)) ∧ (Int32.toNatClampNeg (((I 1 9) * (7 : Int32)) + (0 : Int32))) < 112 then (stI (u2 I 7 (Int32.toNatClampNeg (((I 1 9) * (7 : Int32)) + (0 : Int32))) i1) (fun I_37 => (if 0 ≤ (((I 1 9) * (7 : Int32)) + (1 : Int32)) ∧ (Int32.toNatClampNeg (((I 1 9) * (7 : Int32)) + (1 : Int32))) < 112 then (stI (u2 I_37 7 (Int32.toNatClampNeg (((I 1 9) * (7 : Int32)) + (1 : Int32))) i2) (fun I_50 => (if 0 ≤ (((I 1 9) * (7 : Int32)) + (2 : Int32)) ∧ (Int32.toNatClampNeg (((I 1 9) * (7 : Int32)) + (2 : Int32))) < 112 then (stI (u2 I_50 7 (Int32.toNatClampNeg (((I 1 9) * (7 : Int32)) + (2 : Int32))) i3) (fun I_63 => (if 0 ≤ (((I 1 9) * (7 : Int32)) + (3 : Int32)) ∧ (Int32.toNatClampNeg (((I 1 9) * (7 : Int32)) + (3 : Int32))) < 112 then (stI (u2 I_63 7 (Int32.toNatClampNeg (((I 1 9) * (7 : Int32)) + (3 : Int32))) i4) (fun I_77 => (if 0 ≤ (((I 1 9) * (7 : Int32)) + (4 : Int32)) ∧ (Int32.toNatClampNeg (((I 1 9) * (7 : Int32)) + (4 : Int32))) < 112 then (stI (u2 I_77 7 (Int32.toNatClampNeg (((I 1 9) * (7 : Int32)) + (4 : Int32))) i5) (fun I_91 => (if 0 ≤ (((I 1 9) * (7 : Int32)) + (5 : Int32)) ∧ (Int32.toNatClampNeg (((I 1 9) * (7 : Int32)) + (5 : Int32))) < 112 then (stI (u2 I_91 7 (Int32.toNatClampNeg (((I 1 9) * (7 : Int32)) + (5 : Int32))) i6) (fun I_105 => (if 0 ≤ (((I 1 9) * (7 : Int32)) + (6 : Int32)) ∧ (Int32.toNatClampNeg (((I 1 9) * (7 : Int32)) + (6 : Int32))) < 112 then (stI (u2 I_105 7 (Int32.toNatClampNeg (((I 1 9) * (7 : Int32)) + (6 : Int32))) (1 : Int32)) (fun I_119 => (stI (u2 I_119 1 9 ((I 1 9) + (1 : Int32))) (fun I_128 => (some ((I 1 9), I_128, L)))))) else none))) else none))) else none))) else none))) else none))) else none))) else none) else (some ((-1 : Int32), I, L))) := by rw [g_158.eq_2, if_pos (show (0 : Nat) = 0 from rfl)]
set_option maxHeartbeats 8000000 in
set_option maxRecDepth 100000 in
theorem w_158 (X : GX) {z : Nat} {kd : Nat → Nat × Nat} {Rf : Nat → Nat → Option Nat} (hS : Sh z kd Rf) : ∀ (n dp d : Nat), dp ≤ d → ∀ (I : (Nat → Nat → Int32)) (L : (Nat → Nat → Int64)) (i1 : Int32) (i2 : Int32) (i3 : Int32) (i4 : Int32) (i5 : Int32) (i6 : Int32) (r : Int32) (I1 : (Nat → Nat → Int32)) (L1 : (Nat → Nat → Int64)), (g_158 n dp (z, kd, Rf) 0 I L i1 i2 i3 i4 i5 i6 = some (r, I1, L1) → K X d 158 0 0 (AI (fun x τ => x = r ∧ τ = (z, kd, I1, L1, Rf))) 0 [some (.ref 87), some (.int i1), some (.int i2), some (.int i3), some (.int i4), some (.int i5), some (.int i6), none, none] [] (z, kd, I, L, Rf) 0 0) := by
  intro n
  induction n with
  | zero => intro dp d hdp I L i1 i2 i3 i4 i5 i6 r I1 L1; exact fun h => by cases h
  | succ n ih =>
    intro dp d hdp I L i1 i2 i3 i4 i5 i6 r I1 L1
    · intro h
      rw [e_158_0] at h
      refine K_of b_158_0 h_158_0 ?_
      refine q_aload rfl ?_
      refine q_getRs (c0 := 9) (j := 0) rfl rfl (zl hS 87 (by decide)) (sk hS 87 (by decide) rfl) rfl (by decide) (r_87_0 hS) ?_
      refine q_getI (c0 := 3) (j := 9) rfl rfl (zl hS 1 (by decide)) (sk hS 1 (by decide) rfl) (Or.inl rfl) (by decide) ?_
      refine q_istore (ls1 := [some (.ref 87), some (.int i1), some (.int i2), some (.int i3), some (.int i4), some (.int i5), some (.int i6), some (.int (I 1 9)), none]) (Nat.le_of_ble_eq_true rfl) rfl ?_
      refine q_iload rfl ?_
      refine q_iconst (16) (by decide) ?_
      refine q_icmp_lt (fun c_13 => ?_) (fun c_13 => ?_)
      · rw [if_pos c_13] at h
        refine K_of b_158_18 h_158_18 ?_
        refine q_iload rfl ?_
        refine q_iconst (7) (by decide) ?_
        refine q_imul ?_
        refine q_istore (ls1 := [some (.ref 87), some (.int i1), some (.int i2), some (.int i3), some (.int i4), some (.int i5), some (.int i6), some (.int (I 1 9)), some (.int ((I 1 9) * (7 : Int32)))]) (Nat.le_of_ble_eq_true rfl) rfl ?_
        refine q_aload rfl ?_
        refine q_getRs (c0 := 9) (j := 0) rfl rfl (zl hS 87 (by decide)) (sk hS 87 (by decide) rfl) rfl (by decide) (r_87_0 hS) ?_
        refine q_getRs (c0 := 3) (j := 5) rfl rfl (zl hS 1 (by decide)) (sk hS 1 (by decide) rfl) rfl (by decide) (r_1_5 hS) ?_
        refine q_iload rfl ?_
        refine q_iconst (0) (by decide) ?_
        refine q_iadd ?_
        refine q_iload rfl ?_
        obtain ⟨⟨u_37, v_37⟩, h⟩ := ite_some h
        refine q_iasN (Int32.toNatClampNeg (((I 1 9) * (7 : Int32)) + (0 : Int32))) (nx u_37) (zl hS 7 (by decide)) (sk hS 7 (by decide) rfl) v_37 (by decide) ?_
        obtain ⟨I_37, nI_37, h⟩ := stI_some h
        refine q_nI nI_37 ?_
        refine q_aload rfl ?_
        refine q_getRs (c0 := 9) (j := 0) rfl rfl (zl hS 87 (by decide)) (sk hS 87 (by decide) rfl) rfl (by decide) (r_87_0 hS) ?_
        refine q_getRs (c0 := 3) (j := 5) rfl rfl (zl hS 1 (by decide)) (sk hS 1 (by decide) rfl) rfl (by decide) (r_1_5 hS) ?_
        refine q_iload rfl ?_
        refine q_iconst (1) (by decide) ?_
        refine q_iadd ?_
        refine q_iload rfl ?_
        obtain ⟨⟨u_50, v_50⟩, h⟩ := ite_some h
        refine q_iasN (Int32.toNatClampNeg (((I 1 9) * (7 : Int32)) + (1 : Int32))) (nx u_50) (zl hS 7 (by decide)) (sk hS 7 (by decide) rfl) v_50 (by decide) ?_
        obtain ⟨I_50, nI_50, h⟩ := stI_some h
        refine q_nI nI_50 ?_
        refine q_aload rfl ?_
        refine q_getRs (c0 := 9) (j := 0) rfl rfl (zl hS 87 (by decide)) (sk hS 87 (by decide) rfl) rfl (by decide) (r_87_0 hS) ?_
        refine q_getRs (c0 := 3) (j := 5) rfl rfl (zl hS 1 (by decide)) (sk hS 1 (by decide) rfl) rfl (by decide) (r_1_5 hS) ?_
        refine q_iload rfl ?_
        refine q_iconst (2) (by decide) ?_
        refine q_iadd ?_
        refine q_iload rfl ?_
        obtain ⟨⟨u_63, v_63⟩, h⟩ := ite_some h
        refine q_iasN (Int32.toNatClampNeg (((I 1 9) * (7 : Int32)) + (2 : Int32))) (nx u_63) (zl hS 7 (by decide)) (sk hS 7 (by decide) rfl) v_63 (by decide) ?_
        obtain ⟨I_63, nI_63, h⟩ := stI_some h
        refine q_nI nI_63 ?_
        refine q_aload rfl ?_
        refine q_getRs (c0 := 9) (j := 0) rfl rfl (zl hS 87 (by decide)) (sk hS 87 (by decide) rfl) rfl (by decide) (r_87_0 hS) ?_
        refine q_getRs (c0 := 3) (j := 5) rfl rfl (zl hS 1 (by decide)) (sk hS 1 (by decide) rfl) rfl (by decide) (r_1_5 hS) ?_
        refine q_iload rfl ?_
        refine q_iconst (3) (by decide) ?_
        refine q_iadd ?_
        refine q_iload rfl ?_
        obtain ⟨⟨u_77, v_77⟩, h⟩ := ite_some h
        refine q_iasN (Int32.toNatClampNeg (((I 1 9) * (7 : Int32)) + (3 : Int32))) (nx u_77) (zl hS 7 (by decide)) (sk hS 7 (by decide) rfl) v_77 (by decide) ?_
        obtain ⟨I_77, nI_77, h⟩ := stI_some h
        refine q_nI nI_77 ?_
        refine q_aload rfl ?_
        refine q_getRs (c0 := 9) (j := 0) rfl rfl (zl hS 87 (by decide)) (sk hS 87 (by decide) rfl) rfl (by decide) (r_87_0 hS) ?_
        refine q_getRs (c0 := 3) (j := 5) rfl rfl (zl hS 1 (by decide)) (sk hS 1 (by decide) rfl) rfl (by decide) (r_1_5 hS) ?_
        refine q_iload rfl ?_
        refine q_iconst (4) (by decide) ?_
        refine q_iadd ?_
        refine q_iload rfl ?_
        obtain ⟨⟨u_91, v_91⟩, h⟩ := ite_some h
        refine q_iasN (Int32.toNatClampNeg (((I 1 9) * (7 : Int32)) + (4 : Int32))) (nx u_91) (zl hS 7 (by decide)) (sk hS 7 (by decide) rfl) v_91 (by decide) ?_
        obtain ⟨I_91, nI_91, h⟩ := stI_some h
        refine q_nI nI_91 ?_
        refine q_aload rfl ?_
        refine q_getRs (c0 := 9) (j := 0) rfl rfl (zl hS 87 (by decide)) (sk hS 87 (by decide) rfl) rfl (by decide) (r_87_0 hS) ?_
        refine q_getRs (c0 := 3) (j := 5) rfl rfl (zl hS 1 (by decide)) (sk hS 1 (by decide) rfl) rfl (by decide) (r_1_5 hS) ?_
        refine q_iload rfl ?_
        refine q_iconst (5) (by decide) ?_
        refine q_iadd ?_
        refine q_iload rfl ?_
        obtain ⟨⟨u_105, v_105⟩, h⟩ := ite_some h
        refine q_iasN (Int32.toNatClampNeg (((I 1 9) * (7 : Int32)) + (5 : Int32))) (nx u_105) (zl hS 7 (by decide)) (sk hS 7 (by decide) rfl) v_105 (by decide) ?_
        obtain ⟨I_105, nI_105, h⟩ := stI_some h
        refine q_nI nI_105 ?_
        refine q_aload rfl ?_
        refine q_getRs (c0 := 9) (j := 0) rfl rfl (zl hS 87 (by decide)) (sk hS 87 (by decide) rfl) rfl (by decide) (r_87_0 hS) ?_
        refine q_getRs (c0 := 3) (j := 5) rfl rfl (zl hS 1 (by decide)) (sk hS 1 (by decide) rfl) rfl (by decide) (r_1_5 hS) ?_
        refine q_iload rfl ?_
        refine q_iconst (6) (by decide) ?_
        refine q_iadd ?_
        refine q_iconst (1) (by decide) ?_
        obtain ⟨⟨u_119, v_119⟩, h⟩ := ite_some h
        refine q_iasN (Int32.toNatClampNeg (((I 1 9) * (7 : Int32)) + (6 : Int32))) (nx u_119) (zl hS 7 (by decide)) (sk hS 7 (by decide) rfl) v_119 (by decide) ?_
        obtain ⟨I_119, nI_119, h⟩ := stI_some h
        refine q_nI nI_119 ?_
        refine q_aload rfl ?_
        refine q_getRs (c0 := 9) (j := 0) rfl rfl (zl hS 87 (by decide)) (sk hS 87 (by decide) rfl) rfl (by decide) (r_87_0 hS) ?_
        refine q_iload rfl ?_
        refine q_iconst (1) (by decide) ?_
        refine q_iadd ?_
        refine q_putI (c0 := 3) (j := 9) rfl rfl (zl hS 1 (by decide)) (sk hS 1 (by decide) rfl) rfl ?_
        obtain ⟨I_128, nI_128, h⟩ := stI_some h
        refine q_nI nI_128 ?_
        refine q_iload rfl ?_
        cases h
        exact q_iret rfl (Nat.le_refl _) (Nat.le_refl _) ⟨rfl, rfl⟩
      · rw [if_neg c_13] at h
        refine q_iconst (-1) (by decide) ?_
        cases h
        exact q_iret rfl (Nat.le_refl _) (Nat.le_refl _) ⟨rfl, rfl⟩
theorem a_158 (X : GX) {z : Nat} {kd : Nat → Nat × Nat} {Rf : Nat → Nat → Option Nat} (hS : Sh z kd Rf) {n dp d : Nat} (hd : dp ≤ d) {I : (Nat → Nat → Int32)} {L : (Nat → Nat → Int64)} {i1 : Int32} {i2 : Int32} {i3 : Int32} {i4 : Int32} {i5 : Int32} {i6 : Int32} {I1 : (Nat → Nat → Int32)} {L1 : (Nat → Nat → Int64)} {r : Int32} (h : g_158 n dp (z, kd, Rf) 0 I L i1 i2 i3 i4 i5 i6 = some (r, I1, L1)) : Ct X d 158 0 0 [.ref 87, .int i1, .int i2, .int i3, .int i4, .int i5, .int i6] (z, kd, I, L, Rf) (AI (fun x τ => x = r ∧ τ = (z, kd, I1, L1, Rf))) :=
  Ct_of mu_158 (Nat.le_of_ble_eq_true rfl) ((w_158 X hS n dp d hd I L i1 i2 i3 i4 i5 i6 _ _ _) h)

/-! 155 CutFloor.box(IIIIII)I -/
set_option maxHeartbeats 4000000 in
set_option maxRecDepth 100000 in
def g_155 : Nat → Nat → EN → Nat → (Nat → Nat → Int32) → (Nat → Nat → Int64) → Int32 → Int32 → Int32 → Int32 → Int32 → Int32 →  Option (Int32 × (Nat → Nat → Int32) × (Nat → Nat → Int64))
  | 0, _, _, _, _, _, _, _, _, _, _, _ => none
  | n + 1, dp, e, lab, I, L, i1, i2, i3, i4, i5, i6 =>
    if lab = 0 then (if 1 ≤ dp then (g_156 n (dp - 1) e 0 I L i1 i2 i3 i4 i5 i6).bind (fun ⟨x0_13, I0_13, L0_13⟩ => (if x0_13 = 0 then (if 1 ≤ dp then (g_15 n (dp - 1) e 0 I0_13 L0_13 (-1 : Int32)).bind (fun ⟨x1_21, I1_21, L1_21⟩ => (some (x1_21, I1_21, L1_21))) else none) else (if (I0_13 1 9) < (16 : Int32) then (if 1 ≤ dp then (g_157 n (dp - 1) e 0 I0_13 L0_13).bind (fun ⟨I1_48, L1_48⟩ => (if 1 ≤ dp then (g_158 n (dp - 1) e 0 I1_48 L1_48 i1 i2 i3 i4 i5 i6).bind (fun ⟨x2_65, I2_65, L2_65⟩ => (if 1 ≤ dp then (g_19 n (dp - 1) e 0 I2_65 L2_65 x2_65).bind (fun ⟨x3_68, I3_68, L3_68⟩ => (some (x3_68, I3_68, L3_68))) else none)) else none)) else none) else (if 1 ≤ dp then (g_15 n (dp - 1) e 0 I0_13 L0_13 (-5 : Int32)).bind (fun ⟨x1_40, I1_40, L1_40⟩ => (some (x1_40, I1_40, L1_40))) else none)))) else none)
    else none
set_option maxRecDepth 100000 in
theorem e_155_0 (n dp : Nat) (e : EN) (I : (Nat → Nat → Int32)) (L : (Nat → Nat → Int64)) (i1 : Int32) (i2 : Int32) (i3 : Int32) (i4 : Int32) (i5 : Int32) (i6 : Int32) : g_155 (n + 1) dp e 0 I L i1 i2 i3 i4 i5 i6 = (if 1 ≤ dp then (g_156 n (dp - 1) e 0 I L i1 i2 i3 i4 i5 i6).bind (fun ⟨x0_13, I0_13, L0_13⟩ => (if x0_13 = 0 then (if 1 ≤ dp then (g_15 n (dp - 1) e 0 I0_13 L0_13 (-1 : Int32)).bind (fun ⟨x1_21, I1_21, L1_21⟩ => (some (x1_21, I1_21, L1_21))) else none) else (if (I0_13 1 9) < (16 : Int32) then (if 1 ≤ dp then (g_157 n (dp - 1) e 0 I0_13 L0_13).bind (fun ⟨I1_48, L1_48⟩ => (if 1 ≤ dp then (g_158 n (dp - 1) e 0 I1_48 L1_48 i1 i2 i3 i4 i5 i6).bind (fun ⟨x2_65, I2_65, L2_65⟩ => (if 1 ≤ dp then (g_19 n (dp - 1) e 0 I2_65 L2_65 x2_65).bind (fun ⟨x3_68, I3_68, L3_68⟩ => (some (x3_68, I3_68, L3_68))) else none)) else none)) else none) else (if 1 ≤ dp then (g_15 n (dp - 1) e 0 I0_13 L0_13 (-5 : Int32)).bind (fun ⟨x1_40, I1_40, L1_40⟩ => (some (x1_40, I1_40, L1_40))) else none)))) else none) := by rw [g_155.eq_2, if_pos (show (0 : Nat) = 0 from rfl)]
set_option maxHeartbeats 8000000 in
set_option maxRecDepth 100000 in
theorem w_155 (X : GX) {z : Nat} {kd : Nat → Nat × Nat} {Rf : Nat → Nat → Option Nat} (hS : Sh z kd Rf) : ∀ (n dp d : Nat), dp ≤ d → ∀ (I : (Nat → Nat → Int32)) (L : (Nat → Nat → Int64)) (i1 : Int32) (i2 : Int32) (i3 : Int32) (i4 : Int32) (i5 : Int32) (i6 : Int32) (r : Int32) (I1 : (Nat → Nat → Int32)) (L1 : (Nat → Nat → Int64)), (g_155 n dp (z, kd, Rf) 0 I L i1 i2 i3 i4 i5 i6 = some (r, I1, L1) → K X d 155 0 0 (AI (fun x τ => x = r ∧ τ = (z, kd, I1, L1, Rf))) 0 [some (.ref 0), some (.int i1), some (.int i2), some (.int i3), some (.int i4), some (.int i5), some (.int i6)] [] (z, kd, I, L, Rf) 0 0) := by
  intro n
  induction n with
  | zero => intro dp d hdp I L i1 i2 i3 i4 i5 i6 r I1 L1; exact fun h => by cases h
  | succ n ih =>
    intro dp d hdp I L i1 i2 i3 i4 i5 i6 r I1 L1
    · intro h
      rw [e_155_0] at h
      refine K_of b_155_0 h_155_0 ?_
      refine q_aload rfl ?_
      refine q_getRs (c0 := 11) (j := 6) rfl rfl (zl hS 0 (by decide)) (sk hS 0 (by decide) rfl) rfl (by decide) (r_0_6 hS) ?_
      refine q_iload rfl ?_
      refine q_iload rfl ?_
      refine q_iload rfl ?_
      refine q_iload rfl ?_
      refine q_iload rfl ?_
      refine q_iload rfl ?_
      obtain ⟨d_13, h⟩ := ite_some h
      obtain ⟨⟨x0_13, I0_13, L0_13⟩, e_13, h⟩ := Option.bind_eq_some_iff.mp h
      dsimp only at h
      refine q_fv7I (a_156 X hS (d := d - 1) (by omega) e_13) (by omega) (Nat.le_refl _) (Nat.le_refl _) rfl (Nat.le_of_ble_eq_true rfl) ⟨(zl hS 87 (by decide)), congrArg Prod.fst (sk hS 87 (by decide) rfl), by decide⟩ ?_
      refine q_if_ne (fun c_16 => ?_) (fun c_16 => ?_)
      · rw [if_neg c_16] at h
        refine K_of b_155_25 h_155_25 ?_
        refine q_aload rfl ?_
        refine q_getRs (c0 := 11) (j := 0) rfl rfl (zl hS 0 (by decide)) (sk hS 0 (by decide) rfl) rfl (by decide) (r_0_0 hS) ?_
        refine q_getI (c0 := 3) (j := 9) rfl rfl (zl hS 1 (by decide)) (sk hS 1 (by decide) rfl) (Or.inl rfl) (by decide) ?_
        refine q_iconst (16) (by decide) ?_
        refine q_icmp_lt (fun c_34 => ?_) (fun c_34 => ?_)
        · rw [if_pos c_34] at h
          refine K_of b_155_44 h_155_44 ?_
          refine q_aload rfl ?_
          refine q_getRs (c0 := 11) (j := 5) rfl rfl (zl hS 0 (by decide)) (sk hS 0 (by decide) rfl) rfl (by decide) (r_0_5 hS) ?_
          obtain ⟨d_48, h⟩ := ite_some h
          obtain ⟨⟨I1_48, L1_48⟩, e_48, h⟩ := Option.bind_eq_some_iff.mp h
          dsimp only at h
          refine q_fv1V (a_157 X hS (d := d - 1) (by omega) e_48) (by omega) (Nat.le_refl _) (Nat.le_refl _) rfl (Nat.le_of_ble_eq_true rfl) ⟨(zl hS 81 (by decide)), congrArg Prod.fst (sk hS 81 (by decide) rfl), by decide⟩ ?_
          refine q_aload rfl ?_
          refine q_aload rfl ?_
          refine q_getRs (c0 := 11) (j := 6) rfl rfl (zl hS 0 (by decide)) (sk hS 0 (by decide) rfl) rfl (by decide) (r_0_6 hS) ?_
          refine q_iload rfl ?_
          refine q_iload rfl ?_
          refine q_iload rfl ?_
          refine q_iload rfl ?_
          refine q_iload rfl ?_
          refine q_iload rfl ?_
          obtain ⟨d_65, h⟩ := ite_some h
          obtain ⟨⟨x2_65, I2_65, L2_65⟩, e_65, h⟩ := Option.bind_eq_some_iff.mp h
          dsimp only at h
          refine q_fv7I (a_158 X hS (d := d - 1) (by omega) e_65) (by omega) (Nat.le_refl _) (Nat.le_refl _) rfl (Nat.le_of_ble_eq_true rfl) ⟨(zl hS 87 (by decide)), congrArg Prod.fst (sk hS 87 (by decide) rfl), by decide⟩ ?_
          obtain ⟨d_68, h⟩ := ite_some h
          obtain ⟨⟨x3_68, I3_68, L3_68⟩, e_68, h⟩ := Option.bind_eq_some_iff.mp h
          dsimp only at h
          refine q_fv2I (a_19 X hS (d := d - 1) (by omega) e_68) (by omega) (Nat.le_refl _) (Nat.le_refl _) rfl (Nat.le_of_ble_eq_true rfl) ⟨(zl hS 0 (by decide)), congrArg Prod.fst (sk hS 0 (by decide) rfl), by decide⟩ ?_
          cases h
          exact q_iret rfl (Nat.le_refl _) (Nat.le_refl _) ⟨rfl, rfl⟩
        · rw [if_neg c_34] at h
          refine q_aload rfl ?_
          refine q_iconst (-5) (by decide) ?_
          obtain ⟨d_40, h⟩ := ite_some h
          obtain ⟨⟨x1_40, I1_40, L1_40⟩, e_40, h⟩ := Option.bind_eq_some_iff.mp h
          dsimp only at h
          refine q_fv2I (a_15 X hS (d := d - 1) (by omega) e_40) (by omega) (Nat.le_refl _) (Nat.le_refl _) rfl (Nat.le_of_ble_eq_true rfl) ⟨(zl hS 0 (by decide)), congrArg Prod.fst (sk hS 0 (by decide) rfl), by decide⟩ ?_
          cases h
          exact q_iret rfl (Nat.le_refl _) (Nat.le_refl _) ⟨rfl, rfl⟩
      · rw [if_pos c_16] at h
        refine q_aload rfl ?_
        refine q_iconst (-1) (by decide) ?_
        obtain ⟨d_21, h⟩ := ite_some h
        obtain ⟨⟨x1_21, I1_21, L1_21⟩, e_21, h⟩ := Option.bind_eq_some_iff.mp h
        dsimp only at h
        refine q_fv2I (a_15 X hS (d := d - 1) (by omega) e_21) (by omega) (Nat.le_refl _) (Nat.le_refl _) rfl (Nat.le_of_ble_eq_true rfl) ⟨(zl hS 0 (by decide)), congrArg Prod.fst (sk hS 0 (by decide) rfl), by decide⟩ ?_
        cases h
        exact q_iret rfl (Nat.le_refl _) (Nat.le_refl _) ⟨rfl, rfl⟩
theorem a_155 (X : GX) {z : Nat} {kd : Nat → Nat × Nat} {Rf : Nat → Nat → Option Nat} (hS : Sh z kd Rf) {n dp d : Nat} (hd : dp ≤ d) {I : (Nat → Nat → Int32)} {L : (Nat → Nat → Int64)} {i1 : Int32} {i2 : Int32} {i3 : Int32} {i4 : Int32} {i5 : Int32} {i6 : Int32} {I1 : (Nat → Nat → Int32)} {L1 : (Nat → Nat → Int64)} {r : Int32} (h : g_155 n dp (z, kd, Rf) 0 I L i1 i2 i3 i4 i5 i6 = some (r, I1, L1)) : Ct X d 155 0 0 [.ref 0, .int i1, .int i2, .int i3, .int i4, .int i5, .int i6] (z, kd, I, L, Rf) (AI (fun x τ => x = r ∧ τ = (z, kd, I1, L1, Rf))) :=
  Ct_of mu_155 (Nat.le_of_ble_eq_true rfl) ((w_155 X hS n dp d hd I L i1 i2 i3 i4 i5 i6 _ _ _) h)

/-! 159 CutFloor.of(II)I -/
set_option maxHeartbeats 4000000 in
set_option maxRecDepth 100000 in
def g_159 : Nat → Nat → EN → Nat → (Nat → Nat → Int32) → (Nat → Nat → Int64) → Int32 → Int32 →  Option (Int32 × (Nat → Nat → Int32) × (Nat → Nat → Int64))
  | 0, _, _, _, _, _, _, _ => none
  | n + 1, dp, e, lab, I, L, i1, i2 =>
    if lab = 0 then (if 1 ≤ dp then (g_14 n (dp - 1) e 0 I L i1 (0 : Int32) ((I 1 9) - (1 : Int32))).bind (fun ⟨x0_11, I0_11, L0_11⟩ => (if x0_11 = 0 then (some ((-1 : Int32), I0_11, L0_11)) else (if 1 ≤ dp then (g_14 n (dp - 1) e 0 I0_11 L0_11 i2 (0 : Int32) (6 : Int32)).bind (fun ⟨x1_21, I1_21, L1_21⟩ => (if x1_21 = 0 then (some ((-1 : Int32), I1_21, L1_21)) else (if 0 ≤ ((i1 * (7 : Int32)) + i2) ∧ (Int32.toNatClampNeg ((i1 * (7 : Int32)) + i2)) < 112 then (some ((I1_21 7 (Int32.toNatClampNeg ((i1 * (7 : Int32)) + i2))), I1_21, L1_21)) else none))) else none))) else none)
    else none
set_option maxRecDepth 100000 in
theorem e_159_0 (n dp : Nat) (e : EN) (I : (Nat → Nat → Int32)) (L : (Nat → Nat → Int64)) (i1 : Int32) (i2 : Int32) : g_159 (n + 1) dp e 0 I L i1 i2 = (if 1 ≤ dp then (g_14 n (dp - 1) e 0 I L i1 (0 : Int32) ((I 1 9) - (1 : Int32))).bind (fun ⟨x0_11, I0_11, L0_11⟩ => (if x0_11 = 0 then (some ((-1 : Int32), I0_11, L0_11)) else (if 1 ≤ dp then (g_14 n (dp - 1) e 0 I0_11 L0_11 i2 (0 : Int32) (6 : Int32)).bind (fun ⟨x1_21, I1_21, L1_21⟩ => (if x1_21 = 0 then (some ((-1 : Int32), I1_21, L1_21)) else (if 0 ≤ ((i1 * (7 : Int32)) + i2) ∧ (Int32.toNatClampNeg ((i1 * (7 : Int32)) + i2)) < 112 then (some ((I1_21 7 (Int32.toNatClampNeg ((i1 * (7 : Int32)) + i2))), I1_21, L1_21)) else none))) else none))) else none) := by rw [g_159.eq_2, if_pos (show (0 : Nat) = 0 from rfl)]
set_option maxHeartbeats 8000000 in
set_option maxRecDepth 100000 in
theorem w_159 (X : GX) {z : Nat} {kd : Nat → Nat × Nat} {Rf : Nat → Nat → Option Nat} (hS : Sh z kd Rf) : ∀ (n dp d : Nat), dp ≤ d → ∀ (I : (Nat → Nat → Int32)) (L : (Nat → Nat → Int64)) (i1 : Int32) (i2 : Int32) (r : Int32) (I1 : (Nat → Nat → Int32)) (L1 : (Nat → Nat → Int64)), (g_159 n dp (z, kd, Rf) 0 I L i1 i2 = some (r, I1, L1) → K X d 159 0 0 (AI (fun x τ => x = r ∧ τ = (z, kd, I1, L1, Rf))) 0 [some (.ref 0), some (.int i1), some (.int i2)] [] (z, kd, I, L, Rf) 0 0) := by
  intro n
  induction n with
  | zero => intro dp d hdp I L i1 i2 r I1 L1; exact fun h => by cases h
  | succ n ih =>
    intro dp d hdp I L i1 i2 r I1 L1
    · intro h
      rw [e_159_0] at h
      refine K_of b_159_0 h_159_0 ?_
      refine q_iload rfl ?_
      refine q_iconst (0) (by decide) ?_
      refine q_aload rfl ?_
      refine q_getRs (c0 := 11) (j := 0) rfl rfl (zl hS 0 (by decide)) (sk hS 0 (by decide) rfl) rfl (by decide) (r_0_0 hS) ?_
      refine q_getI (c0 := 3) (j := 9) rfl rfl (zl hS 1 (by decide)) (sk hS 1 (by decide) rfl) (Or.inl rfl) (by decide) ?_
      refine q_iconst (1) (by decide) ?_
      refine q_isub ?_
      obtain ⟨d_11, h⟩ := ite_some h
      obtain ⟨⟨x0_11, I0_11, L0_11⟩, e_11, h⟩ := Option.bind_eq_some_iff.mp h
      dsimp only at h
      refine q_fs3I (a_14 X hS (d := d - 1) (by omega) e_11) (by omega) (Nat.le_refl _) (Nat.le_refl _) rfl (Nat.le_of_ble_eq_true rfl) ?_
      refine q_if_eq (fun c_14 => ?_) (fun c_14 => ?_)
      · rw [if_pos c_14] at h
        refine K_of b_159_27 h_159_27 ?_
        refine q_iconst (-1) (by decide) ?_
        cases h
        exact q_iret rfl (Nat.le_refl _) (Nat.le_refl _) ⟨rfl, rfl⟩
      · rw [if_neg c_14] at h
        refine q_iload rfl ?_
        refine q_iconst (0) (by decide) ?_
        refine q_iconst (6) (by decide) ?_
        obtain ⟨d_21, h⟩ := ite_some h
        obtain ⟨⟨x1_21, I1_21, L1_21⟩, e_21, h⟩ := Option.bind_eq_some_iff.mp h
        dsimp only at h
        refine q_fs3I (a_14 X hS (d := d - 1) (by omega) e_21) (by omega) (Nat.le_refl _) (Nat.le_refl _) rfl (Nat.le_of_ble_eq_true rfl) ?_
        refine q_if_ne (fun c_24 => ?_) (fun c_24 => ?_)
        · rw [if_neg c_24] at h
          refine K_of b_159_29 h_159_29 ?_
          refine q_aload rfl ?_
          refine q_getRs (c0 := 11) (j := 0) rfl rfl (zl hS 0 (by decide)) (sk hS 0 (by decide) rfl) rfl (by decide) (r_0_0 hS) ?_
          refine q_getRs (c0 := 3) (j := 5) rfl rfl (zl hS 1 (by decide)) (sk hS 1 (by decide) rfl) rfl (by decide) (r_1_5 hS) ?_
          refine q_iload rfl ?_
          refine q_iconst (7) (by decide) ?_
          refine q_imul ?_
          refine q_iload rfl ?_
          refine q_iadd ?_
          obtain ⟨⟨u_42, v_42⟩, h⟩ := ite_some h
          refine q_ialN (Int32.toNatClampNeg ((i1 * (7 : Int32)) + i2)) (nx u_42) (zl hS 7 (by decide)) (sk hS 7 (by decide) rfl) v_42 (by decide) ?_
          cases h
          exact q_iret rfl (Nat.le_refl _) (Nat.le_refl _) ⟨rfl, rfl⟩
        · rw [if_pos c_24] at h
          refine q_end ?_
          refine K_of b_159_27 h_159_27 ?_
          refine q_iconst (-1) (by decide) ?_
          cases h
          exact q_iret rfl (Nat.le_refl _) (Nat.le_refl _) ⟨rfl, rfl⟩
theorem a_159 (X : GX) {z : Nat} {kd : Nat → Nat × Nat} {Rf : Nat → Nat → Option Nat} (hS : Sh z kd Rf) {n dp d : Nat} (hd : dp ≤ d) {I : (Nat → Nat → Int32)} {L : (Nat → Nat → Int64)} {i1 : Int32} {i2 : Int32} {I1 : (Nat → Nat → Int32)} {L1 : (Nat → Nat → Int64)} {r : Int32} (h : g_159 n dp (z, kd, Rf) 0 I L i1 i2 = some (r, I1, L1)) : Ct X d 159 0 0 [.ref 0, .int i1, .int i2] (z, kd, I, L, Rf) (AI (fun x τ => x = r ∧ τ = (z, kd, I1, L1, Rf))) :=
  Ct_of mu_159 (Nat.le_of_ble_eq_true rfl) ((w_159 X hS n dp d hd I L i1 i2 _ _ _) h)

/-! 161 CutFloor$Stock.storeRow([II)I -/
set_option maxHeartbeats 4000000 in
set_option maxRecDepth 100000 in
def g_161 : Nat → Nat → EN → Nat → (Nat → Nat → Int32) → (Nat → Nat → Int64) → Int32 → Int32 → Int32 →  Option (Int32 × (Nat → Nat → Int32) × (Nat → Nat → Int64))
  | 0, _, _, _, _, _, _, _, _ => none
  | n + 1, dp, e, lab, I, L, i2, i3, i4 =>
    if lab = 0 then (g_161 n dp e 1 I L i2 (0 : Int32) (0 : Int32))
    else if lab = 1 then (if i2 < (i4 + (6 : Int32)) then (some (i3, I, L)) else (if 0 ≤ i4 ∧ (Int32.toNatClampNeg i4) < 400 then (if 0 ≤ (i4 + (1 : Int32)) ∧ (Int32.toNatClampNeg (i4 + (1 : Int32))) < 400 then (if 0 ≤ (i4 + (2 : Int32)) ∧ (Int32.toNatClampNeg (i4 + (2 : Int32))) < 400 then (if 0 ≤ (i4 + (3 : Int32)) ∧ (Int32.toNatClampNeg (i4 + (3 : Int32))) < 400 then (if 0 ≤ (i4 + (4 : Int32)) ∧ (Int32.toNatClampNeg (i4 + (4 : Int32))) < 400 then (if 0 ≤ (i4 + (5 : Int32)) ∧ (Int32.toNatClampNeg (i4 + (5 : Int32))) < 400 then (if 1 ≤ dp then (g_156 n (dp - 1) e 0 I L (I 89 (Int32.toNatClampNeg i4)) (I 89 (Int32.toNatClampNeg (i4 + (1 : Int32)))) (I 89 (Int32.toNatClampNeg (i4 + (2 : Int32)))) (I 89 (Int32.toNatClampNeg (i4 + (3 : Int32)))) (I 89 (Int32.toNatClampNeg (i4 + (4 : Int32)))) (I 89 (Int32.toNatClampNeg (i4 + (5 : Int32))))).bind (fun ⟨x0_49, I0_49, L0_49⟩ => (if x0_49 = 0 then (g_161 n dp e 2 I0_49 L0_49 i2 i3 i4) else (if 0 ≤ i4 ∧ (Int32.toNatClampNeg i4) < 400 then (if 0 ≤ (i4 + (1 : Int32)) ∧ (Int32.toNatClampNeg (i4 + (1 : Int32))) < 400 then (if 0 ≤ (i4 + (2 : Int32)) ∧ (Int32.toNatClampNeg (i4 + (2 : Int32))) < 400 then (if 0 ≤ (i4 + (3 : Int32)) ∧ (Int32.toNatClampNeg (i4 + (3 : Int32))) < 400 then (if 0 ≤ (i4 + (4 : Int32)) ∧ (Int32.toNatClampNeg (i4 + (4 : Int32))) < 400 then (if 0 ≤ (i4 + (5 : Int32)) ∧ (Int32.toNatClampNeg (i4 + (5 : Int32))) < 400 then (if 1 ≤ dp then (g_158 n (dp - 1) e 0 I0_49 L0_49 (I0_49 89 (Int32.toNatClampNeg i4)) (I0_49 89 (Int32.toNatClampNeg (i4 + (1 : Int32)))) (I0_49 89 (Int32.toNatClampNeg (i4 + (2 : Int32)))) (I0_49 89 (Int32.toNatClampNeg (i4 + (3 : Int32)))) (I0_49 89 (Int32.toNatClampNeg (i4 + (4 : Int32)))) (I0_49 89 (Int32.toNatClampNeg (i4 + (5 : Int32))))).bind (fun ⟨x1_90, I1_90, L1_90⟩ => (if x1_90 = (-1 : Int32) then (g_161 n dp e 2 I1_90 L1_90 i2 i3 i4) else (g_161 n dp e 2 I1_90 L1_90 i2 (i3 + Int32.ofInt (1)) i4))) else none) else none) else none) else none) else none) else none) else none))) else none) else none) else none) else none) else none) else none) else none))
    else if lab = 2 then (g_161 n dp e 1 I L i2 i3 (i4 + Int32.ofInt (6)))
    else none
set_option maxRecDepth 100000 in
theorem e_161_0 (n dp : Nat) (e : EN) (I : (Nat → Nat → Int32)) (L : (Nat → Nat → Int64)) (i2 : Int32) (i3 : Int32) (i4 : Int32) : g_161 (n + 1) dp e 0 I L i2 i3 i4 = (g_161 n dp e 1 I L i2 (0 : Int32) (0 : Int32)) := by rw [g_161.eq_2, if_pos (show (0 : Nat) = 0 from rfl)]
set_option maxRecDepth 100000 in
theorem e_161_1 (n dp : Nat) (e : EN) (I : (Nat → Nat → Int32)) (L : (Nat → Nat → Int64)) (i2 : Int32) (i3 : Int32) (i4 : Int32) : g_161 (n + 1) dp e 1 I L i2 i3 i4 = (if i2 < (i4 + (6 : Int32)) then (some (i3, I, L)) else (if 0 ≤ i4 ∧ (Int32.toNatClampNeg i4) < 400 then (if 0 ≤ (i4 + (1 : Int32)) ∧ (Int32.toNatClampNeg (i4 + (1 : Int32))) < 400 then (if 0 ≤ (i4 + (2 : Int32)) ∧ (Int32.toNatClampNeg (i4 + (2 : Int32))) < 400 then (if 0 ≤ (i4 + (3 : Int32)) ∧ (Int32.toNatClampNeg (i4 + (3 : Int32))) < 400 then (if 0 ≤ (i4 + (4 : Int32)) ∧ (Int32.toNatClampNeg (i4 + (4 : Int32))) < 400 then (if 0 ≤ (i4 + (5 : Int32)) ∧ (Int32.toNatClampNeg (i4 + (5 : Int32))) < 400 then (if 1 ≤ dp then (g_156 n (dp - 1) e 0 I L (I 89 (Int32.toNatClampNeg i4)) (I 89 (Int32.toNatClampNeg (i4 + (1 : Int32)))) (I 89 (Int32.toNatClampNeg (i4 + (2 : Int32)))) (I 89 (Int32.toNatClampNeg (i4 + (3 : Int32)))) (I 89 (Int32.toNatClampNeg (i4 + (4 : Int32)))) (I 89 (Int32.toNatClampNeg (i4 + (5 : Int32))))).bind (fun ⟨x0_49, I0_49, L0_49⟩ => (if x0_49 = 0 then (g_161 n dp e 2 I0_49 L0_49 i2 i3 i4) else (if 0 ≤ i4 ∧ (Int32.toNatClampNeg i4) < 400 then (if 0 ≤ (i4 + (1 : Int32)) ∧ (Int32.toNatClampNeg (i4 + (1 : Int32))) < 400 then (if 0 ≤ (i4 + (2 : Int32)) ∧ (Int32.toNatClampNeg (i4 + (2 : Int32))) < 400 then (if 0 ≤ (i4 + (3 : Int32)) ∧ (Int32.toNatClampNeg (i4 + (3 : Int32))) < 400 then (if 0 ≤ (i4 + (4 : Int32)) ∧ (Int32.toNatClampNeg (i4 + (4 : Int32))) < 400 then (if 0 ≤ (i4 + (5 : Int32)) ∧ (Int32.toNatClampNeg (i4 + (5 : Int32))) < 400 then (if 1 ≤ dp then (g_158 n (dp - 1) e 0 I0_49 L0_49 (I0_49 89 (Int32.toNatClampNeg i4)) (I0_49 89 (Int32.toNatClampNeg (i4 + (1 : Int32)))) (I0_49 89 (Int32.toNatClampNeg (i4 + (2 : Int32)))) (I0_49 89 (Int32.toNatClampNeg (i4 + (3 : Int32)))) (I0_49 89 (Int32.toNatClampNeg (i4 + (4 : Int32)))) (I0_49 89 (Int32.toNatClampNeg (i4 + (5 : Int32))))).bind (fun ⟨x1_90, I1_90, L1_90⟩ => (if x1_90 = (-1 : Int32) then (g_161 n dp e 2 I1_90 L1_90 i2 i3 i4) else (g_161 n dp e 2 I1_90 L1_90 i2 (i3 + Int32.ofInt (1)) i4))) else none) else none) else none) else none) else none) else none) else none))) else none) else none) else none) else none) else none) else none) else none)) := by rw [g_161.eq_2, if_neg (show ¬ ((1 : Nat) = 0) by decide), if_pos (show (1 : Nat) = 1 from rfl)]
set_option maxRecDepth 100000 in
theorem e_161_2 (n dp : Nat) (e : EN) (I : (Nat → Nat → Int32)) (L : (Nat → Nat → Int64)) (i2 : Int32) (i3 : Int32) (i4 : Int32) : g_161 (n + 1) dp e 2 I L i2 i3 i4 = (g_161 n dp e 1 I L i2 i3 (i4 + Int32.ofInt (6))) := by rw [g_161.eq_2, if_neg (show ¬ ((2 : Nat) = 0) by decide), if_neg (show ¬ ((2 : Nat) = 1) by decide), if_pos (show (2 : Nat) = 2 from rfl)]
set_option maxHeartbeats 8000000 in
set_option maxRecDepth 100000 in
theorem w_161 (X : GX) {z : Nat} {kd : Nat → Nat × Nat} {Rf : Nat → Nat → Option Nat} (hS : Sh z kd Rf) : ∀ (n dp d : Nat), dp ≤ d → ∀ (I : (Nat → Nat → Int32)) (L : (Nat → Nat → Int64)) (i2 : Int32) (i3 : Int32) (i4 : Int32) (r : Int32) (I1 : (Nat → Nat → Int32)) (L1 : (Nat → Nat → Int64)), (g_161 n dp (z, kd, Rf) 0 I L i2 i3 i4 = some (r, I1, L1) → K X d 161 0 0 (AI (fun x τ => x = r ∧ τ = (z, kd, I1, L1, Rf))) 0 [some (.ref 87), some (.ref 89), some (.int i2), none, none] [] (z, kd, I, L, Rf) 0 0) ∧
    (g_161 n dp (z, kd, Rf) 1 I L i2 i3 i4 = some (r, I1, L1) → K X d 161 0 0 (AI (fun x τ => x = r ∧ τ = (z, kd, I1, L1, Rf))) 5 [some (.ref 87), some (.ref 89), some (.int i2), some (.int i3), some (.int i4)] [] (z, kd, I, L, Rf) 0 0) ∧
    (g_161 n dp (z, kd, Rf) 2 I L i2 i3 i4 = some (r, I1, L1) → K X d 161 0 0 (AI (fun x τ => x = r ∧ τ = (z, kd, I1, L1, Rf))) 100 [some (.ref 87), some (.ref 89), some (.int i2), some (.int i3), some (.int i4)] [] (z, kd, I, L, Rf) 0 0) := by
  intro n
  induction n with
  | zero => intro dp d hdp I L i2 i3 i4 r I1 L1; exact ⟨(fun h => by cases h), (fun h => by cases h), (fun h => by cases h)⟩
  | succ n ih =>
    intro dp d hdp I L i2 i3 i4 r I1 L1
    refine ⟨?_, ?_, ?_⟩
    · intro h
      rw [e_161_0] at h
      refine K_of b_161_0 h_161_0 ?_
      refine q_iconst (0) (by decide) ?_
      refine q_istore (ls1 := [some (.ref 87), some (.ref 89), some (.int i2), some (.int (0 : Int32)), none]) (Nat.le_of_ble_eq_true rfl) rfl ?_
      refine q_iconst (0) (by decide) ?_
      refine q_istore (ls1 := [some (.ref 87), some (.ref 89), some (.int i2), some (.int (0 : Int32)), some (.int (0 : Int32))]) (Nat.le_of_ble_eq_true rfl) rfl ?_
      refine q_end ?_
      exact (ih dp d hdp _ _ i2 (0 : Int32) (0 : Int32) _ _ _).2.1 h
    · intro h
      rw [e_161_1] at h
      refine K_of b_161_5 h_161_5 ?_
      refine q_iload rfl ?_
      refine q_iconst (6) (by decide) ?_
      refine q_iadd ?_
      refine q_iload rfl ?_
      refine q_icmp_gt (fun c_11 => ?_) (fun c_11 => ?_)
      · rw [if_pos c_11] at h
        refine K_of b_161_106 h_161_106 ?_
        refine q_iload rfl ?_
        cases h
        exact q_iret rfl (Nat.le_refl _) (Nat.le_refl _) ⟨rfl, rfl⟩
      · rw [if_neg c_11] at h
        refine q_aload rfl ?_
        refine q_aload rfl ?_
        refine q_iload rfl ?_
        obtain ⟨⟨u_18, v_18⟩, h⟩ := ite_some h
        refine q_ialN (Int32.toNatClampNeg i4) (nx u_18) (zl hS 89 (by decide)) (sk hS 89 (by decide) rfl) v_18 (by decide) ?_
        refine q_aload rfl ?_
        refine q_iload rfl ?_
        refine q_iconst (1) (by decide) ?_
        refine q_iadd ?_
        obtain ⟨⟨u_24, v_24⟩, h⟩ := ite_some h
        refine q_ialN (Int32.toNatClampNeg (i4 + (1 : Int32))) (nx u_24) (zl hS 89 (by decide)) (sk hS 89 (by decide) rfl) v_24 (by decide) ?_
        refine q_aload rfl ?_
        refine q_iload rfl ?_
        refine q_iconst (2) (by decide) ?_
        refine q_iadd ?_
        obtain ⟨⟨u_30, v_30⟩, h⟩ := ite_some h
        refine q_ialN (Int32.toNatClampNeg (i4 + (2 : Int32))) (nx u_30) (zl hS 89 (by decide)) (sk hS 89 (by decide) rfl) v_30 (by decide) ?_
        refine q_aload rfl ?_
        refine q_iload rfl ?_
        refine q_iconst (3) (by decide) ?_
        refine q_iadd ?_
        obtain ⟨⟨u_36, v_36⟩, h⟩ := ite_some h
        refine q_ialN (Int32.toNatClampNeg (i4 + (3 : Int32))) (nx u_36) (zl hS 89 (by decide)) (sk hS 89 (by decide) rfl) v_36 (by decide) ?_
        refine q_aload rfl ?_
        refine q_iload rfl ?_
        refine q_iconst (4) (by decide) ?_
        refine q_iadd ?_
        obtain ⟨⟨u_42, v_42⟩, h⟩ := ite_some h
        refine q_ialN (Int32.toNatClampNeg (i4 + (4 : Int32))) (nx u_42) (zl hS 89 (by decide)) (sk hS 89 (by decide) rfl) v_42 (by decide) ?_
        refine q_aload rfl ?_
        refine q_iload rfl ?_
        refine q_iconst (5) (by decide) ?_
        refine q_iadd ?_
        obtain ⟨⟨u_48, v_48⟩, h⟩ := ite_some h
        refine q_ialN (Int32.toNatClampNeg (i4 + (5 : Int32))) (nx u_48) (zl hS 89 (by decide)) (sk hS 89 (by decide) rfl) v_48 (by decide) ?_
        obtain ⟨d_49, h⟩ := ite_some h
        obtain ⟨⟨x0_49, I0_49, L0_49⟩, e_49, h⟩ := Option.bind_eq_some_iff.mp h
        dsimp only at h
        refine q_fv7I (a_156 X hS (d := d - 1) (by omega) e_49) (by omega) (Nat.le_refl _) (Nat.le_refl _) rfl (Nat.le_of_ble_eq_true rfl) ⟨(zl hS 87 (by decide)), congrArg Prod.fst (sk hS 87 (by decide) rfl), by decide⟩ ?_
        refine q_if_eq (fun c_52 => ?_) (fun c_52 => ?_)
        · rw [if_pos c_52] at h
          exact (ih dp d hdp _ _ i2 i3 i4 _ _ _).2.2 h
        · rw [if_neg c_52] at h
          refine q_aload rfl ?_
          refine q_aload rfl ?_
          refine q_iload rfl ?_
          obtain ⟨⟨u_59, v_59⟩, h⟩ := ite_some h
          refine q_ialN (Int32.toNatClampNeg i4) (nx u_59) (zl hS 89 (by decide)) (sk hS 89 (by decide) rfl) v_59 (by decide) ?_
          refine q_aload rfl ?_
          refine q_iload rfl ?_
          refine q_iconst (1) (by decide) ?_
          refine q_iadd ?_
          obtain ⟨⟨u_65, v_65⟩, h⟩ := ite_some h
          refine q_ialN (Int32.toNatClampNeg (i4 + (1 : Int32))) (nx u_65) (zl hS 89 (by decide)) (sk hS 89 (by decide) rfl) v_65 (by decide) ?_
          refine q_aload rfl ?_
          refine q_iload rfl ?_
          refine q_iconst (2) (by decide) ?_
          refine q_iadd ?_
          obtain ⟨⟨u_71, v_71⟩, h⟩ := ite_some h
          refine q_ialN (Int32.toNatClampNeg (i4 + (2 : Int32))) (nx u_71) (zl hS 89 (by decide)) (sk hS 89 (by decide) rfl) v_71 (by decide) ?_
          refine q_aload rfl ?_
          refine q_iload rfl ?_
          refine q_iconst (3) (by decide) ?_
          refine q_iadd ?_
          obtain ⟨⟨u_77, v_77⟩, h⟩ := ite_some h
          refine q_ialN (Int32.toNatClampNeg (i4 + (3 : Int32))) (nx u_77) (zl hS 89 (by decide)) (sk hS 89 (by decide) rfl) v_77 (by decide) ?_
          refine q_aload rfl ?_
          refine q_iload rfl ?_
          refine q_iconst (4) (by decide) ?_
          refine q_iadd ?_
          obtain ⟨⟨u_83, v_83⟩, h⟩ := ite_some h
          refine q_ialN (Int32.toNatClampNeg (i4 + (4 : Int32))) (nx u_83) (zl hS 89 (by decide)) (sk hS 89 (by decide) rfl) v_83 (by decide) ?_
          refine q_aload rfl ?_
          refine q_iload rfl ?_
          refine q_iconst (5) (by decide) ?_
          refine q_iadd ?_
          obtain ⟨⟨u_89, v_89⟩, h⟩ := ite_some h
          refine q_ialN (Int32.toNatClampNeg (i4 + (5 : Int32))) (nx u_89) (zl hS 89 (by decide)) (sk hS 89 (by decide) rfl) v_89 (by decide) ?_
          obtain ⟨d_90, h⟩ := ite_some h
          obtain ⟨⟨x1_90, I1_90, L1_90⟩, e_90, h⟩ := Option.bind_eq_some_iff.mp h
          dsimp only at h
          refine q_fv7I (a_158 X hS (d := d - 1) (by omega) e_90) (by omega) (Nat.le_refl _) (Nat.le_refl _) rfl (Nat.le_of_ble_eq_true rfl) ⟨(zl hS 87 (by decide)), congrArg Prod.fst (sk hS 87 (by decide) rfl), by decide⟩ ?_
          refine q_iconst (-1) (by decide) ?_
          refine q_icmp_eq (fun c_94 => ?_) (fun c_94 => ?_)
          · rw [if_pos c_94] at h
            exact (ih dp d hdp _ _ i2 i3 i4 _ _ _).2.2 h
          · rw [if_neg c_94] at h
            refine q_iinc (ls1 := [some (.ref 87), some (.ref 89), some (.int i2), some (.int (i3 + Int32.ofInt (1))), some (.int i4)]) rfl rfl ?_
            refine q_end ?_
            exact (ih dp d hdp _ _ i2 (i3 + Int32.ofInt (1)) i4 _ _ _).2.2 h
    · intro h
      rw [e_161_2] at h
      refine K_of b_161_100 h_161_100 ?_
      refine q_iinc (ls1 := [some (.ref 87), some (.ref 89), some (.int i2), some (.int i3), some (.int (i4 + Int32.ofInt (6)))]) rfl rfl ?_
      refine q_goto ?_
      exact (ih dp d hdp _ _ i2 i3 (i4 + Int32.ofInt (6)) _ _ _).2.1 h
theorem a_161 (X : GX) {z : Nat} {kd : Nat → Nat × Nat} {Rf : Nat → Nat → Option Nat} (hS : Sh z kd Rf) {n dp d : Nat} (hd : dp ≤ d) {I : (Nat → Nat → Int32)} {L : (Nat → Nat → Int64)} {i2 : Int32} {I1 : (Nat → Nat → Int32)} {L1 : (Nat → Nat → Int64)} {r : Int32} (h : g_161 n dp (z, kd, Rf) 0 I L i2 0 0 = some (r, I1, L1)) : Ct X d 161 0 0 [.ref 87, .ref 89, .int i2] (z, kd, I, L, Rf) (AI (fun x τ => x = r ∧ τ = (z, kd, I1, L1, Rf))) :=
  Ct_of mu_161 (Nat.le_of_ble_eq_true rfl) ((w_161 X hS n dp d hd I L i2 0 0 _ _ _).1 h)

/-! 160 CutFloor.row()I -/
set_option maxHeartbeats 4000000 in
set_option maxRecDepth 100000 in
def g_160 : Nat → Nat → EN → Nat → (Nat → Nat → Int32) → (Nat → Nat → Int64) →  Option (Int32 × (Nat → Nat → Int32) × (Nat → Nat → Int64))
  | 0, _, _, _, _, _ => none
  | n + 1, dp, e, lab, I, L =>
    if lab = 0 then (if (I 0 13) = 0 then (if 1 ≤ dp then (g_15 n (dp - 1) e 0 I L (-6 : Int32)).bind (fun ⟨x0_10, I0_10, L0_10⟩ => (some (x0_10, I0_10, L0_10))) else none) else (stI (((I 0 13) + (5 : Int32)) / (6 : Int32)) (fun v_23 => (if 1 ≤ dp then (g_161 n (dp - 1) e 0 I L (I 0 13) 0 0).bind (fun ⟨x0_36, I0_36, L0_36⟩ => (stI (u2 I0_36 0 16 (v_23 - x0_36)) (fun I_44 => (stI (u2 I_44 0 13 (0 : Int32)) (fun I_49 => (if 1 ≤ dp then (g_157 n (dp - 1) e 0 I_49 L0_36).bind (fun ⟨I1_56, L1_56⟩ => (if 1 ≤ dp then (g_19 n (dp - 1) e 0 I1_56 L1_56 x0_36).bind (fun ⟨x2_61, I2_61, L2_61⟩ => (some (x2_61, I2_61, L2_61))) else none)) else none)))))) else none))))
    else none
set_option maxRecDepth 100000 in
theorem e_160_0 (n dp : Nat) (e : EN) (I : (Nat → Nat → Int32)) (L : (Nat → Nat → Int64)) : g_160 (n + 1) dp e 0 I L = (if (I 0 13) = 0 then (if 1 ≤ dp then (g_15 n (dp - 1) e 0 I L (-6 : Int32)).bind (fun ⟨x0_10, I0_10, L0_10⟩ => (some (x0_10, I0_10, L0_10))) else none) else (stI (((I 0 13) + (5 : Int32)) / (6 : Int32)) (fun v_23 => (if 1 ≤ dp then (g_161 n (dp - 1) e 0 I L (I 0 13) 0 0).bind (fun ⟨x0_36, I0_36, L0_36⟩ => (stI (u2 I0_36 0 16 (v_23 - x0_36)) (fun I_44 => (stI (u2 I_44 0 13 (0 : Int32)) (fun I_49 => (if 1 ≤ dp then (g_157 n (dp - 1) e 0 I_49 L0_36).bind (fun ⟨I1_56, L1_56⟩ => (if 1 ≤ dp then (g_19 n (dp - 1) e 0 I1_56 L1_56 x0_36).bind (fun ⟨x2_61, I2_61, L2_61⟩ => (some (x2_61, I2_61, L2_61))) else none)) else none)))))) else none)))) := by rw [g_160.eq_2, if_pos (show (0 : Nat) = 0 from rfl)]
set_option maxHeartbeats 8000000 in
set_option maxRecDepth 100000 in
theorem w_160 (X : GX) {z : Nat} {kd : Nat → Nat × Nat} {Rf : Nat → Nat → Option Nat} (hS : Sh z kd Rf) : ∀ (n dp d : Nat), dp ≤ d → ∀ (I : (Nat → Nat → Int32)) (L : (Nat → Nat → Int64)) (r : Int32) (I1 : (Nat → Nat → Int32)) (L1 : (Nat → Nat → Int64)), (g_160 n dp (z, kd, Rf) 0 I L = some (r, I1, L1) → K X d 160 0 0 (AI (fun x τ => x = r ∧ τ = (z, kd, I1, L1, Rf))) 0 [some (.ref 0), none, none] [] (z, kd, I, L, Rf) 0 0) := by
  intro n
  induction n with
  | zero => intro dp d hdp I L r I1 L1; exact fun h => by cases h
  | succ n ih =>
    intro dp d hdp I L r I1 L1
    · intro h
      rw [e_160_0] at h
      refine K_of b_160_0 h_160_0 ?_
      refine q_aload rfl ?_
      refine q_getI (c0 := 11) (j := 13) rfl rfl (zl hS 0 (by decide)) (sk hS 0 (by decide) rfl) (Or.inl rfl) (by decide) ?_
      refine q_if_ne (fun c_4 => ?_) (fun c_4 => ?_)
      · rw [if_neg c_4] at h
        refine K_of b_160_14 h_160_14 ?_
        refine q_aload rfl ?_
        refine q_getI (c0 := 11) (j := 13) rfl rfl (zl hS 0 (by decide)) (sk hS 0 (by decide) rfl) (Or.inl rfl) (by decide) ?_
        refine q_iconst (5) (by decide) ?_
        refine q_iadd ?_
        refine q_iconst (6) (by decide) ?_
        refine q_idiv (by decide) ?_
        obtain ⟨v_23, nv_23, h⟩ := stI_some h
        refine q_eqi nv_23.symm ?_
        refine q_istore (ls1 := [some (.ref 0), some (.int v_23), none]) (Nat.le_of_ble_eq_true rfl) rfl ?_
        refine q_aload rfl ?_
        refine q_getRs (c0 := 11) (j := 6) rfl rfl (zl hS 0 (by decide)) (sk hS 0 (by decide) rfl) rfl (by decide) (r_0_6 hS) ?_
        refine q_aload rfl ?_
        refine q_getRs (c0 := 11) (j := 7) rfl rfl (zl hS 0 (by decide)) (sk hS 0 (by decide) rfl) rfl (by decide) (r_0_7 hS) ?_
        refine q_aload rfl ?_
        refine q_getI (c0 := 11) (j := 13) rfl rfl (zl hS 0 (by decide)) (sk hS 0 (by decide) rfl) (Or.inl rfl) (by decide) ?_
        obtain ⟨d_36, h⟩ := ite_some h
        obtain ⟨⟨x0_36, I0_36, L0_36⟩, e_36, h⟩ := Option.bind_eq_some_iff.mp h
        dsimp only at h
        refine q_fv3I (a_161 X hS (d := d - 1) (by omega) e_36) (by omega) (Nat.le_refl _) (Nat.le_refl _) rfl (Nat.le_of_ble_eq_true rfl) ⟨(zl hS 87 (by decide)), congrArg Prod.fst (sk hS 87 (by decide) rfl), by decide⟩ ?_
        refine q_istore (ls1 := [some (.ref 0), some (.int v_23), some (.int x0_36)]) (Nat.le_of_ble_eq_true rfl) rfl ?_
        refine q_aload rfl ?_
        refine q_iload rfl ?_
        refine q_iload rfl ?_
        refine q_isub ?_
        refine q_putI (c0 := 11) (j := 16) rfl rfl (zl hS 0 (by decide)) (sk hS 0 (by decide) rfl) rfl ?_
        obtain ⟨I_44, nI_44, h⟩ := stI_some h
        refine q_nI nI_44 ?_
        refine q_aload rfl ?_
        refine q_iconst (0) (by decide) ?_
        refine q_putI (c0 := 11) (j := 13) rfl rfl (zl hS 0 (by decide)) (sk hS 0 (by decide) rfl) rfl ?_
        obtain ⟨I_49, nI_49, h⟩ := stI_some h
        refine q_nI nI_49 ?_
        refine q_aload rfl ?_
        refine q_getRs (c0 := 11) (j := 5) rfl rfl (zl hS 0 (by decide)) (sk hS 0 (by decide) rfl) rfl (by decide) (r_0_5 hS) ?_
        obtain ⟨d_56, h⟩ := ite_some h
        obtain ⟨⟨I1_56, L1_56⟩, e_56, h⟩ := Option.bind_eq_some_iff.mp h
        dsimp only at h
        refine q_fv1V (a_157 X hS (d := d - 1) (by omega) e_56) (by omega) (Nat.le_refl _) (Nat.le_refl _) rfl (Nat.le_of_ble_eq_true rfl) ⟨(zl hS 81 (by decide)), congrArg Prod.fst (sk hS 81 (by decide) rfl), by decide⟩ ?_
        refine q_aload rfl ?_
        refine q_iload rfl ?_
        obtain ⟨d_61, h⟩ := ite_some h
        obtain ⟨⟨x2_61, I2_61, L2_61⟩, e_61, h⟩ := Option.bind_eq_some_iff.mp h
        dsimp only at h
        refine q_fv2I (a_19 X hS (d := d - 1) (by omega) e_61) (by omega) (Nat.le_refl _) (Nat.le_refl _) rfl (Nat.le_of_ble_eq_true rfl) ⟨(zl hS 0 (by decide)), congrArg Prod.fst (sk hS 0 (by decide) rfl), by decide⟩ ?_
        cases h
        exact q_iret rfl (Nat.le_refl _) (Nat.le_refl _) ⟨rfl, rfl⟩
      · rw [if_pos c_4] at h
        refine q_aload rfl ?_
        refine q_iconst (-6) (by decide) ?_
        obtain ⟨d_10, h⟩ := ite_some h
        obtain ⟨⟨x0_10, I0_10, L0_10⟩, e_10, h⟩ := Option.bind_eq_some_iff.mp h
        dsimp only at h
        refine q_fv2I (a_15 X hS (d := d - 1) (by omega) e_10) (by omega) (Nat.le_refl _) (Nat.le_refl _) rfl (Nat.le_of_ble_eq_true rfl) ⟨(zl hS 0 (by decide)), congrArg Prod.fst (sk hS 0 (by decide) rfl), by decide⟩ ?_
        cases h
        exact q_iret rfl (Nat.le_refl _) (Nat.le_refl _) ⟨rfl, rfl⟩
theorem a_160 (X : GX) {z : Nat} {kd : Nat → Nat × Nat} {Rf : Nat → Nat → Option Nat} (hS : Sh z kd Rf) {n dp d : Nat} (hd : dp ≤ d) {I : (Nat → Nat → Int32)} {L : (Nat → Nat → Int64)} {I1 : (Nat → Nat → Int32)} {L1 : (Nat → Nat → Int64)} {r : Int32} (h : g_160 n dp (z, kd, Rf) 0 I L = some (r, I1, L1)) : Ct X d 160 0 0 [.ref 0] (z, kd, I, L, Rf) (AI (fun x τ => x = r ∧ τ = (z, kd, I1, L1, Rf))) :=
  Ct_of mu_160 (Nat.le_of_ble_eq_true rfl) ((w_160 X hS n dp d hd I L _ _ _) h)

/-! 162 CutFloor.spoilt()I -/
set_option maxHeartbeats 4000000 in
set_option maxRecDepth 100000 in
def g_162 : Nat → Nat → EN → Nat → (Nat → Nat → Int32) → (Nat → Nat → Int64) →  Option (Int32 × (Nat → Nat → Int32) × (Nat → Nat → Int64))
  | 0, _, _, _, _, _ => none
  | n + 1, dp, e, lab, I, L =>
    if lab = 0 then (some ((I 0 16), I, L))
    else none
set_option maxRecDepth 100000 in
theorem e_162_0 (n dp : Nat) (e : EN) (I : (Nat → Nat → Int32)) (L : (Nat → Nat → Int64)) : g_162 (n + 1) dp e 0 I L = (some ((I 0 16), I, L)) := by rw [g_162.eq_2, if_pos (show (0 : Nat) = 0 from rfl)]
set_option maxHeartbeats 8000000 in
set_option maxRecDepth 100000 in
theorem w_162 (X : GX) {z : Nat} {kd : Nat → Nat × Nat} {Rf : Nat → Nat → Option Nat} (hS : Sh z kd Rf) : ∀ (n dp d : Nat), dp ≤ d → ∀ (I : (Nat → Nat → Int32)) (L : (Nat → Nat → Int64)) (r : Int32) (I1 : (Nat → Nat → Int32)) (L1 : (Nat → Nat → Int64)), (g_162 n dp (z, kd, Rf) 0 I L = some (r, I1, L1) → K X d 162 0 0 (AI (fun x τ => x = r ∧ τ = (z, kd, I1, L1, Rf))) 0 [some (.ref 0)] [] (z, kd, I, L, Rf) 0 0) := by
  intro n
  induction n with
  | zero => intro dp d hdp I L r I1 L1; exact fun h => by cases h
  | succ n ih =>
    intro dp d hdp I L r I1 L1
    · intro h
      rw [e_162_0] at h
      refine K_of b_162_0 h_162_0 ?_
      refine q_aload rfl ?_
      refine q_getI (c0 := 11) (j := 16) rfl rfl (zl hS 0 (by decide)) (sk hS 0 (by decide) rfl) (Or.inl rfl) (by decide) ?_
      cases h
      exact q_iret rfl (Nat.le_refl _) (Nat.le_refl _) ⟨rfl, rfl⟩
theorem a_162 (X : GX) {z : Nat} {kd : Nat → Nat × Nat} {Rf : Nat → Nat → Option Nat} (hS : Sh z kd Rf) {n dp d : Nat} (hd : dp ≤ d) {I : (Nat → Nat → Int32)} {L : (Nat → Nat → Int64)} {I1 : (Nat → Nat → Int32)} {L1 : (Nat → Nat → Int64)} {r : Int32} (h : g_162 n dp (z, kd, Rf) 0 I L = some (r, I1, L1)) : Ct X d 162 0 0 [.ref 0] (z, kd, I, L, Rf) (AI (fun x τ => x = r ∧ τ = (z, kd, I1, L1, Rf))) :=
  Ct_of mu_162 (Nat.le_of_ble_eq_true rfl) ((w_162 X hS n dp d hd I L _ _ _) h)

/-! 166 CutFloor$Mixer.addUp(II[I[I)V -/
set_option maxHeartbeats 4000000 in
set_option maxRecDepth 100000 in
def g_166 : Nat → Nat → EN → Nat → (Nat → Nat → Int32) → (Nat → Nat → Int64) → Int32 → Int32 → Int32 → Int32 → Int32 → Int32 → Int32 → Int32 → Nat → Nat →  Option ((Nat → Nat → Int32) × (Nat → Nat → Int64))
  | 0, _, _, _, _, _, _, _, _, _, _, _, _, _, _, _ => none
  | n + 1, dp, e, lab, I, L, i1, i2, i5, i6, i7, i8, i9, i10, a3, a4 =>
    if lab = 0 then (if (a3 < e.1 ∧ (e.2.1 a3).1 = 13 ∧ (e.2.1 a3).2 < 2 ^ 31) ∧ 0 ≤ (0 : Int32) ∧ 0 < (e.2.1 a3).2 then (stI (u2 I a3 0 (0 : Int32)) (fun I_3 => (if (a4 < e.1 ∧ (e.2.1 a4).1 = 13 ∧ (e.2.1 a4).2 < 2 ^ 31) ∧ 0 ≤ (0 : Int32) ∧ 0 < (e.2.1 a4).2 then (stI (u2 I_3 a4 0 (0 : Int32)) (fun I_8 => (g_166 n dp e 1 I_8 L i1 i2 (0 : Int32) 0 0 0 0 0 a3 a4))) else none))) else none)
    else if lab = 1 then (if i2 ≤ i5 then (some (I, L)) else (if 0 ≤ (i1 + i5) ∧ (Int32.toNatClampNeg (i1 + i5)) < 16 then (stI ((I 82 (Int32.toNatClampNeg (i1 + i5))) * (7 : Int32)) (fun v_30 => (if 0 ≤ (v_30 + (0 : Int32)) ∧ (Int32.toNatClampNeg (v_30 + (0 : Int32))) < 112 then (stI (I 7 (Int32.toNatClampNeg (v_30 + (0 : Int32)))) (fun v_44 => (if 0 ≤ (v_30 + (1 : Int32)) ∧ (Int32.toNatClampNeg (v_30 + (1 : Int32))) < 112 then (stI (v_44 * (I 7 (Int32.toNatClampNeg (v_30 + (1 : Int32))))) (fun v_61 => (stI ((1 : Int32) <<< (i5 &&& 31)) (fun v_67 => (g_166 n dp e 2 I L i1 i2 i5 v_30 v_44 v_61 v_67 (0 : Int32) a3 a4))))) else none))) else none))) else none))
    else if lab = 2 then (if i9 ≤ i10 then (g_166 n dp e 1 I L i1 i2 (i5 + Int32.ofInt (1)) 0 0 0 0 0 a3 a4) else (if (a3 < e.1 ∧ (e.2.1 a3).1 = 13 ∧ (e.2.1 a3).2 < 2 ^ 31) ∧ 0 ≤ i10 ∧ (Int32.toNatClampNeg i10) < (e.2.1 a3).2 then (if (a3 < e.1 ∧ (e.2.1 a3).1 = 13 ∧ (e.2.1 a3).2 < 2 ^ 31) ∧ 0 ≤ (i9 + i10) ∧ (Int32.toNatClampNeg (i9 + i10)) < (e.2.1 a3).2 then (stI (u2 I a3 (Int32.toNatClampNeg (i9 + i10)) ((I a3 (Int32.toNatClampNeg i10)) + i7)) (fun I_92 => (if (a4 < e.1 ∧ (e.2.1 a4).1 = 13 ∧ (e.2.1 a4).2 < 2 ^ 31) ∧ 0 ≤ i10 ∧ (Int32.toNatClampNeg i10) < (e.2.1 a4).2 then (if (a4 < e.1 ∧ (e.2.1 a4).1 = 13 ∧ (e.2.1 a4).2 < 2 ^ 31) ∧ 0 ≤ (i9 + i10) ∧ (Int32.toNatClampNeg (i9 + i10)) < (e.2.1 a4).2 then (stI (u2 I_92 a4 (Int32.toNatClampNeg (i9 + i10)) ((I_92 a4 (Int32.toNatClampNeg i10)) + i8)) (fun I_108 => (g_166 n dp e 2 I_108 L i1 i2 i5 i6 i7 i8 i9 (i10 + Int32.ofInt (1)) a3 a4))) else none) else none))) else none) else none))
    else none
set_option maxRecDepth 100000 in
theorem e_166_0 (n dp : Nat) (e : EN) (I : (Nat → Nat → Int32)) (L : (Nat → Nat → Int64)) (i1 : Int32) (i2 : Int32) (i5 : Int32) (i6 : Int32) (i7 : Int32) (i8 : Int32) (i9 : Int32) (i10 : Int32) (a3 : Nat) (a4 : Nat) : g_166 (n + 1) dp e 0 I L i1 i2 i5 i6 i7 i8 i9 i10 a3 a4 = (if (a3 < e.1 ∧ (e.2.1 a3).1 = 13 ∧ (e.2.1 a3).2 < 2 ^ 31) ∧ 0 ≤ (0 : Int32) ∧ 0 < (e.2.1 a3).2 then (stI (u2 I a3 0 (0 : Int32)) (fun I_3 => (if (a4 < e.1 ∧ (e.2.1 a4).1 = 13 ∧ (e.2.1 a4).2 < 2 ^ 31) ∧ 0 ≤ (0 : Int32) ∧ 0 < (e.2.1 a4).2 then (stI (u2 I_3 a4 0 (0 : Int32)) (fun I_8 => (g_166 n dp e 1 I_8 L i1 i2 (0 : Int32) 0 0 0 0 0 a3 a4))) else none))) else none) := by rw [g_166.eq_2, if_pos (show (0 : Nat) = 0 from rfl)]
set_option maxRecDepth 100000 in
theorem e_166_1 (n dp : Nat) (e : EN) (I : (Nat → Nat → Int32)) (L : (Nat → Nat → Int64)) (i1 : Int32) (i2 : Int32) (i5 : Int32) (i6 : Int32) (i7 : Int32) (i8 : Int32) (i9 : Int32) (i10 : Int32) (a3 : Nat) (a4 : Nat) : g_166 (n + 1) dp e 1 I L i1 i2 i5 i6 i7 i8 i9 i10 a3 a4 = (if i2 ≤ i5 then (some (I, L)) else (if 0 ≤ (i1 + i5) ∧ (Int32.toNatClampNeg (i1 + i5)) < 16 then (stI ((I 82 (Int32.toNatClampNeg (i1 + i5))) * (7 : Int32)) (fun v_30 => (if 0 ≤ (v_30 + (0 : Int32)) ∧ (Int32.toNatClampNeg (v_30 + (0 : Int32))) < 112 then (stI (I 7 (Int32.toNatClampNeg (v_30 + (0 : Int32)))) (fun v_44 => (if 0 ≤ (v_30 + (1 : Int32)) ∧ (Int32.toNatClampNeg (v_30 + (1 : Int32))) < 112 then (stI (v_44 * (I 7 (Int32.toNatClampNeg (v_30 + (1 : Int32))))) (fun v_61 => (stI ((1 : Int32) <<< (i5 &&& 31)) (fun v_67 => (g_166 n dp e 2 I L i1 i2 i5 v_30 v_44 v_61 v_67 (0 : Int32) a3 a4))))) else none))) else none))) else none)) := by rw [g_166.eq_2, if_neg (show ¬ ((1 : Nat) = 0) by decide), if_pos (show (1 : Nat) = 1 from rfl)]
set_option maxRecDepth 100000 in
theorem e_166_2 (n dp : Nat) (e : EN) (I : (Nat → Nat → Int32)) (L : (Nat → Nat → Int64)) (i1 : Int32) (i2 : Int32) (i5 : Int32) (i6 : Int32) (i7 : Int32) (i8 : Int32) (i9 : Int32) (i10 : Int32) (a3 : Nat) (a4 : Nat) : g_166 (n + 1) dp e 2 I L i1 i2 i5 i6 i7 i8 i9 i10 a3 a4 = (if i9 ≤ i10 then (g_166 n dp e 1 I L i1 i2 (i5 + Int32.ofInt (1)) 0 0 0 0 0 a3 a4) else (if (a3 < e.1 ∧ (e.2.1 a3).1 = 13 ∧ (e.2.1 a3).2 < 2 ^ 31) ∧ 0 ≤ i10 ∧ (Int32.toNatClampNeg i10) < (e.2.1 a3).2 then (if (a3 < e.1 ∧ (e.2.1 a3).1 = 13 ∧ (e.2.1 a3).2 < 2 ^ 31) ∧ 0 ≤ (i9 + i10) ∧ (Int32.toNatClampNeg (i9 + i10)) < (e.2.1 a3).2 then (stI (u2 I a3 (Int32.toNatClampNeg (i9 + i10)) ((I a3 (Int32.toNatClampNeg i10)) + i7)) (fun I_92 => (if (a4 < e.1 ∧ (e.2.1 a4).1 = 13 ∧ (e.2.1 a4).2 < 2 ^ 31) ∧ 0 ≤ i10 ∧ (Int32.toNatClampNeg i10) < (e.2.1 a4).2 then (if (a4 < e.1 ∧ (e.2.1 a4).1 = 13 ∧ (e.2.1 a4).2 < 2 ^ 31) ∧ 0 ≤ (i9 + i10) ∧ (Int32.toNatClampNeg (i9 + i10)) < (e.2.1 a4).2 then (stI (u2 I_92 a4 (Int32.toNatClampNeg (i9 + i10)) ((I_92 a4 (Int32.toNatClampNeg i10)) + i8)) (fun I_108 => (g_166 n dp e 2 I_108 L i1 i2 i5 i6 i7 i8 i9 (i10 + Int32.ofInt (1)) a3 a4))) else none) else none))) else none) else none)) := by rw [g_166.eq_2, if_neg (show ¬ ((2 : Nat) = 0) by decide), if_neg (show ¬ ((2 : Nat) = 1) by decide), if_pos (show (2 : Nat) = 2 from rfl)]
set_option maxHeartbeats 8000000 in
set_option maxRecDepth 100000 in
theorem w_166 (X : GX) {z : Nat} {kd : Nat → Nat × Nat} {Rf : Nat → Nat → Option Nat} (hS : Sh z kd Rf) : ∀ (n dp d : Nat), dp ≤ d → ∀ (I : (Nat → Nat → Int32)) (L : (Nat → Nat → Int64)) (i1 : Int32) (i2 : Int32) (i5 : Int32) (i6 : Int32) (i7 : Int32) (i8 : Int32) (i9 : Int32) (i10 : Int32) (a3 : Nat) (a4 : Nat) (I1 : (Nat → Nat → Int32)) (L1 : (Nat → Nat → Int64)), (g_166 n dp (z, kd, Rf) 0 I L i1 i2 i5 i6 i7 i8 i9 i10 a3 a4 = some (I1, L1) → K X d 166 0 0 (AV (fun τ => τ = (z, kd, I1, L1, Rf))) 0 [some (.ref 81), some (.int i1), some (.int i2), some (.ref a3), some (.ref a4), none, none, none, none, none, none] [] (z, kd, I, L, Rf) 0 0) ∧
    (g_166 n dp (z, kd, Rf) 1 I L i1 i2 i5 i6 i7 i8 i9 i10 a3 a4 = some (I1, L1) → K X d 166 0 0 (AV (fun τ => τ = (z, kd, I1, L1, Rf))) 12 [some (.ref 81), some (.int i1), some (.int i2), some (.ref a3), some (.ref a4), some (.int i5), none, none, none, none, none] [] (z, kd, I, L, Rf) 0 0) ∧
    (g_166 n dp (z, kd, Rf) 2 I L i1 i2 i5 i6 i7 i8 i9 i10 a3 a4 = some (I1, L1) → K X d 166 0 0 (AV (fun τ => τ = (z, kd, I1, L1, Rf))) 72 [some (.ref 81), some (.int i1), some (.int i2), some (.ref a3), some (.ref a4), some (.int i5), some (.int i6), some (.int i7), some (.int i8), some (.int i9), some (.int i10)] [] (z, kd, I, L, Rf) 0 0) := by
  intro n
  induction n with
  | zero => intro dp d hdp I L i1 i2 i5 i6 i7 i8 i9 i10 a3 a4 I1 L1; exact ⟨(fun h => by cases h), (fun h => by cases h), (fun h => by cases h)⟩
  | succ n ih =>
    intro dp d hdp I L i1 i2 i5 i6 i7 i8 i9 i10 a3 a4 I1 L1
    refine ⟨?_, ?_, ?_⟩
    · intro h
      rw [e_166_0] at h
      refine K_of b_166_0 h_166_0 ?_
      refine q_aload rfl ?_
      refine q_iconst (0) (by decide) ?_
      refine q_iconst (0) (by decide) ?_
      obtain ⟨⟨⟨z_3, k_3, m_3⟩, u_3, v_3⟩, h⟩ := ite_some h
      refine q_iasN 0 rfl z_3 (fst_eq k_3) v_3 m_3 ?_
      obtain ⟨I_3, nI_3, h⟩ := stI_some h
      refine q_nI nI_3 ?_
      refine q_aload rfl ?_
      refine q_iconst (0) (by decide) ?_
      refine q_iconst (0) (by decide) ?_
      obtain ⟨⟨⟨z_8, k_8, m_8⟩, u_8, v_8⟩, h⟩ := ite_some h
      refine q_iasN 0 rfl z_8 (fst_eq k_8) v_8 m_8 ?_
      obtain ⟨I_8, nI_8, h⟩ := stI_some h
      refine q_nI nI_8 ?_
      refine q_iconst (0) (by decide) ?_
      refine q_istore (ls1 := [some (.ref 81), some (.int i1), some (.int i2), some (.ref a3), some (.ref a4), some (.int (0 : Int32)), none, none, none, none, none]) (Nat.le_of_ble_eq_true rfl) rfl ?_
      refine q_end ?_
      exact (ih dp d hdp _ _ i1 i2 (0 : Int32) 0 0 0 0 0 a3 a4 _ _).2.1 h
    · intro h
      rw [e_166_1] at h
      refine K_of b_166_12 h_166_12 ?_
      refine q_iload rfl ?_
      refine q_iload rfl ?_
      refine q_icmp_ge (fun c_15 => ?_) (fun c_15 => ?_)
      · rw [if_pos c_15] at h
        refine K_of b_166_121 h_166_121 ?_
        cases h
        exact q_vret rfl (Nat.le_refl _) (Nat.le_refl _) rfl
      · rw [if_neg c_15] at h
        refine q_aload rfl ?_
        refine q_getRs (c0 := 5) (j := 1) rfl rfl (zl hS 81 (by decide)) (sk hS 81 (by decide) rfl) rfl (by decide) (r_81_1 hS) ?_
        refine q_iload rfl ?_
        refine q_iload rfl ?_
        refine q_iadd ?_
        obtain ⟨⟨u_26, v_26⟩, h⟩ := ite_some h
        refine q_ialN (Int32.toNatClampNeg (i1 + i5)) (nx u_26) (zl hS 82 (by decide)) (sk hS 82 (by decide) rfl) v_26 (by decide) ?_
        refine q_iconst (7) (by decide) ?_
        refine q_imul ?_
        obtain ⟨v_30, nv_30, h⟩ := stI_some h
        refine q_eqi nv_30.symm ?_
        refine q_istore (ls1 := [some (.ref 81), some (.int i1), some (.int i2), some (.ref a3), some (.ref a4), some (.int i5), some (.int v_30), none, none, none, none]) (Nat.le_of_ble_eq_true rfl) rfl ?_
        refine q_aload rfl ?_
        refine q_getRs (c0 := 5) (j := 0) rfl rfl (zl hS 81 (by decide)) (sk hS 81 (by decide) rfl) rfl (by decide) (r_81_0 hS) ?_
        refine q_getRs (c0 := 3) (j := 5) rfl rfl (zl hS 1 (by decide)) (sk hS 1 (by decide) rfl) rfl (by decide) (r_1_5 hS) ?_
        refine q_iload rfl ?_
        refine q_iconst (0) (by decide) ?_
        refine q_iadd ?_
        obtain ⟨⟨u_43, v_43⟩, h⟩ := ite_some h
        refine q_ialN (Int32.toNatClampNeg (v_30 + (0 : Int32))) (nx u_43) (zl hS 7 (by decide)) (sk hS 7 (by decide) rfl) v_43 (by decide) ?_
        obtain ⟨v_44, nv_44, h⟩ := stI_some h
        refine q_eqi nv_44.symm ?_
        refine q_istore (ls1 := [some (.ref 81), some (.int i1), some (.int i2), some (.ref a3), some (.ref a4), some (.int i5), some (.int v_30), some (.int v_44), none, none, none]) (Nat.le_of_ble_eq_true rfl) rfl ?_
        refine q_iload rfl ?_
        refine q_aload rfl ?_
        refine q_getRs (c0 := 5) (j := 0) rfl rfl (zl hS 81 (by decide)) (sk hS 81 (by decide) rfl) rfl (by decide) (r_81_0 hS) ?_
        refine q_getRs (c0 := 3) (j := 5) rfl rfl (zl hS 1 (by decide)) (sk hS 1 (by decide) rfl) rfl (by decide) (r_1_5 hS) ?_
        refine q_iload rfl ?_
        refine q_iconst (1) (by decide) ?_
        refine q_iadd ?_
        obtain ⟨⟨u_59, v_59⟩, h⟩ := ite_some h
        refine q_ialN (Int32.toNatClampNeg (v_30 + (1 : Int32))) (nx u_59) (zl hS 7 (by decide)) (sk hS 7 (by decide) rfl) v_59 (by decide) ?_
        refine q_imul ?_
        obtain ⟨v_61, nv_61, h⟩ := stI_some h
        refine q_eqi nv_61.symm ?_
        refine q_istore (ls1 := [some (.ref 81), some (.int i1), some (.int i2), some (.ref a3), some (.ref a4), some (.int i5), some (.int v_30), some (.int v_44), some (.int v_61), none, none]) (Nat.le_of_ble_eq_true rfl) rfl ?_
        refine q_iconst (1) (by decide) ?_
        refine q_iload rfl ?_
        refine q_ishl ?_
        obtain ⟨v_67, nv_67, h⟩ := stI_some h
        refine q_eqi nv_67.symm ?_
        refine q_istore (ls1 := [some (.ref 81), some (.int i1), some (.int i2), some (.ref a3), some (.ref a4), some (.int i5), some (.int v_30), some (.int v_44), some (.int v_61), some (.int v_67), none]) (Nat.le_of_ble_eq_true rfl) rfl ?_
        refine q_iconst (0) (by decide) ?_
        refine q_istore (ls1 := [some (.ref 81), some (.int i1), some (.int i2), some (.ref a3), some (.ref a4), some (.int i5), some (.int v_30), some (.int v_44), some (.int v_61), some (.int v_67), some (.int (0 : Int32))]) (Nat.le_of_ble_eq_true rfl) rfl ?_
        refine q_end ?_
        exact (ih dp d hdp _ _ i1 i2 i5 v_30 v_44 v_61 v_67 (0 : Int32) a3 a4 _ _).2.2 h
    · intro h
      rw [e_166_2] at h
      refine K_of b_166_72 h_166_72 ?_
      refine q_iload rfl ?_
      refine q_iload rfl ?_
      refine q_icmp_ge (fun c_76 => ?_) (fun c_76 => ?_)
      · rw [if_pos c_76] at h
        refine K_of b_166_115 h_166_115 ?_
        refine q_iinc (ls1 := [some (.ref 81), some (.int i1), some (.int i2), some (.ref a3), some (.ref a4), some (.int (i5 + Int32.ofInt (1))), some (.int i6), some (.int i7), some (.int i8), some (.int i9), some (.int i10)]) rfl rfl ?_
        refine q_goto ?_
        refine K_mask [true, true, true, true, true, true, false, false, false, false, false] (Nat.le_of_ble_eq_true rfl) ?_
        exact (ih dp d hdp _ _ i1 i2 (i5 + Int32.ofInt (1)) 0 0 0 0 0 a3 a4 _ _).2.1 h
      · rw [if_neg c_76] at h
        refine q_aload rfl ?_
        refine q_iload rfl ?_
        refine q_iload rfl ?_
        refine q_iadd ?_
        refine q_aload rfl ?_
        refine q_iload rfl ?_
        obtain ⟨⟨⟨z_88, k_88, m_88⟩, u_88, v_88⟩, h⟩ := ite_some h
        refine q_ialN (Int32.toNatClampNeg i10) (nx u_88) z_88 (fst_eq k_88) v_88 m_88 ?_
        refine q_iload rfl ?_
        refine q_iadd ?_
        obtain ⟨⟨⟨z_92, k_92, m_92⟩, u_92, v_92⟩, h⟩ := ite_some h
        refine q_iasN (Int32.toNatClampNeg (i9 + i10)) (nx u_92) z_92 (fst_eq k_92) v_92 m_92 ?_
        obtain ⟨I_92, nI_92, h⟩ := stI_some h
        refine q_nI nI_92 ?_
        refine q_aload rfl ?_
        refine q_iload rfl ?_
        refine q_iload rfl ?_
        refine q_iadd ?_
        refine q_aload rfl ?_
        refine q_iload rfl ?_
        obtain ⟨⟨⟨z_104, k_104, m_104⟩, u_104, v_104⟩, h⟩ := ite_some h
        refine q_ialN (Int32.toNatClampNeg i10) (nx u_104) z_104 (fst_eq k_104) v_104 m_104 ?_
        refine q_iload rfl ?_
        refine q_iadd ?_
        obtain ⟨⟨⟨z_108, k_108, m_108⟩, u_108, v_108⟩, h⟩ := ite_some h
        refine q_iasN (Int32.toNatClampNeg (i9 + i10)) (nx u_108) z_108 (fst_eq k_108) v_108 m_108 ?_
        obtain ⟨I_108, nI_108, h⟩ := stI_some h
        refine q_nI nI_108 ?_
        refine q_iinc (ls1 := [some (.ref 81), some (.int i1), some (.int i2), some (.ref a3), some (.ref a4), some (.int i5), some (.int i6), some (.int i7), some (.int i8), some (.int i9), some (.int (i10 + Int32.ofInt (1)))]) rfl rfl ?_
        refine q_goto ?_
        exact (ih dp d hdp _ _ i1 i2 i5 i6 i7 i8 i9 (i10 + Int32.ofInt (1)) a3 a4 _ _).2.2 h
theorem a_166 (X : GX) {z : Nat} {kd : Nat → Nat × Nat} {Rf : Nat → Nat → Option Nat} (hS : Sh z kd Rf) {n dp d : Nat} (hd : dp ≤ d) {I : (Nat → Nat → Int32)} {L : (Nat → Nat → Int64)} {i1 : Int32} {i2 : Int32} {a3 : Nat} {a4 : Nat} {I1 : (Nat → Nat → Int32)} {L1 : (Nat → Nat → Int64)} (h : g_166 n dp (z, kd, Rf) 0 I L i1 i2 0 0 0 0 0 0 a3 a4 = some (I1, L1)) : Ct X d 166 0 0 [.ref 81, .int i1, .int i2, .ref a3, .ref a4] (z, kd, I, L, Rf) (AV (fun τ => τ = (z, kd, I1, L1, Rf))) :=
  Ct_of mu_166 (Nat.le_of_ble_eq_true rfl) ((w_166 X hS n dp d hd I L i1 i2 0 0 0 0 0 0 a3 a4 _ _).1 h)

/-! 165 CutFloor$Mixer.listBoxes()V -/
set_option maxHeartbeats 4000000 in
set_option maxRecDepth 100000 in
def g_165 : Nat → Nat → EN → Nat → (Nat → Nat → Int32) → (Nat → Nat → Int64) → Int32 → Int32 →  Option ((Nat → Nat → Int32) × (Nat → Nat → Int64))
  | 0, _, _, _, _, _, _, _ => none
  | n + 1, dp, e, lab, I, L, i1, i2 =>
    if lab = 0 then (g_165 n dp e 1 I L (0 : Int32) (0 : Int32))
    else if lab = 1 then (if (I 1 9) ≤ i2 then (if 1 ≤ dp then (stI (u2 I 81 6 (if (8 : Int32) < i1 then (8 : Int32) else i1)) (fun I_57 => (stI (u2 I_57 81 7 (i1 - (I_57 81 6))) (fun I_67 => (if 1 ≤ dp then (g_166 n (dp - 1) e 0 I_67 L (0 : Int32) (I_67 81 6) 0 0 0 0 0 0 83 84).bind (fun ⟨I0_84, L0_84⟩ => (if 1 ≤ dp then (g_166 n (dp - 1) e 0 I0_84 L0_84 (I0_84 81 6) (I0_84 81 7) 0 0 0 0 0 0 85 86).bind (fun ⟨I1_104, L1_104⟩ => (some (I1_104, L1_104))) else none)) else none))))) else none) else (if 0 ≤ ((i2 * (7 : Int32)) + (6 : Int32)) ∧ (Int32.toNatClampNeg ((i2 * (7 : Int32)) + (6 : Int32))) < 112 then (if (I 7 (Int32.toNatClampNeg ((i2 * (7 : Int32)) + (6 : Int32)))) = (1 : Int32) then (if 0 ≤ i1 ∧ (Int32.toNatClampNeg i1) < 16 then (stI (u2 I 82 (Int32.toNatClampNeg i1) i2) (fun I_40 => (g_165 n dp e 2 I_40 L (i1 + Int32.ofInt (1)) i2))) else none) else (g_165 n dp e 2 I L i1 i2)) else none))
    else if lab = 2 then (g_165 n dp e 1 I L i1 (i2 + Int32.ofInt (1)))
    else none
set_option maxRecDepth 100000 in
theorem e_165_0 (n dp : Nat) (e : EN) (I : (Nat → Nat → Int32)) (L : (Nat → Nat → Int64)) (i1 : Int32) (i2 : Int32) : g_165 (n + 1) dp e 0 I L i1 i2 = (g_165 n dp e 1 I L (0 : Int32) (0 : Int32)) := by rw [g_165.eq_2, if_pos (show (0 : Nat) = 0 from rfl)]
set_option maxRecDepth 100000 in
theorem e_165_1 (n dp : Nat) (e : EN) (I : (Nat → Nat → Int32)) (L : (Nat → Nat → Int64)) (i1 : Int32) (i2 : Int32) : g_165 (n + 1) dp e 1 I L i1 i2 = (if (I 1 9) ≤ i2 then (if 1 ≤ dp then (stI (u2 I 81 6 (if (8 : Int32) < i1 then (8 : Int32) else i1)) (fun I_57 => (stI (u2 I_57 81 7 (i1 - (I_57 81 6))) (fun I_67 => (if 1 ≤ dp then (g_166 n (dp - 1) e 0 I_67 L (0 : Int32) (I_67 81 6) 0 0 0 0 0 0 83 84).bind (fun ⟨I0_84, L0_84⟩ => (if 1 ≤ dp then (g_166 n (dp - 1) e 0 I0_84 L0_84 (I0_84 81 6) (I0_84 81 7) 0 0 0 0 0 0 85 86).bind (fun ⟨I1_104, L1_104⟩ => (some (I1_104, L1_104))) else none)) else none))))) else none) else (if 0 ≤ ((i2 * (7 : Int32)) + (6 : Int32)) ∧ (Int32.toNatClampNeg ((i2 * (7 : Int32)) + (6 : Int32))) < 112 then (if (I 7 (Int32.toNatClampNeg ((i2 * (7 : Int32)) + (6 : Int32)))) = (1 : Int32) then (if 0 ≤ i1 ∧ (Int32.toNatClampNeg i1) < 16 then (stI (u2 I 82 (Int32.toNatClampNeg i1) i2) (fun I_40 => (g_165 n dp e 2 I_40 L (i1 + Int32.ofInt (1)) i2))) else none) else (g_165 n dp e 2 I L i1 i2)) else none)) := by rw [g_165.eq_2, if_neg (show ¬ ((1 : Nat) = 0) by decide), if_pos (show (1 : Nat) = 1 from rfl)]
set_option maxRecDepth 100000 in
theorem e_165_2 (n dp : Nat) (e : EN) (I : (Nat → Nat → Int32)) (L : (Nat → Nat → Int64)) (i1 : Int32) (i2 : Int32) : g_165 (n + 1) dp e 2 I L i1 i2 = (g_165 n dp e 1 I L i1 (i2 + Int32.ofInt (1))) := by rw [g_165.eq_2, if_neg (show ¬ ((2 : Nat) = 0) by decide), if_neg (show ¬ ((2 : Nat) = 1) by decide), if_pos (show (2 : Nat) = 2 from rfl)]
set_option maxHeartbeats 8000000 in
set_option maxRecDepth 100000 in
theorem w_165 (X : GX) {z : Nat} {kd : Nat → Nat × Nat} {Rf : Nat → Nat → Option Nat} (hS : Sh z kd Rf) : ∀ (n dp d : Nat), dp ≤ d → ∀ (I : (Nat → Nat → Int32)) (L : (Nat → Nat → Int64)) (i1 : Int32) (i2 : Int32) (I1 : (Nat → Nat → Int32)) (L1 : (Nat → Nat → Int64)), (g_165 n dp (z, kd, Rf) 0 I L i1 i2 = some (I1, L1) → K X d 165 0 0 (AV (fun τ => τ = (z, kd, I1, L1, Rf))) 0 [some (.ref 81), none, none] [] (z, kd, I, L, Rf) 0 0) ∧
    (g_165 n dp (z, kd, Rf) 1 I L i1 i2 = some (I1, L1) → K X d 165 0 0 (AV (fun τ => τ = (z, kd, I1, L1, Rf))) 4 [some (.ref 81), some (.int i1), some (.int i2)] [] (z, kd, I, L, Rf) 0 0) ∧
    (g_165 n dp (z, kd, Rf) 2 I L i1 i2 = some (I1, L1) → K X d 165 0 0 (AV (fun τ => τ = (z, kd, I1, L1, Rf))) 44 [some (.ref 81), some (.int i1), some (.int i2)] [] (z, kd, I, L, Rf) 0 0) := by
  intro n
  induction n with
  | zero => intro dp d hdp I L i1 i2 I1 L1; exact ⟨(fun h => by cases h), (fun h => by cases h), (fun h => by cases h)⟩
  | succ n ih =>
    intro dp d hdp I L i1 i2 I1 L1
    refine ⟨?_, ?_, ?_⟩
    · intro h
      rw [e_165_0] at h
      refine K_of b_165_0 h_165_0 ?_
      refine q_iconst (0) (by decide) ?_
      refine q_istore (ls1 := [some (.ref 81), some (.int (0 : Int32)), none]) (Nat.le_of_ble_eq_true rfl) rfl ?_
      refine q_iconst (0) (by decide) ?_
      refine q_istore (ls1 := [some (.ref 81), some (.int (0 : Int32)), some (.int (0 : Int32))]) (Nat.le_of_ble_eq_true rfl) rfl ?_
      refine q_end ?_
      exact (ih dp d hdp _ _ (0 : Int32) (0 : Int32) _ _).2.1 h
    · intro h
      rw [e_165_1] at h
      refine K_of b_165_4 h_165_4 ?_
      refine q_iload rfl ?_
      refine q_aload rfl ?_
      refine q_getRs (c0 := 5) (j := 0) rfl rfl (zl hS 81 (by decide)) (sk hS 81 (by decide) rfl) rfl (by decide) (r_81_0 hS) ?_
      refine q_getI (c0 := 3) (j := 9) rfl rfl (zl hS 1 (by decide)) (sk hS 1 (by decide) rfl) (Or.inl rfl) (by decide) ?_
      refine q_icmp_ge (fun c_12 => ?_) (fun c_12 => ?_)
      · rw [if_pos c_12] at h
        refine K_of b_165_50 h_165_50 ?_
        refine q_aload rfl ?_
        refine q_iload rfl ?_
        refine q_iconst (8) (by decide) ?_
        obtain ⟨d_54, h⟩ := ite_some h
        refine q_min (Nat.le_of_ble_eq_true rfl) (Nat.le_trans d_54 hdp) (Nat.le_refl _) (Nat.le_refl _) ?_
        refine q_putI (c0 := 5) (j := 6) rfl rfl (zl hS 81 (by decide)) (sk hS 81 (by decide) rfl) rfl ?_
        obtain ⟨I_57, nI_57, h⟩ := stI_some h
        refine q_nI nI_57 ?_
        refine q_aload rfl ?_
        refine q_iload rfl ?_
        refine q_aload rfl ?_
        refine q_getI (c0 := 5) (j := 6) rfl rfl (zl hS 81 (by decide)) (sk hS 81 (by decide) rfl) (Or.inl rfl) (by decide) ?_
        refine q_isub ?_
        refine q_putI (c0 := 5) (j := 7) rfl rfl (zl hS 81 (by decide)) (sk hS 81 (by decide) rfl) rfl ?_
        obtain ⟨I_67, nI_67, h⟩ := stI_some h
        refine q_nI nI_67 ?_
        refine q_aload rfl ?_
        refine q_iconst (0) (by decide) ?_
        refine q_aload rfl ?_
        refine q_getI (c0 := 5) (j := 6) rfl rfl (zl hS 81 (by decide)) (sk hS 81 (by decide) rfl) (Or.inl rfl) (by decide) ?_
        refine q_aload rfl ?_
        refine q_getRs (c0 := 5) (j := 2) rfl rfl (zl hS 81 (by decide)) (sk hS 81 (by decide) rfl) rfl (by decide) (r_81_2 hS) ?_
        refine q_aload rfl ?_
        refine q_getRs (c0 := 5) (j := 3) rfl rfl (zl hS 81 (by decide)) (sk hS 81 (by decide) rfl) rfl (by decide) (r_81_3 hS) ?_
        obtain ⟨d_84, h⟩ := ite_some h
        obtain ⟨⟨I0_84, L0_84⟩, e_84, h⟩ := Option.bind_eq_some_iff.mp h
        dsimp only at h
        refine q_fv5V (a_166 X hS (d := d - 1) (by omega) e_84) (by omega) (Nat.le_refl _) (Nat.le_refl _) rfl (Nat.le_of_ble_eq_true rfl) ⟨(zl hS 81 (by decide)), congrArg Prod.fst (sk hS 81 (by decide) rfl), by decide⟩ ?_
        refine q_aload rfl ?_
        refine q_aload rfl ?_
        refine q_getI (c0 := 5) (j := 6) rfl rfl (zl hS 81 (by decide)) (sk hS 81 (by decide) rfl) (Or.inl rfl) (by decide) ?_
        refine q_aload rfl ?_
        refine q_getI (c0 := 5) (j := 7) rfl rfl (zl hS 81 (by decide)) (sk hS 81 (by decide) rfl) (Or.inl rfl) (by decide) ?_
        refine q_aload rfl ?_
        refine q_getRs (c0 := 5) (j := 4) rfl rfl (zl hS 81 (by decide)) (sk hS 81 (by decide) rfl) rfl (by decide) (r_81_4 hS) ?_
        refine q_aload rfl ?_
        refine q_getRs (c0 := 5) (j := 5) rfl rfl (zl hS 81 (by decide)) (sk hS 81 (by decide) rfl) rfl (by decide) (r_81_5 hS) ?_
        obtain ⟨d_104, h⟩ := ite_some h
        obtain ⟨⟨I1_104, L1_104⟩, e_104, h⟩ := Option.bind_eq_some_iff.mp h
        dsimp only at h
        refine q_fv5V (a_166 X hS (d := d - 1) (by omega) e_104) (by omega) (Nat.le_refl _) (Nat.le_refl _) rfl (Nat.le_of_ble_eq_true rfl) ⟨(zl hS 81 (by decide)), congrArg Prod.fst (sk hS 81 (by decide) rfl), by decide⟩ ?_
        cases h
        exact q_vret rfl (Nat.le_refl _) (Nat.le_refl _) rfl
      · rw [if_neg c_12] at h
        refine q_aload rfl ?_
        refine q_getRs (c0 := 5) (j := 0) rfl rfl (zl hS 81 (by decide)) (sk hS 81 (by decide) rfl) rfl (by decide) (r_81_0 hS) ?_
        refine q_getRs (c0 := 3) (j := 5) rfl rfl (zl hS 1 (by decide)) (sk hS 1 (by decide) rfl) rfl (by decide) (r_1_5 hS) ?_
        refine q_iload rfl ?_
        refine q_iconst (7) (by decide) ?_
        refine q_imul ?_
        refine q_iconst (6) (by decide) ?_
        refine q_iadd ?_
        obtain ⟨⟨u_29, v_29⟩, h⟩ := ite_some h
        refine q_ialN (Int32.toNatClampNeg ((i2 * (7 : Int32)) + (6 : Int32))) (nx u_29) (zl hS 7 (by decide)) (sk hS 7 (by decide) rfl) v_29 (by decide) ?_
        refine q_iconst (1) (by decide) ?_
        refine q_icmp_ne (fun c_31 => ?_) (fun c_31 => ?_)
        · rw [if_neg c_31] at h
          exact (ih dp d hdp _ _ i1 i2 _ _).2.2 h
        · rw [if_pos c_31] at h
          refine q_aload rfl ?_
          refine q_getRs (c0 := 5) (j := 1) rfl rfl (zl hS 81 (by decide)) (sk hS 81 (by decide) rfl) rfl (by decide) (r_81_1 hS) ?_
          refine q_iload rfl ?_
          refine q_iload rfl ?_
          obtain ⟨⟨u_40, v_40⟩, h⟩ := ite_some h
          refine q_iasN (Int32.toNatClampNeg i1) (nx u_40) (zl hS 82 (by decide)) (sk hS 82 (by decide) rfl) v_40 (by decide) ?_
          obtain ⟨I_40, nI_40, h⟩ := stI_some h
          refine q_nI nI_40 ?_
          refine q_iinc (ls1 := [some (.ref 81), some (.int (i1 + Int32.ofInt (1))), some (.int i2)]) rfl rfl ?_
          refine q_end ?_
          exact (ih dp d hdp _ _ (i1 + Int32.ofInt (1)) i2 _ _).2.2 h
    · intro h
      rw [e_165_2] at h
      refine K_of b_165_44 h_165_44 ?_
      refine q_iinc (ls1 := [some (.ref 81), some (.int i1), some (.int (i2 + Int32.ofInt (1)))]) rfl rfl ?_
      refine q_goto ?_
      exact (ih dp d hdp _ _ i1 (i2 + Int32.ofInt (1)) _ _).2.1 h
theorem a_165 (X : GX) {z : Nat} {kd : Nat → Nat × Nat} {Rf : Nat → Nat → Option Nat} (hS : Sh z kd Rf) {n dp d : Nat} (hd : dp ≤ d) {I : (Nat → Nat → Int32)} {L : (Nat → Nat → Int64)} {I1 : (Nat → Nat → Int32)} {L1 : (Nat → Nat → Int64)} (h : g_165 n dp (z, kd, Rf) 0 I L 0 0 = some (I1, L1)) : Ct X d 165 0 0 [.ref 81] (z, kd, I, L, Rf) (AV (fun τ => τ = (z, kd, I1, L1, Rf))) :=
  Ct_of mu_165 (Nat.le_of_ble_eq_true rfl) ((w_165 X hS n dp d hd I L 0 0 _ _).1 h)

/-! 168 CutFloor$Mixer.bitsOf(I)I -/
set_option maxHeartbeats 4000000 in
set_option maxRecDepth 100000 in
def g_168 : Nat → Nat → EN → Nat → (Nat → Nat → Int32) → (Nat → Nat → Int64) → Int32 → Int32 → Int32 →  Option (Int32 × (Nat → Nat → Int32) × (Nat → Nat → Int64))
  | 0, _, _, _, _, _, _, _, _ => none
  | n + 1, dp, e, lab, I, L, i1, i2, i3 =>
    if lab = 0 then (g_168 n dp e 1 I L i1 (0 : Int32) (0 : Int32))
    else if lab = 1 then (if ((I 81 6) + (I 81 7)) ≤ i3 then (some (i2, I, L)) else (if 0 ≤ i3 ∧ (Int32.toNatClampNeg i3) < 16 then (stI (i2 ||| (((i1 >>> (i3 &&& 31)) &&& (1 : Int32)) <<< ((I 82 (Int32.toNatClampNeg i3)) &&& 31))) (fun v_31 => (g_168 n dp e 1 I L i1 v_31 (i3 + Int32.ofInt (1))))) else none))
    else none
set_option maxRecDepth 100000 in
theorem e_168_0 (n dp : Nat) (e : EN) (I : (Nat → Nat → Int32)) (L : (Nat → Nat → Int64)) (i1 : Int32) (i2 : Int32) (i3 : Int32) : g_168 (n + 1) dp e 0 I L i1 i2 i3 = (g_168 n dp e 1 I L i1 (0 : Int32) (0 : Int32)) := by rw [g_168.eq_2, if_pos (show (0 : Nat) = 0 from rfl)]
set_option maxRecDepth 100000 in
theorem e_168_1 (n dp : Nat) (e : EN) (I : (Nat → Nat → Int32)) (L : (Nat → Nat → Int64)) (i1 : Int32) (i2 : Int32) (i3 : Int32) : g_168 (n + 1) dp e 1 I L i1 i2 i3 = (if ((I 81 6) + (I 81 7)) ≤ i3 then (some (i2, I, L)) else (if 0 ≤ i3 ∧ (Int32.toNatClampNeg i3) < 16 then (stI (i2 ||| (((i1 >>> (i3 &&& 31)) &&& (1 : Int32)) <<< ((I 82 (Int32.toNatClampNeg i3)) &&& 31))) (fun v_31 => (g_168 n dp e 1 I L i1 v_31 (i3 + Int32.ofInt (1))))) else none)) := by rw [g_168.eq_2, if_neg (show ¬ ((1 : Nat) = 0) by decide), if_pos (show (1 : Nat) = 1 from rfl)]
set_option maxHeartbeats 8000000 in
set_option maxRecDepth 100000 in
theorem w_168 (X : GX) {z : Nat} {kd : Nat → Nat × Nat} {Rf : Nat → Nat → Option Nat} (hS : Sh z kd Rf) : ∀ (n dp d : Nat), dp ≤ d → ∀ (I : (Nat → Nat → Int32)) (L : (Nat → Nat → Int64)) (i1 : Int32) (i2 : Int32) (i3 : Int32) (r : Int32) (I1 : (Nat → Nat → Int32)) (L1 : (Nat → Nat → Int64)), (g_168 n dp (z, kd, Rf) 0 I L i1 i2 i3 = some (r, I1, L1) → K X d 168 0 0 (AI (fun x τ => x = r ∧ τ = (z, kd, I1, L1, Rf))) 0 [some (.ref 81), some (.int i1), none, none] [] (z, kd, I, L, Rf) 0 0) ∧
    (g_168 n dp (z, kd, Rf) 1 I L i1 i2 i3 = some (r, I1, L1) → K X d 168 0 0 (AI (fun x τ => x = r ∧ τ = (z, kd, I1, L1, Rf))) 4 [some (.ref 81), some (.int i1), some (.int i2), some (.int i3)] [] (z, kd, I, L, Rf) 0 0) := by
  intro n
  induction n with
  | zero => intro dp d hdp I L i1 i2 i3 r I1 L1; exact ⟨(fun h => by cases h), (fun h => by cases h)⟩
  | succ n ih =>
    intro dp d hdp I L i1 i2 i3 r I1 L1
    refine ⟨?_, ?_⟩
    · intro h
      rw [e_168_0] at h
      refine K_of b_168_0 h_168_0 ?_
      refine q_iconst (0) (by decide) ?_
      refine q_istore (ls1 := [some (.ref 81), some (.int i1), some (.int (0 : Int32)), none]) (Nat.le_of_ble_eq_true rfl) rfl ?_
      refine q_iconst (0) (by decide) ?_
      refine q_istore (ls1 := [some (.ref 81), some (.int i1), some (.int (0 : Int32)), some (.int (0 : Int32))]) (Nat.le_of_ble_eq_true rfl) rfl ?_
      refine q_end ?_
      exact (ih dp d hdp _ _ i1 (0 : Int32) (0 : Int32) _ _ _).2 h
    · intro h
      rw [e_168_1] at h
      refine K_of b_168_4 h_168_4 ?_
      refine q_iload rfl ?_
      refine q_aload rfl ?_
      refine q_getI (c0 := 5) (j := 6) rfl rfl (zl hS 81 (by decide)) (sk hS 81 (by decide) rfl) (Or.inl rfl) (by decide) ?_
      refine q_aload rfl ?_
      refine q_getI (c0 := 5) (j := 7) rfl rfl (zl hS 81 (by decide)) (sk hS 81 (by decide) rfl) (Or.inl rfl) (by decide) ?_
      refine q_iadd ?_
      refine q_icmp_ge (fun c_14 => ?_) (fun c_14 => ?_)
      · rw [if_pos c_14] at h
        refine K_of b_168_38 h_168_38 ?_
        refine q_iload rfl ?_
        cases h
        exact q_iret rfl (Nat.le_refl _) (Nat.le_refl _) ⟨rfl, rfl⟩
      · rw [if_neg c_14] at h
        refine q_iload rfl ?_
        refine q_iload rfl ?_
        refine q_iload rfl ?_
        refine q_ishr ?_
        refine q_iconst (1) (by decide) ?_
        refine q_iand ?_
        refine q_aload rfl ?_
        refine q_getRs (c0 := 5) (j := 1) rfl rfl (zl hS 81 (by decide)) (sk hS 81 (by decide) rfl) rfl (by decide) (r_81_1 hS) ?_
        refine q_iload rfl ?_
        obtain ⟨⟨u_28, v_28⟩, h⟩ := ite_some h
        refine q_ialN (Int32.toNatClampNeg i3) (nx u_28) (zl hS 82 (by decide)) (sk hS 82 (by decide) rfl) v_28 (by decide) ?_
        refine q_ishl ?_
        refine q_ior ?_
        obtain ⟨v_31, nv_31, h⟩ := stI_some h
        refine q_eqi nv_31.symm ?_
        refine q_istore (ls1 := [some (.ref 81), some (.int i1), some (.int v_31), some (.int i3)]) (Nat.le_of_ble_eq_true rfl) rfl ?_
        refine q_iinc (ls1 := [some (.ref 81), some (.int i1), some (.int v_31), some (.int (i3 + Int32.ofInt (1)))]) rfl rfl ?_
        refine q_goto ?_
        exact (ih dp d hdp _ _ i1 v_31 (i3 + Int32.ofInt (1)) _ _ _).2 h
theorem a_168 (X : GX) {z : Nat} {kd : Nat → Nat × Nat} {Rf : Nat → Nat → Option Nat} (hS : Sh z kd Rf) {n dp d : Nat} (hd : dp ≤ d) {I : (Nat → Nat → Int32)} {L : (Nat → Nat → Int64)} {i1 : Int32} {I1 : (Nat → Nat → Int32)} {L1 : (Nat → Nat → Int64)} {r : Int32} (h : g_168 n dp (z, kd, Rf) 0 I L i1 0 0 = some (r, I1, L1)) : Ct X d 168 0 0 [.ref 81, .int i1] (z, kd, I, L, Rf) (AI (fun x τ => x = r ∧ τ = (z, kd, I1, L1, Rf))) :=
  Ct_of mu_168 (Nat.le_of_ble_eq_true rfl) ((w_168 X hS n dp d hd I L i1 0 0 _ _ _).1 h)

/-! 167 CutFloor$Mixer.seekWith(I)V -/
set_option maxHeartbeats 4000000 in
set_option maxRecDepth 100000 in
def g_167 : Nat → Nat → EN → Nat → (Nat → Nat → Int32) → (Nat → Nat → Int64) → Int32 → Int32 → Int32 → Int32 → Int32 → Int32 →  Option ((Nat → Nat → Int32) × (Nat → Nat → Int64))
  | 0, _, _, _, _, _, _, _, _, _, _, _ => none
  | n + 1, dp, e, lab, I, L, i1, i2, i3, i4, i5, i6 =>
    if lab = 0 then (if 0 ≤ i1 ∧ (Int32.toNatClampNeg i1) < 256 then (stI ((I 81 8) - (I 85 (Int32.toNatClampNeg i1))) (fun v_11 => (if 0 ≤ i1 ∧ (Int32.toNatClampNeg i1) < 256 then (stI ((I 81 9) - (I 85 (Int32.toNatClampNeg i1))) (fun v_23 => (if 0 ≤ i1 ∧ (Int32.toNatClampNeg i1) < 256 then (if 0 ≤ i1 ∧ (Int32.toNatClampNeg i1) < 256 then (stI ((I 86 (Int32.toNatClampNeg i1)) - ((I 85 (Int32.toNatClampNeg i1)) * (I 81 10))) (fun v_42 => (g_167 n dp e 1 I L i1 v_11 v_23 v_42 (0 : Int32) 0))) else none) else none))) else none))) else none)
    else if lab = 1 then (if ((1 : Int32) <<< ((I 81 6) &&& 31)) ≤ i5 then (some (I, L)) else (if 0 ≤ i5 ∧ (Int32.toNatClampNeg i5) < 256 then (stI (I 83 (Int32.toNatClampNeg i5)) (fun v_65 => (if v_65 < i2 then (g_167 n dp e 2 I L i1 i2 i3 i4 i5 v_65) else (if v_65 ≤ i3 then (if 0 ≤ i5 ∧ (Int32.toNatClampNeg i5) < 256 then (stI ((i4 + (I 84 (Int32.toNatClampNeg i5))) - (v_65 * (I 81 10))) (fun v_100 => (if v_100 < 0 then (g_167 n dp e 2 I L i1 i2 i3 i4 i5 v_65) else (stI (u2 I 81 12 ((I 81 12) + (1 : Int32))) (fun I_114 => (if (I_114 81 13) ≤ v_100 then (g_167 n dp e 2 I_114 L i1 i2 i3 i4 i5 v_65) else (stI (u2 I_114 81 13 v_100) (fun I_129 => (if 1 ≤ dp then (g_168 n (dp - 1) e 0 I_129 L ((i1 <<< ((I_129 81 6) &&& 31)) ||| i5) 0 0).bind (fun ⟨x0_143, I0_143, L0_143⟩ => (stI (u2 I0_143 81 14 x0_143) (fun I_146 => (g_167 n dp e 2 I_146 L0_143 i1 i2 i3 i4 i5 v_65)))) else none))))))))) else none) else (g_167 n dp e 2 I L i1 i2 i3 i4 i5 v_65))))) else none))
    else if lab = 2 then (g_167 n dp e 1 I L i1 i2 i3 i4 (i5 + Int32.ofInt (1)) 0)
    else none
set_option maxRecDepth 100000 in
theorem e_167_0 (n dp : Nat) (e : EN) (I : (Nat → Nat → Int32)) (L : (Nat → Nat → Int64)) (i1 : Int32) (i2 : Int32) (i3 : Int32) (i4 : Int32) (i5 : Int32) (i6 : Int32) : g_167 (n + 1) dp e 0 I L i1 i2 i3 i4 i5 i6 = (if 0 ≤ i1 ∧ (Int32.toNatClampNeg i1) < 256 then (stI ((I 81 8) - (I 85 (Int32.toNatClampNeg i1))) (fun v_11 => (if 0 ≤ i1 ∧ (Int32.toNatClampNeg i1) < 256 then (stI ((I 81 9) - (I 85 (Int32.toNatClampNeg i1))) (fun v_23 => (if 0 ≤ i1 ∧ (Int32.toNatClampNeg i1) < 256 then (if 0 ≤ i1 ∧ (Int32.toNatClampNeg i1) < 256 then (stI ((I 86 (Int32.toNatClampNeg i1)) - ((I 85 (Int32.toNatClampNeg i1)) * (I 81 10))) (fun v_42 => (g_167 n dp e 1 I L i1 v_11 v_23 v_42 (0 : Int32) 0))) else none) else none))) else none))) else none) := by rw [g_167.eq_2, if_pos (show (0 : Nat) = 0 from rfl)]
set_option maxRecDepth 100000 in
theorem e_167_1 (n dp : Nat) (e : EN) (I : (Nat → Nat → Int32)) (L : (Nat → Nat → Int64)) (i1 : Int32) (i2 : Int32) (i3 : Int32) (i4 : Int32) (i5 : Int32) (i6 : Int32) : g_167 (n + 1) dp e 1 I L i1 i2 i3 i4 i5 i6 = (if ((1 : Int32) <<< ((I 81 6) &&& 31)) ≤ i5 then (some (I, L)) else (if 0 ≤ i5 ∧ (Int32.toNatClampNeg i5) < 256 then (stI (I 83 (Int32.toNatClampNeg i5)) (fun v_65 => (if v_65 < i2 then (g_167 n dp e 2 I L i1 i2 i3 i4 i5 v_65) else (if v_65 ≤ i3 then (if 0 ≤ i5 ∧ (Int32.toNatClampNeg i5) < 256 then (stI ((i4 + (I 84 (Int32.toNatClampNeg i5))) - (v_65 * (I 81 10))) (fun v_100 => (if v_100 < 0 then (g_167 n dp e 2 I L i1 i2 i3 i4 i5 v_65) else (stI (u2 I 81 12 ((I 81 12) + (1 : Int32))) (fun I_114 => (if (I_114 81 13) ≤ v_100 then (g_167 n dp e 2 I_114 L i1 i2 i3 i4 i5 v_65) else (stI (u2 I_114 81 13 v_100) (fun I_129 => (if 1 ≤ dp then (g_168 n (dp - 1) e 0 I_129 L ((i1 <<< ((I_129 81 6) &&& 31)) ||| i5) 0 0).bind (fun ⟨x0_143, I0_143, L0_143⟩ => (stI (u2 I0_143 81 14 x0_143) (fun I_146 => (g_167 n dp e 2 I_146 L0_143 i1 i2 i3 i4 i5 v_65)))) else none))))))))) else none) else (g_167 n dp e 2 I L i1 i2 i3 i4 i5 v_65))))) else none)) := by rw [g_167.eq_2, if_neg (show ¬ ((1 : Nat) = 0) by decide), if_pos (show (1 : Nat) = 1 from rfl)]
set_option maxRecDepth 100000 in
theorem e_167_2 (n dp : Nat) (e : EN) (I : (Nat → Nat → Int32)) (L : (Nat → Nat → Int64)) (i1 : Int32) (i2 : Int32) (i3 : Int32) (i4 : Int32) (i5 : Int32) (i6 : Int32) : g_167 (n + 1) dp e 2 I L i1 i2 i3 i4 i5 i6 = (g_167 n dp e 1 I L i1 i2 i3 i4 (i5 + Int32.ofInt (1)) 0) := by rw [g_167.eq_2, if_neg (show ¬ ((2 : Nat) = 0) by decide), if_neg (show ¬ ((2 : Nat) = 1) by decide), if_pos (show (2 : Nat) = 2 from rfl)]
set_option maxHeartbeats 8000000 in
set_option maxRecDepth 100000 in
theorem w_167 (X : GX) {z : Nat} {kd : Nat → Nat × Nat} {Rf : Nat → Nat → Option Nat} (hS : Sh z kd Rf) : ∀ (n dp d : Nat), dp ≤ d → ∀ (I : (Nat → Nat → Int32)) (L : (Nat → Nat → Int64)) (i1 : Int32) (i2 : Int32) (i3 : Int32) (i4 : Int32) (i5 : Int32) (i6 : Int32) (I1 : (Nat → Nat → Int32)) (L1 : (Nat → Nat → Int64)), (g_167 n dp (z, kd, Rf) 0 I L i1 i2 i3 i4 i5 i6 = some (I1, L1) → K X d 167 0 0 (AV (fun τ => τ = (z, kd, I1, L1, Rf))) 0 [some (.ref 81), some (.int i1), none, none, none, none, none, none] [] (z, kd, I, L, Rf) 0 0) ∧
    (g_167 n dp (z, kd, Rf) 1 I L i1 i2 i3 i4 i5 i6 = some (I1, L1) → K X d 167 0 0 (AV (fun τ => τ = (z, kd, I1, L1, Rf))) 47 [some (.ref 81), some (.int i1), some (.int i2), some (.int i3), some (.int i4), some (.int i5), none, none] [] (z, kd, I, L, Rf) 0 0) ∧
    (g_167 n dp (z, kd, Rf) 2 I L i1 i2 i3 i4 i5 i6 = some (I1, L1) → K X d 167 0 0 (AV (fun τ => τ = (z, kd, I1, L1, Rf))) 149 [some (.ref 81), some (.int i1), some (.int i2), some (.int i3), some (.int i4), some (.int i5), some (.int i6), none] [] (z, kd, I, L, Rf) 0 0) := by
  intro n
  induction n with
  | zero => intro dp d hdp I L i1 i2 i3 i4 i5 i6 I1 L1; exact ⟨(fun h => by cases h), (fun h => by cases h), (fun h => by cases h)⟩
  | succ n ih =>
    intro dp d hdp I L i1 i2 i3 i4 i5 i6 I1 L1
    refine ⟨?_, ?_, ?_⟩
    · intro h
      rw [e_167_0] at h
      refine K_of b_167_0 h_167_0 ?_
      refine q_aload rfl ?_
      refine q_getI (c0 := 5) (j := 8) rfl rfl (zl hS 81 (by decide)) (sk hS 81 (by decide) rfl) (Or.inl rfl) (by decide) ?_
      refine q_aload rfl ?_
      refine q_getRs (c0 := 5) (j := 4) rfl rfl (zl hS 81 (by decide)) (sk hS 81 (by decide) rfl) rfl (by decide) (r_81_4 hS) ?_
      refine q_iload rfl ?_
      obtain ⟨⟨u_9, v_9⟩, h⟩ := ite_some h
      refine q_ialN (Int32.toNatClampNeg i1) (nx u_9) (zl hS 85 (by decide)) (sk hS 85 (by decide) rfl) v_9 (by decide) ?_
      refine q_isub ?_
      obtain ⟨v_11, nv_11, h⟩ := stI_some h
      refine q_eqi nv_11.symm ?_
      refine q_istore (ls1 := [some (.ref 81), some (.int i1), some (.int v_11), none, none, none, none, none]) (Nat.le_of_ble_eq_true rfl) rfl ?_
      refine q_aload rfl ?_
      refine q_getI (c0 := 5) (j := 9) rfl rfl (zl hS 81 (by decide)) (sk hS 81 (by decide) rfl) (Or.inl rfl) (by decide) ?_
      refine q_aload rfl ?_
      refine q_getRs (c0 := 5) (j := 4) rfl rfl (zl hS 81 (by decide)) (sk hS 81 (by decide) rfl) rfl (by decide) (r_81_4 hS) ?_
      refine q_iload rfl ?_
      obtain ⟨⟨u_21, v_21⟩, h⟩ := ite_some h
      refine q_ialN (Int32.toNatClampNeg i1) (nx u_21) (zl hS 85 (by decide)) (sk hS 85 (by decide) rfl) v_21 (by decide) ?_
      refine q_isub ?_
      obtain ⟨v_23, nv_23, h⟩ := stI_some h
      refine q_eqi nv_23.symm ?_
      refine q_istore (ls1 := [some (.ref 81), some (.int i1), some (.int v_11), some (.int v_23), none, none, none, none]) (Nat.le_of_ble_eq_true rfl) rfl ?_
      refine q_aload rfl ?_
      refine q_getRs (c0 := 5) (j := 5) rfl rfl (zl hS 81 (by decide)) (sk hS 81 (by decide) rfl) rfl (by decide) (r_81_5 hS) ?_
      refine q_iload rfl ?_
      obtain ⟨⟨u_29, v_29⟩, h⟩ := ite_some h
      refine q_ialN (Int32.toNatClampNeg i1) (nx u_29) (zl hS 86 (by decide)) (sk hS 86 (by decide) rfl) v_29 (by decide) ?_
      refine q_aload rfl ?_
      refine q_getRs (c0 := 5) (j := 4) rfl rfl (zl hS 81 (by decide)) (sk hS 81 (by decide) rfl) rfl (by decide) (r_81_4 hS) ?_
      refine q_iload rfl ?_
      obtain ⟨⟨u_35, v_35⟩, h⟩ := ite_some h
      refine q_ialN (Int32.toNatClampNeg i1) (nx u_35) (zl hS 85 (by decide)) (sk hS 85 (by decide) rfl) v_35 (by decide) ?_
      refine q_aload rfl ?_
      refine q_getI (c0 := 5) (j := 10) rfl rfl (zl hS 81 (by decide)) (sk hS 81 (by decide) rfl) (Or.inl rfl) (by decide) ?_
      refine q_imul ?_
      refine q_isub ?_
      obtain ⟨v_42, nv_42, h⟩ := stI_some h
      refine q_eqi nv_42.symm ?_
      refine q_istore (ls1 := [some (.ref 81), some (.int i1), some (.int v_11), some (.int v_23), some (.int v_42), none, none, none]) (Nat.le_of_ble_eq_true rfl) rfl ?_
      refine q_iconst (0) (by decide) ?_
      refine q_istore (ls1 := [some (.ref 81), some (.int i1), some (.int v_11), some (.int v_23), some (.int v_42), some (.int (0 : Int32)), none, none]) (Nat.le_of_ble_eq_true rfl) rfl ?_
      refine q_end ?_
      exact (ih dp d hdp _ _ i1 v_11 v_23 v_42 (0 : Int32) 0 _ _).2.1 h
    · intro h
      rw [e_167_1] at h
      refine K_of b_167_47 h_167_47 ?_
      refine q_iload rfl ?_
      refine q_iconst (1) (by decide) ?_
      refine q_aload rfl ?_
      refine q_getI (c0 := 5) (j := 6) rfl rfl (zl hS 81 (by decide)) (sk hS 81 (by decide) rfl) (Or.inl rfl) (by decide) ?_
      refine q_ishl ?_
      refine q_icmp_ge (fun c_55 => ?_) (fun c_55 => ?_)
      · rw [if_pos c_55] at h
        refine K_of b_167_155 h_167_155 ?_
        cases h
        exact q_vret rfl (Nat.le_refl _) (Nat.le_refl _) rfl
      · rw [if_neg c_55] at h
        refine q_aload rfl ?_
        refine q_getRs (c0 := 5) (j := 2) rfl rfl (zl hS 81 (by decide)) (sk hS 81 (by decide) rfl) rfl (by decide) (r_81_2 hS) ?_
        refine q_iload rfl ?_
        obtain ⟨⟨u_64, v_64⟩, h⟩ := ite_some h
        refine q_ialN (Int32.toNatClampNeg i5) (nx u_64) (zl hS 83 (by decide)) (sk hS 83 (by decide) rfl) v_64 (by decide) ?_
        obtain ⟨v_65, nv_65, h⟩ := stI_some h
        refine q_eqi nv_65.symm ?_
        refine q_istore (ls1 := [some (.ref 81), some (.int i1), some (.int i2), some (.int i3), some (.int i4), some (.int i5), some (.int v_65), none]) (Nat.le_of_ble_eq_true rfl) rfl ?_
        refine q_iload rfl ?_
        refine q_iload rfl ?_
        refine q_icmp_lt (fun c_70 => ?_) (fun c_70 => ?_)
        · rw [if_pos c_70] at h
          exact (ih dp d hdp _ _ i1 i2 i3 i4 i5 v_65 _ _).2.2 h
        · rw [if_neg c_70] at h
          refine q_iload rfl ?_
          refine q_iload rfl ?_
          refine q_icmp_le (fun c_76 => ?_) (fun c_76 => ?_)
          · rw [if_pos c_76] at h
            refine K_of b_167_82 h_167_82 ?_
            refine q_iload rfl ?_
            refine q_aload rfl ?_
            refine q_getRs (c0 := 5) (j := 3) rfl rfl (zl hS 81 (by decide)) (sk hS 81 (by decide) rfl) rfl (by decide) (r_81_3 hS) ?_
            refine q_iload rfl ?_
            obtain ⟨⟨u_90, v_90⟩, h⟩ := ite_some h
            refine q_ialN (Int32.toNatClampNeg i5) (nx u_90) (zl hS 84 (by decide)) (sk hS 84 (by decide) rfl) v_90 (by decide) ?_
            refine q_iadd ?_
            refine q_iload rfl ?_
            refine q_aload rfl ?_
            refine q_getI (c0 := 5) (j := 10) rfl rfl (zl hS 81 (by decide)) (sk hS 81 (by decide) rfl) (Or.inl rfl) (by decide) ?_
            refine q_imul ?_
            refine q_isub ?_
            obtain ⟨v_100, nv_100, h⟩ := stI_some h
            refine q_eqi nv_100.symm ?_
            refine q_istore (ls1 := [some (.ref 81), some (.int i1), some (.int i2), some (.int i3), some (.int i4), some (.int i5), some (.int v_65), some (.int v_100)]) (Nat.le_of_ble_eq_true rfl) rfl ?_
            refine q_iload rfl ?_
            refine q_if_lt (fun c_104 => ?_) (fun c_104 => ?_)
            · rw [if_pos c_104] at h
              refine K_mask [true, true, true, true, true, true, true, false] (Nat.le_of_ble_eq_true rfl) ?_
              exact (ih dp d hdp _ _ i1 i2 i3 i4 i5 v_65 _ _).2.2 h
            · rw [if_neg c_104] at h
              refine q_aload rfl ?_
              refine q_dup rfl ?_
              refine q_getI (c0 := 5) (j := 12) rfl rfl (zl hS 81 (by decide)) (sk hS 81 (by decide) rfl) (Or.inl rfl) (by decide) ?_
              refine q_iconst (1) (by decide) ?_
              refine q_iadd ?_
              refine q_putI (c0 := 5) (j := 12) rfl rfl (zl hS 81 (by decide)) (sk hS 81 (by decide) rfl) rfl ?_
              obtain ⟨I_114, nI_114, h⟩ := stI_some h
              refine q_nI nI_114 ?_
              refine q_iload rfl ?_
              refine q_aload rfl ?_
              refine q_getI (c0 := 5) (j := 13) rfl rfl (zl hS 81 (by decide)) (sk hS 81 (by decide) rfl) (Or.inl rfl) (by decide) ?_
              refine q_icmp_ge (fun c_123 => ?_) (fun c_123 => ?_)
              · rw [if_pos c_123] at h
                refine K_mask [true, true, true, true, true, true, true, false] (Nat.le_of_ble_eq_true rfl) ?_
                exact (ih dp d hdp _ _ i1 i2 i3 i4 i5 v_65 _ _).2.2 h
              · rw [if_neg c_123] at h
                refine q_aload rfl ?_
                refine q_iload rfl ?_
                refine q_putI (c0 := 5) (j := 13) rfl rfl (zl hS 81 (by decide)) (sk hS 81 (by decide) rfl) rfl ?_
                obtain ⟨I_129, nI_129, h⟩ := stI_some h
                refine q_nI nI_129 ?_
                refine q_aload rfl ?_
                refine q_aload rfl ?_
                refine q_iload rfl ?_
                refine q_aload rfl ?_
                refine q_getI (c0 := 5) (j := 6) rfl rfl (zl hS 81 (by decide)) (sk hS 81 (by decide) rfl) (Or.inl rfl) (by decide) ?_
                refine q_ishl ?_
                refine q_iload rfl ?_
                refine q_ior ?_
                obtain ⟨d_143, h⟩ := ite_some h
                obtain ⟨⟨x0_143, I0_143, L0_143⟩, e_143, h⟩ := Option.bind_eq_some_iff.mp h
                dsimp only at h
                refine q_fv2I (a_168 X hS (d := d - 1) (by omega) e_143) (by omega) (Nat.le_refl _) (Nat.le_refl _) rfl (Nat.le_of_ble_eq_true rfl) ⟨(zl hS 81 (by decide)), congrArg Prod.fst (sk hS 81 (by decide) rfl), by decide⟩ ?_
                refine q_putI (c0 := 5) (j := 14) rfl rfl (zl hS 81 (by decide)) (sk hS 81 (by decide) rfl) rfl ?_
                obtain ⟨I_146, nI_146, h⟩ := stI_some h
                refine q_nI nI_146 ?_
                refine q_end ?_
                refine K_mask [true, true, true, true, true, true, true, false] (Nat.le_of_ble_eq_true rfl) ?_
                exact (ih dp d hdp _ _ i1 i2 i3 i4 i5 v_65 _ _).2.2 h
          · rw [if_neg c_76] at h
            refine q_goto ?_
            exact (ih dp d hdp _ _ i1 i2 i3 i4 i5 v_65 _ _).2.2 h
    · intro h
      rw [e_167_2] at h
      refine K_of b_167_149 h_167_149 ?_
      refine q_iinc (ls1 := [some (.ref 81), some (.int i1), some (.int i2), some (.int i3), some (.int i4), some (.int (i5 + Int32.ofInt (1))), some (.int i6), none]) rfl rfl ?_
      refine q_goto ?_
      refine K_mask [true, true, true, true, true, true, false, false] (Nat.le_of_ble_eq_true rfl) ?_
      exact (ih dp d hdp _ _ i1 i2 i3 i4 (i5 + Int32.ofInt (1)) 0 _ _).2.1 h
theorem a_167 (X : GX) {z : Nat} {kd : Nat → Nat × Nat} {Rf : Nat → Nat → Option Nat} (hS : Sh z kd Rf) {n dp d : Nat} (hd : dp ≤ d) {I : (Nat → Nat → Int32)} {L : (Nat → Nat → Int64)} {i1 : Int32} {I1 : (Nat → Nat → Int32)} {L1 : (Nat → Nat → Int64)} (h : g_167 n dp (z, kd, Rf) 0 I L i1 0 0 0 0 0 = some (I1, L1)) : Ct X d 167 0 0 [.ref 81, .int i1] (z, kd, I, L, Rf) (AV (fun τ => τ = (z, kd, I1, L1, Rf))) :=
  Ct_of mu_167 (Nat.le_of_ble_eq_true rfl) ((w_167 X hS n dp d hd I L i1 0 0 0 0 0 _ _).1 h)

