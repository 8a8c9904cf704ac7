theorem narB {v : Int32} (h : v = 0 ∨ v = 1) : nar (some .boolean) v := by rcases h with rfl | rfl <;> rfl
/-- CutFloor.within(III)Z  -/
def f_14 (x : Int32) (lo : Int32) (hi : Int32) : Int32 := (if x < lo then (0 : Int32) else (if hi < x then (0 : Int32) else (1 : Int32)))
set_option maxHeartbeats 4000000 in
set_option maxRecDepth 100000 in
theorem a_14 (X : GX) (d : Nat) (hd : 0 ≤ d) (z : Nat) (kd : Nat → Nat × Nat) (I : Nat → Nat → Int32) (L : Nat → Nat → Int64) (Rf : Nat → Nat → Option Nat) (x : Int32) (lo : Int32) (hi : Int32)   : Ct X d 14 0 0 [.int x, .int lo, .int hi] (z, kd, I, L, Rf) (AI (fun r τ => r = (f_14 x lo hi) ∧ τ = (z, kd, I, L, Rf))) := by
  refine Ct_of mu_14 (Nat.le_of_ble_eq_true rfl) ?_
  show K X d 14 0 0 _ 0 [some (.int x), some (.int lo), some (.int hi)] [] (z, kd, I, L, Rf) 0 0
  refine K_of b_14_0 h_14_0 ?_
  refine q_iload rfl ?_
  refine q_iload rfl ?_
  refine q_icmp_lt (fun c_2 => ?_) (fun c_2 => ?_)
  · refine K_of b_14_14 h_14_14 ?_
    refine q_iconst (0) (by decide) ?_
    refine q_end ?_
    refine K_of b_14_15 h_14_15 ?_
    refine q_iret rfl (Nat.le_refl _) (Nat.le_refl _) ?_
    have e9 : (f_14 x lo hi) = (0 : Int32) := (if_pos c_2).trans rfl
    rw [e9]
    exact ⟨rfl, rfl⟩
  · refine q_iload rfl ?_
    refine q_iload rfl ?_
    refine q_icmp_gt (fun c_7 => ?_) (fun c_7 => ?_)
    · refine K_of b_14_14 h_14_14 ?_
      refine q_iconst (0) (by decide) ?_
      refine q_end ?_
      refine K_of b_14_15 h_14_15 ?_
      refine q_iret rfl (Nat.le_refl _) (Nat.le_refl _) ?_
      have e9 : (f_14 x lo hi) = (0 : Int32) := (if_neg c_2).trans ((if_pos c_7).trans rfl)
      rw [e9]
      exact ⟨rfl, rfl⟩
    · refine q_iconst (1) (by decide) ?_
      refine q_goto ?_
      refine K_of b_14_15 h_14_15 ?_
      refine q_iret rfl (Nat.le_refl _) (Nat.le_refl _) ?_
      have e9 : (f_14 x lo hi) = (1 : Int32) := (if_neg c_2).trans ((if_neg c_7).trans rfl)
      rw [e9]
      exact ⟨rfl, rfl⟩
theorem bz_14 (x : Int32) (lo : Int32) (hi : Int32) : (f_14 x lo hi) = 0 ∨ (f_14 x lo hi) = 1 := by
  unfold f_14
  repeat' split
  all_goals first | exact Or.inl rfl | exact Or.inr rfl 

/-- CutFloor.allow(I)I  -/
def f_19 (I : Nat → Nat → Int32) (x : Int32) : Int32 × (Nat → Nat → Int32) := (x, (u2 I 0 18 (0 : Int32)))
set_option maxHeartbeats 4000000 in
set_option maxRecDepth 100000 in
theorem a_19 (X : GX) (d : Nat) (hd : 0 ≤ d) (z : Nat) (kd : Nat → Nat × Nat) (I : Nat → Nat → Int32) (L : Nat → Nat → Int64) (Rf : Nat → Nat → Option Nat) (x : Int32) (hS : Sh z kd Rf)  : Ct X d 19 0 0 [.ref 0, .int x] (z, kd, I, L, Rf) (AI (fun r τ => r = (f_19 I x).1 ∧ τ = (z, kd, (f_19 I x).2, L, Rf))) := by
  refine Ct_of mu_19 (Nat.le_of_ble_eq_true rfl) ?_
  show K X d 19 0 0 _ 0 [some (.ref 0), some (.int x)] [] (z, kd, I, L, Rf) 0 0
  refine K_of b_19_0 h_19_0 ?_
  refine q_aload rfl ?_
  refine q_iconst (0) (by decide) ?_
  refine q_putI (c0 := 11) (j := 18) rfl rfl (zl hS 0 (by decide)) (sk hS 0 (by decide) rfl) rfl ?_
  refine q_iload rfl ?_
  refine q_iret rfl (Nat.le_refl _) (Nat.le_refl _) ?_
  have e9 : (f_19 I x) = (x, (u2 I 0 18 (0 : Int32))) := rfl
  rw [e9]
  exact ⟨rfl, rfl⟩

/-- CutFloor.fault()I  -/
def f_67 (I : Nat → Nat → Int32)  : Int32 := (I 0 15)
set_option maxHeartbeats 4000000 in
set_option maxRecDepth 100000 in
theorem a_67 (X : GX) (d : Nat) (hd : 0 ≤ d) (z : Nat) (kd : Nat → Nat × Nat) (I : Nat → Nat → Int32) (L : Nat → Nat → Int64) (Rf : Nat → Nat → Option Nat)  (hS : Sh z kd Rf)  : Ct X d 67 0 0 [.ref 0] (z, kd, I, L, Rf) (AI (fun r τ => r = (f_67 I) ∧ τ = (z, kd, I, L, Rf))) := by
  refine Ct_of mu_67 (Nat.le_of_ble_eq_true rfl) ?_
  show K X d 67 0 0 _ 0 [some (.ref 0)] [] (z, kd, I, L, Rf) 0 0
  refine K_of b_67_0 h_67_0 ?_
  refine q_aload rfl ?_
  refine q_getI (c0 := 11) (j := 15) rfl rfl (zl hS 0 (by decide)) (sk hS 0 (by decide) rfl) (Or.inl rfl) (by decide) ?_
  refine q_iret rfl (Nat.le_refl _) (Nat.le_refl _) ?_
  have e9 : (f_67 I) = (I 0 15) := rfl
  rw [e9]
  exact ⟨rfl, rfl⟩

/-- CutFloor.spoilt()I  -/
def f_162 (I : Nat → Nat → Int32)  : Int32 := (I 0 16)
set_option maxHeartbeats 4000000 in
set_option maxRecDepth 100000 in
theorem a_162 (X : GX) (d : Nat) (hd : 0 ≤ d) (z : Nat) (kd : Nat → Nat × Nat) (I : Nat → Nat → Int32) (L : Nat → Nat → Int64) (Rf : Nat → Nat → Option Nat)  (hS : Sh z kd Rf)  : Ct X d 162 0 0 [.ref 0] (z, kd, I, L, Rf) (AI (fun r τ => r = (f_162 I) ∧ τ = (z, kd, I, L, Rf))) := by
  refine Ct_of mu_162 (Nat.le_of_ble_eq_true rfl) ?_
  show K X d 162 0 0 _ 0 [some (.ref 0)] [] (z, kd, I, L, Rf) 0 0
  refine K_of b_162_0 h_162_0 ?_
  refine q_aload rfl ?_
  refine q_getI (c0 := 11) (j := 16) rfl rfl (zl hS 0 (by decide)) (sk hS 0 (by decide) rfl) (Or.inl rfl) (by decide) ?_
  refine q_iret rfl (Nat.le_refl _) (Nat.le_refl _) ?_
  have e9 : (f_162 I) = (I 0 16) := rfl
  rw [e9]
  exact ⟨rfl, rfl⟩

/-- CutFloor.status()I  -/
def f_190 (I : Nat → Nat → Int32)  : Int32 := (I 0 18)
set_option maxHeartbeats 4000000 in
set_option maxRecDepth 100000 in
theorem a_190 (X : GX) (d : Nat) (hd : 0 ≤ d) (z : Nat) (kd : Nat → Nat × Nat) (I : Nat → Nat → Int32) (L : Nat → Nat → Int64) (Rf : Nat → Nat → Option Nat)  (hS : Sh z kd Rf)  : Ct X d 190 0 0 [.ref 0] (z, kd, I, L, Rf) (AI (fun r τ => r = (f_190 I) ∧ τ = (z, kd, I, L, Rf))) := by
  refine Ct_of mu_190 (Nat.le_of_ble_eq_true rfl) ?_
  show K X d 190 0 0 _ 0 [some (.ref 0)] [] (z, kd, I, L, Rf) 0 0
  refine K_of b_190_0 h_190_0 ?_
  refine q_aload rfl ?_
  refine q_getI (c0 := 11) (j := 18) rfl rfl (zl hS 0 (by decide)) (sk hS 0 (by decide) rfl) (Or.inl rfl) (by decide) ?_
  refine q_iret rfl (Nat.le_refl _) (Nat.le_refl _) ?_
  have e9 : (f_190 I) = (I 0 18) := rfl
  rw [e9]
  exact ⟨rfl, rfl⟩

/-- CutFloor$Planner.forgetWays()V  -/
def f_22 (I : Nat → Nat → Int32)  : (Nat → Nat → Int32) := (u2 I 24 13 (1 : Int32))
set_option maxHeartbeats 4000000 in
set_option maxRecDepth 100000 in
theorem a_22 (X : GX) (d : Nat) (hd : 0 ≤ d) (z : Nat) (kd : Nat → Nat × Nat) (I : Nat → Nat → Int32) (L : Nat → Nat → Int64) (Rf : Nat → Nat → Option Nat)  (hS : Sh z kd Rf)  : Ct X d 22 0 0 [.ref 24] (z, kd, I, L, Rf) (AV (fun τ => τ = (z, kd, (f_22 I), L, Rf))) := by
  refine Ct_of mu_22 (Nat.le_of_ble_eq_true rfl) ?_
  show K X d 22 0 0 _ 0 [some (.ref 24)] [] (z, kd, I, L, Rf) 0 0
  refine K_of b_22_0 h_22_0 ?_
  refine q_aload rfl ?_
  refine q_iconst (1) (by decide) ?_
  refine q_putZ (c0 := 7) (j := 13) rfl rfl (zl hS 24 (by decide)) (sk hS 24 (by decide) rfl) rfl (Or.inr rfl) ?_
  refine q_vret rfl (Nat.le_refl _) (Nat.le_refl _) ?_
  have e9 : (f_22 I) = (u2 I 24 13 (1 : Int32)) := rfl
  rw [e9]

/-- CutFloor$Planner.forgetPlans()V  -/
def f_25 (I : Nat → Nat → Int32)  : (Nat → Nat → Int32) := (u2 (u2 (u2 I 24 14 (1 : Int32)) 24 15 (1 : Int32)) 24 12 (((u2 (u2 I 24 14 (1 : Int32)) 24 15 (1 : Int32)) 24 12) + (1 : Int32)))
set_option maxHeartbeats 4000000 in
set_option maxRecDepth 100000 in
theorem a_25 (X : GX) (d : Nat) (hd : 0 ≤ d) (z : Nat) (kd : Nat → Nat × Nat) (I : Nat → Nat → Int32) (L : Nat → Nat → Int64) (Rf : Nat → Nat → Option Nat)  (hS : Sh z kd Rf)  : Ct X d 25 0 0 [.ref 24] (z, kd, I, L, Rf) (AV (fun τ => τ = (z, kd, (f_25 I), L, Rf))) := by
  refine Ct_of mu_25 (Nat.le_of_ble_eq_true rfl) ?_
  show K X d 25 0 0 _ 0 [some (.ref 24)] [] (z, kd, I, L, Rf) 0 0
  refine K_of b_25_0 h_25_0 ?_
  refine q_aload rfl ?_
  refine q_iconst (1) (by decide) ?_
  refine q_putZ (c0 := 7) (j := 14) rfl rfl (zl hS 24 (by decide)) (sk hS 24 (by decide) rfl) rfl (Or.inr rfl) ?_
  refine q_aload rfl ?_
  refine q_iconst (1) (by decide) ?_
  refine q_putZ (c0 := 7) (j := 15) rfl rfl (zl hS 24 (by decide)) (sk hS 24 (by decide) rfl) rfl (Or.inr rfl) ?_
  refine q_aload rfl ?_
  refine q_dup rfl ?_
  refine q_getI (c0 := 7) (j := 12) rfl rfl (zl hS 24 (by decide)) (sk hS 24 (by decide) rfl) (Or.inl rfl) (by decide) ?_
  refine q_iconst (1) (by decide) ?_
  refine q_iadd ?_
  refine q_putI (c0 := 7) (j := 12) rfl rfl (zl hS 24 (by decide)) (sk hS 24 (by decide) rfl) rfl ?_
  refine q_vret rfl (Nat.le_refl _) (Nat.le_refl _) ?_
  have e9 : (f_25 I) = (u2 (u2 (u2 I 24 14 (1 : Int32)) 24 15 (1 : Int32)) 24 12 (((u2 (u2 I 24 14 (1 : Int32)) 24 15 (1 : Int32)) 24 12) + (1 : Int32))) := rfl
  rw [e9]

/-- CutFloor$Planner.forgetFirst()V  -/
def f_17 (I : Nat → Nat → Int32)  : (Nat → Nat → Int32) := (u2 I 24 15 (1 : Int32))
set_option maxHeartbeats 4000000 in
set_option maxRecDepth 100000 in
theorem a_17 (X : GX) (d : Nat) (hd : 0 ≤ d) (z : Nat) (kd : Nat → Nat × Nat) (I : Nat → Nat → Int32) (L : Nat → Nat → Int64) (Rf : Nat → Nat → Option Nat)  (hS : Sh z kd Rf)  : Ct X d 17 0 0 [.ref 24] (z, kd, I, L, Rf) (AV (fun τ => τ = (z, kd, (f_17 I), L, Rf))) := by
  refine Ct_of mu_17 (Nat.le_of_ble_eq_true rfl) ?_
  show K X d 17 0 0 _ 0 [some (.ref 24)] [] (z, kd, I, L, Rf) 0 0
  refine K_of b_17_0 h_17_0 ?_
  refine q_aload rfl ?_
  refine q_iconst (1) (by decide) ?_
  refine q_putZ (c0 := 7) (j := 15) rfl rfl (zl hS 24 (by decide)) (sk hS 24 (by decide) rfl) rfl (Or.inr rfl) ?_
  refine q_vret rfl (Nat.le_refl _) (Nat.le_refl _) ?_
  have e9 : (f_17 I) = (u2 I 24 15 (1 : Int32)) := rfl
  rw [e9]

/-- CutFloor$Crew.forget()V  -/
def f_18 (I : Nat → Nat → Int32)  : (Nat → Nat → Int32) := (u2 (u2 I 73 15 (1 : Int32)) 73 16 (1 : Int32))
set_option maxHeartbeats 4000000 in
set_option maxRecDepth 100000 in
theorem a_18 (X : GX) (d : Nat) (hd : 0 ≤ d) (z : Nat) (kd : Nat → Nat × Nat) (I : Nat → Nat → Int32) (L : Nat → Nat → Int64) (Rf : Nat → Nat → Option Nat)  (hS : Sh z kd Rf)  : Ct X d 18 0 0 [.ref 73] (z, kd, I, L, Rf) (AV (fun τ => τ = (z, kd, (f_18 I), L, Rf))) := by
  refine Ct_of mu_18 (Nat.le_of_ble_eq_true rfl) ?_
  show K X d 18 0 0 _ 0 [some (.ref 73)] [] (z, kd, I, L, Rf) 0 0
  refine K_of b_18_0 h_18_0 ?_
  refine q_aload rfl ?_
  refine q_iconst (1) (by decide) ?_
  refine q_putZ (c0 := 1) (j := 15) rfl rfl (zl hS 73 (by decide)) (sk hS 73 (by decide) rfl) rfl (Or.inr rfl) ?_
  refine q_aload rfl ?_
  refine q_iconst (1) (by decide) ?_
  refine q_putZ (c0 := 1) (j := 16) rfl rfl (zl hS 73 (by decide)) (sk hS 73 (by decide) rfl) rfl (Or.inr rfl) ?_
  refine q_vret rfl (Nat.le_refl _) (Nat.le_refl _) ?_
  have e9 : (f_18 I) = (u2 (u2 I 73 15 (1 : Int32)) 73 16 (1 : Int32)) := rfl
  rw [e9]

/-- CutFloor$Mixer.forget()V  -/
def f_157 (I : Nat → Nat → Int32)  : (Nat → Nat → Int32) := (u2 I 81 11 (1 : Int32))
set_option maxHeartbeats 4000000 in
set_option maxRecDepth 100000 in
theorem a_157 (X : GX) (d : Nat) (hd : 0 ≤ d) (z : Nat) (kd : Nat → Nat × Nat) (I : Nat → Nat → Int32) (L : Nat → Nat → Int64) (Rf : Nat → Nat → Option Nat)  (hS : Sh z kd Rf)  : Ct X d 157 0 0 [.ref 81] (z, kd, I, L, Rf) (AV (fun τ => τ = (z, kd, (f_157 I), L, Rf))) := by
  refine Ct_of mu_157 (Nat.le_of_ble_eq_true rfl) ?_
  show K X d 157 0 0 _ 0 [some (.ref 81)] [] (z, kd, I, L, Rf) 0 0
  refine K_of b_157_0 h_157_0 ?_
  refine q_aload rfl ?_
  refine q_iconst (1) (by decide) ?_
  refine q_putZ (c0 := 5) (j := 11) rfl rfl (zl hS 81 (by decide)) (sk hS 81 (by decide) rfl) rfl (Or.inr rfl) ?_
  refine q_vret rfl (Nat.le_refl _) (Nat.le_refl _) ?_
  have e9 : (f_157 I) = (u2 I 81 11 (1 : Int32)) := rfl
  rw [e9]

/-- CutFloor.forgetWays()V  -/
def f_21 (I : Nat → Nat → Int32)  : (Nat → Nat → Int32) := (f_18 (f_22 I))
set_option maxHeartbeats 4000000 in
set_option maxRecDepth 100000 in
theorem a_21 (X : GX) (d : Nat) (hd : 1 ≤ d) (z : Nat) (kd : Nat → Nat × Nat) (I : Nat → Nat → Int32) (L : Nat → Nat → Int64) (Rf : Nat → Nat → Option Nat)  (hS : Sh z kd Rf)  : Ct X d 21 0 0 [.ref 0] (z, kd, I, L, Rf) (AV (fun τ => τ = (z, kd, (f_21 I), L, Rf))) := by
  refine Ct_of mu_21 (Nat.le_of_ble_eq_true rfl) ?_
  show K X d 21 0 0 _ 0 [some (.ref 0)] [] (z, kd, I, L, Rf) 0 0
  refine K_of b_21_0 h_21_0 ?_
  refine q_aload rfl ?_
  refine q_getRs (c0 := 11) (j := 3) rfl rfl (zl hS 0 (by decide)) (sk hS 0 (by decide) rfl) rfl (by decide) (r_0_3 hS) ?_
  refine q_fv1V (a_22 X (d - 1) (by omega) _ _ I L _  hS) (by omega) (Nat.le_refl _) (Nat.le_refl _) rfl (Nat.le_of_ble_eq_true rfl) ⟨(zl hS 24 (by decide)), (congrArg Prod.fst (sk hS 24 (by decide) rfl)), by decide⟩ ?_
  refine q_aload rfl ?_
  refine q_getRs (c0 := 11) (j := 4) rfl rfl (zl hS 0 (by decide)) (sk hS 0 (by decide) rfl) rfl (by decide) (r_0_4 hS) ?_
  refine q_fv1V (a_18 X (d - 1) (by omega) _ _ (f_22 I) L _  hS) (by omega) (Nat.le_refl _) (Nat.le_refl _) rfl (Nat.le_of_ble_eq_true rfl) ⟨(zl hS 73 (by decide)), (congrArg Prod.fst (sk hS 73 (by decide) rfl)), by decide⟩ ?_
  refine q_vret rfl (Nat.le_refl _) (Nat.le_refl _) ?_
  have e9 : (f_21 I) = (f_18 (f_22 I)) := rfl
  rw [e9]

/-- CutFloorModel.in(JJJ)Z  -/
def f_193 (x : Int64) (lo : Int64) (hi : Int64) : Int32 := (if (lg_cmp x lo) < 0 then (0 : Int32) else (if 0 < (lg_cmp x hi) then (0 : Int32) else (1 : Int32)))
set_option maxHeartbeats 4000000 in
set_option maxRecDepth 100000 in
theorem a_193 (X : GX) (d : Nat) (hd : 0 ≤ d) (z : Nat) (kd : Nat → Nat × Nat) (I : Nat → Nat → Int32) (L : Nat → Nat → Int64) (Rf : Nat → Nat → Option Nat) (x : Int64) (lo : Int64) (hi : Int64)   : Ct X d 193 0 0 [.long x, .long lo, .long hi] (z, kd, I, L, Rf) (AI (fun r τ => r = (f_193 x lo hi) ∧ τ = (z, kd, I, L, Rf))) := by
  refine Ct_of mu_193 (Nat.le_of_ble_eq_true rfl) ?_
  show K X d 193 0 0 _ 0 [some (.long x), none, some (.long lo), none, some (.long hi), none] [] (z, kd, I, L, Rf) 0 0
  refine K_of b_193_0 h_193_0 ?_
  refine q_lload rfl ?_
  refine q_lload rfl ?_
  refine q_lcmp ?_
  refine q_if_lt (fun c_3 => ?_) (fun c_3 => ?_)
  · refine K_of b_193_17 h_193_17 ?_
    refine q_iconst (0) (by decide) ?_
    refine q_end ?_
    refine K_of b_193_18 h_193_18 ?_
    refine q_iret rfl (Nat.le_refl _) (Nat.le_refl _) ?_
    have e9 : (f_193 x lo hi) = (0 : Int32) := (if_pos c_3).trans rfl
    rw [e9]
    exact ⟨rfl, rfl⟩
  · refine q_lload rfl ?_
    refine q_lload rfl ?_
    refine q_lcmp ?_
    refine q_if_gt (fun c_10 => ?_) (fun c_10 => ?_)
    · refine K_of b_193_17 h_193_17 ?_
      refine q_iconst (0) (by decide) ?_
      refine q_end ?_
      refine K_of b_193_18 h_193_18 ?_
      refine q_iret rfl (Nat.le_refl _) (Nat.le_refl _) ?_
      have e9 : (f_193 x lo hi) = (0 : Int32) := (if_neg c_3).trans ((if_pos c_10).trans rfl)
      rw [e9]
      exact ⟨rfl, rfl⟩
    · refine q_iconst (1) (by decide) ?_
      refine q_goto ?_
      refine K_of b_193_18 h_193_18 ?_
      refine q_iret rfl (Nat.le_refl _) (Nat.le_refl _) ?_
      have e9 : (f_193 x lo hi) = (1 : Int32) := (if_neg c_3).trans ((if_neg c_10).trans rfl)
      rw [e9]
      exact ⟨rfl, rfl⟩
theorem bz_193 (x : Int64) (lo : Int64) (hi : Int64) : (f_193 x lo hi) = 0 ∨ (f_193 x lo hi) = 1 := by
  unfold f_193
  repeat' split
  all_goals first | exact Or.inl rfl | exact Or.inr rfl 

/-- CutFloorModel.is(II)Z  -/
def f_287 (x : Int32) (k : Int32) : Int32 := (if ((x >>> (k &&& 31)) &&& (1 : Int32)) = (1 : Int32) then (1 : Int32) else (0 : Int32))
set_option maxHeartbeats 4000000 in
set_option maxRecDepth 100000 in
theorem a_287 (X : GX) (d : Nat) (hd : 0 ≤ d) (z : Nat) (kd : Nat → Nat × Nat) (I : Nat → Nat → Int32) (L : Nat → Nat → Int64) (Rf : Nat → Nat → Option Nat) (x : Int32) (k : Int32)   : Ct X d 287 0 0 [.int x, .int k] (z, kd, I, L, Rf) (AI (fun r τ => r = (f_287 x k) ∧ τ = (z, kd, I, L, Rf))) := by
  refine Ct_of mu_287 (Nat.le_of_ble_eq_true rfl) ?_
  show K X d 287 0 0 _ 0 [some (.int x), some (.int k)] [] (z, kd, I, L, Rf) 0 0
  refine K_of b_287_0 h_287_0 ?_
  refine q_iload rfl ?_
  refine q_iload rfl ?_
  refine q_ishr ?_
  refine q_iconst (1) (by decide) ?_
  refine q_iand ?_
  refine q_iconst (1) (by decide) ?_
  refine q_icmp_ne (fun c_6 => ?_) (fun c_6 => ?_)
  · refine K_of b_287_13 h_287_13 ?_
    refine q_iconst (0) (by decide) ?_
    refine q_end ?_
    refine K_of b_287_14 h_287_14 ?_
    refine q_iret rfl (Nat.le_refl _) (Nat.le_refl _) ?_
    have e9 : (f_287 x k) = (0 : Int32) := (if_neg c_6).trans rfl
    rw [e9]
    exact ⟨rfl, rfl⟩
  · refine q_iconst (1) (by decide) ?_
    refine q_goto ?_
    refine K_of b_287_14 h_287_14 ?_
    refine q_iret rfl (Nat.le_refl _) (Nat.le_refl _) ?_
    have e9 : (f_287 x k) = (1 : Int32) := (if_pos c_6).trans rfl
    rw [e9]
    exact ⟨rfl, rfl⟩
theorem bz_287 (x : Int32) (k : Int32) : (f_287 x k) = 0 ∨ (f_287 x k) = 1 := by
  unfold f_287
  repeat' split
  all_goals first | exact Or.inl rfl | exact Or.inr rfl 

/-- CutFloorModel.isClass(I)Z  -/
def f_197 (x : Int32) : Int32 := (f_193 (Int32.toInt64 x) (0 : Int64) (2 : Int64))
set_option maxHeartbeats 4000000 in
set_option maxRecDepth 100000 in
theorem a_197 (X : GX) (d : Nat) (hd : 1 ≤ d) (z : Nat) (kd : Nat → Nat × Nat) (I : Nat → Nat → Int32) (L : Nat → Nat → Int64) (Rf : Nat → Nat → Option Nat) (x : Int32)   : Ct X d 197 0 0 [.int x] (z, kd, I, L, Rf) (AI (fun r τ => r = (f_197 x) ∧ τ = (z, kd, I, L, Rf))) := by
  refine Ct_of mu_197 (Nat.le_of_ble_eq_true rfl) ?_
  show K X d 197 0 0 _ 0 [some (.int x)] [] (z, kd, I, L, Rf) 0 0
  refine K_of b_197_0 h_197_0 ?_
  refine q_iload rfl ?_
  refine q_i2l ?_
  refine q_lconst (0) (by decide) ?_
  refine q_lconst (2) (by decide) ?_
  refine q_fs3I (a_193 X (d - 1) (by omega) _ _ I L _ (Int32.toInt64 x) (0 : Int64) (2 : Int64)) (by omega) (Nat.le_refl _) (Nat.le_refl _) rfl (Nat.le_of_ble_eq_true rfl) ?_
  refine q_iret (narB (bz_193 (Int32.toInt64 x) (0 : Int64) (2 : Int64))) (Nat.le_refl _) (Nat.le_refl _) ?_
  have e9 : (f_197 x) = (f_193 (Int32.toInt64 x) (0 : Int64) (2 : Int64)) := rfl
  rw [e9]
  exact ⟨rfl, rfl⟩
theorem bz_197 (x : Int32) : (f_197 x) = 0 ∨ (f_197 x) = 1 := bz_193 _ _ _

/-- CutFloorModel.isPart(I)Z  -/
def f_202 (x : Int32) : Int32 := (f_193 (Int32.toInt64 x) (0 : Int64) (9 : Int64))
set_option maxHeartbeats 4000000 in
set_option maxRecDepth 100000 in
theorem a_202 (X : GX) (d : Nat) (hd : 1 ≤ d) (z : Nat) (kd : Nat → Nat × Nat) (I : Nat → Nat → Int32) (L : Nat → Nat → Int64) (Rf : Nat → Nat → Option Nat) (x : Int32)   : Ct X d 202 0 0 [.int x] (z, kd, I, L, Rf) (AI (fun r τ => r = (f_202 x) ∧ τ = (z, kd, I, L, Rf))) := by
  refine Ct_of mu_202 (Nat.le_of_ble_eq_true rfl) ?_
  show K X d 202 0 0 _ 0 [some (.int x)] [] (z, kd, I, L, Rf) 0 0
  refine K_of b_202_0 h_202_0 ?_
  refine q_iload rfl ?_
  refine q_i2l ?_
  refine q_lconst (0) (by decide) ?_
  refine q_lconst (9) (by decide) ?_
  refine q_fs3I (a_193 X (d - 1) (by omega) _ _ I L _ (Int32.toInt64 x) (0 : Int64) (9 : Int64)) (by omega) (Nat.le_refl _) (Nat.le_refl _) rfl (Nat.le_of_ble_eq_true rfl) ?_
  refine q_iret (narB (bz_193 (Int32.toInt64 x) (0 : Int64) (9 : Int64))) (Nat.le_refl _) (Nat.le_refl _) ?_
  have e9 : (f_202 x) = (f_193 (Int32.toInt64 x) (0 : Int64) (9 : Int64)) := rfl
  rw [e9]
  exact ⟨rfl, rfl⟩
theorem bz_202 (x : Int32) : (f_202 x) = 0 ∨ (f_202 x) = 1 := bz_193 _ _ _

/-- CutFloorModel.was(I)I  -/
def f_200 (I : Nat → Nat → Int32) (x : Int32) : Int32 × (Nat → Nat → Int32) := (x, (u2 (u2 (u2 I 105 1 (0 : Int32)) 105 32 (0 : Int32)) 105 51 (0 : Int32)))
set_option maxHeartbeats 4000000 in
set_option maxRecDepth 100000 in
theorem a_200 (X : GX) (d : Nat) (hd : 0 ≤ d) (z : Nat) (kd : Nat → Nat × Nat) (I : Nat → Nat → Int32) (L : Nat → Nat → Int64) (Rf : Nat → Nat → Option Nat) (x : Int32) (hS : Sh z kd Rf)  : Ct X d 200 0 0 [.ref 105, .int x] (z, kd, I, L, Rf) (AI (fun r τ => r = (f_200 I x).1 ∧ τ = (z, kd, (f_200 I x).2, L, Rf))) := by
  refine Ct_of mu_200 (Nat.le_of_ble_eq_true rfl) ?_
  show K X d 200 0 0 _ 0 [some (.ref 105), some (.int x)] [] (z, kd, I, L, Rf) 0 0
  refine K_of b_200_0 h_200_0 ?_
  refine q_aload rfl ?_
  refine q_iconst (0) (by decide) ?_
  refine q_putI (c0 := 12) (j := 1) rfl rfl (zl hS 105 (by decide)) (sk hS 105 (by decide) rfl) rfl ?_
  refine q_aload rfl ?_
  refine q_iconst (0) (by decide) ?_
  refine q_putZ (c0 := 12) (j := 32) rfl rfl (zl hS 105 (by decide)) (sk hS 105 (by decide) rfl) rfl (Or.inl rfl) ?_
  refine q_aload rfl ?_
  refine q_iconst (0) (by decide) ?_
  refine q_putZ (c0 := 12) (j := 51) rfl rfl (zl hS 105 (by decide)) (sk hS 105 (by decide) rfl) rfl (Or.inl rfl) ?_
  refine q_iload rfl ?_
  refine q_iret rfl (Nat.le_refl _) (Nat.le_refl _) ?_
  have e9 : (f_200 I x) = (x, (u2 (u2 (u2 I 105 1 (0 : Int32)) 105 32 (0 : Int32)) 105 51 (0 : Int32))) := rfl
  rw [e9]
  exact ⟨rfl, rfl⟩

/-- CutFloorModel.fault()I  -/
def f_211 (I : Nat → Nat → Int32)  : Int32 × (Nat → Nat → Int32) := (((u2 I 105 0 (0 : Int32)) 105 12), (u2 I 105 0 (0 : Int32)))
set_option maxHeartbeats 4000000 in
set_option maxRecDepth 100000 in
theorem a_211 (X : GX) (d : Nat) (hd : 0 ≤ d) (z : Nat) (kd : Nat → Nat × Nat) (I : Nat → Nat → Int32) (L : Nat → Nat → Int64) (Rf : Nat → Nat → Option Nat)  (hS : Sh z kd Rf)  : Ct X d 211 0 0 [.ref 105] (z, kd, I, L, Rf) (AI (fun r τ => r = (f_211 I).1 ∧ τ = (z, kd, (f_211 I).2, L, Rf))) := by
  refine Ct_of mu_211 (Nat.le_of_ble_eq_true rfl) ?_
  show K X d 211 0 0 _ 0 [some (.ref 105)] [] (z, kd, I, L, Rf) 0 0
  refine K_of b_211_0 h_211_0 ?_
  refine q_aload rfl ?_
  refine q_iconst (0) (by decide) ?_
  refine q_putI (c0 := 12) (j := 0) rfl rfl (zl hS 105 (by decide)) (sk hS 105 (by decide) rfl) rfl ?_
  refine q_aload rfl ?_
  refine q_getI (c0 := 12) (j := 12) rfl rfl (zl hS 105 (by decide)) (sk hS 105 (by decide) rfl) (Or.inl rfl) (by decide) ?_
  refine q_iret rfl (Nat.le_refl _) (Nat.le_refl _) ?_
  have e9 : (f_211 I) = (((u2 I 105 0 (0 : Int32)) 105 12), (u2 I 105 0 (0 : Int32))) := rfl
  rw [e9]
  exact ⟨rfl, rfl⟩

/-- CutFloorModel.spoilt()I  -/
def f_294 (I : Nat → Nat → Int32)  : Int32 × (Nat → Nat → Int32) := (((u2 I 105 0 (0 : Int32)) 105 63), (u2 I 105 0 (0 : Int32)))
set_option maxHeartbeats 4000000 in
set_option maxRecDepth 100000 in
theorem a_294 (X : GX) (d : Nat) (hd : 0 ≤ d) (z : Nat) (kd : Nat → Nat × Nat) (I : Nat → Nat → Int32) (L : Nat → Nat → Int64) (Rf : Nat → Nat → Option Nat)  (hS : Sh z kd Rf)  : Ct X d 294 0 0 [.ref 105] (z, kd, I, L, Rf) (AI (fun r τ => r = (f_294 I).1 ∧ τ = (z, kd, (f_294 I).2, L, Rf))) := by
  refine Ct_of mu_294 (Nat.le_of_ble_eq_true rfl) ?_
  show K X d 294 0 0 _ 0 [some (.ref 105)] [] (z, kd, I, L, Rf) 0 0
  refine K_of b_294_0 h_294_0 ?_
  refine q_aload rfl ?_
  refine q_iconst (0) (by decide) ?_
  refine q_putI (c0 := 12) (j := 0) rfl rfl (zl hS 105 (by decide)) (sk hS 105 (by decide) rfl) rfl ?_
  refine q_aload rfl ?_
  refine q_getI (c0 := 12) (j := 63) rfl rfl (zl hS 105 (by decide)) (sk hS 105 (by decide) rfl) (Or.inl rfl) (by decide) ?_
  refine q_iret rfl (Nat.le_refl _) (Nat.le_refl _) ?_
  have e9 : (f_294 I) = (((u2 I 105 0 (0 : Int32)) 105 63), (u2 I 105 0 (0 : Int32))) := rfl
  rw [e9]
  exact ⟨rfl, rfl⟩

/-- CutFloorModel.status()I  -/
def f_305 (I : Nat → Nat → Int32)  : Int32 × (Nat → Nat → Int32) := (((u2 I 105 0 (0 : Int32)) 105 1), (u2 I 105 0 (0 : Int32)))
set_option maxHeartbeats 4000000 in
set_option maxRecDepth 100000 in
theorem a_305 (X : GX) (d : Nat) (hd : 0 ≤ d) (z : Nat) (kd : Nat → Nat × Nat) (I : Nat → Nat → Int32) (L : Nat → Nat → Int64) (Rf : Nat → Nat → Option Nat)  (hS : Sh z kd Rf)  : Ct X d 305 0 0 [.ref 105] (z, kd, I, L, Rf) (AI (fun r τ => r = (f_305 I).1 ∧ τ = (z, kd, (f_305 I).2, L, Rf))) := by
  refine Ct_of mu_305 (Nat.le_of_ble_eq_true rfl) ?_
  show K X d 305 0 0 _ 0 [some (.ref 105)] [] (z, kd, I, L, Rf) 0 0
  refine K_of b_305_0 h_305_0 ?_
  refine q_aload rfl ?_
  refine q_iconst (0) (by decide) ?_
  refine q_putI (c0 := 12) (j := 0) rfl rfl (zl hS 105 (by decide)) (sk hS 105 (by decide) rfl) rfl ?_
  refine q_aload rfl ?_
  refine q_getI (c0 := 12) (j := 1) rfl rfl (zl hS 105 (by decide)) (sk hS 105 (by decide) rfl) (Or.inl rfl) (by decide) ?_
  refine q_iret rfl (Nat.le_refl _) (Nat.le_refl _) ?_
  have e9 : (f_305 I) = (((u2 I 105 0 (0 : Int32)) 105 1), (u2 I 105 0 (0 : Int32))) := rfl
  rw [e9]
  exact ⟨rfl, rfl⟩

