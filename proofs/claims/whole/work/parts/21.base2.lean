/-! numbers within bounds -/
theorem wi_in {x lo hi : Int32} (h : ¬ f_14 x lo hi = 0) : lo ≤ x ∧ x ≤ hi := by
  unfold f_14 at h
  by_cases h1 : x < lo
  · rw [if_pos h1] at h; exact absurd rfl h
  · rw [if_neg h1] at h
    by_cases h2 : hi < x
    · rw [if_pos h2] at h; exact absurd rfl h
    · exact ⟨Int32.not_lt.mp h1, Int32.not_lt.mp h2⟩
theorem wi_out {x lo hi : Int32} (h : f_14 x lo hi = 0) : ¬ (lo ≤ x ∧ x ≤ hi) := by
  unfold f_14 at h
  intro q
  rw [if_neg (Int32.not_lt.mpr q.1), if_neg (Int32.not_lt.mpr q.2)] at h
  cases h
theorem wi_iff (x lo hi : Int32) : f_14 x lo hi = if lo ≤ x ∧ x ≤ hi then 1 else 0 := by
  by_cases h : lo ≤ x ∧ x ≤ hi
  · rw [if_pos h]
    unfold f_14
    rw [if_neg (Int32.not_lt.mpr h.1), if_neg (Int32.not_lt.mpr h.2)]
  · rw [if_neg h]
    rcases bz_14 x lo hi with q | q
    · exact q
    · exact absurd (wi_in (by rw [q]; decide)) h
theorem i0_ti {x : Int32} (h : 0 ≤ x) : 0 ≤ x.toInt := by simpa using Int32.le_iff_toInt_le.mp h
theorem nx {x : Int32} (h : 0 ≤ x) : x = nI x.toNatClampNeg := by
  obtain ⟨j, hj, rfl⟩ := nI_of (Int32.not_lt.mpr h)
  rw [nI_clamp hj]
theorem nxl {x hi : Int32} {n : Nat} (h0 : 0 ≤ x) (h : x ≤ hi) (e : hi.toInt < n) : x.toNatClampNeg < n := by
  have h1 := i0_ti h0
  have h2 := Int32.le_iff_toInt_le.mp h
  show x.toInt.toNat < n
  omega
theorem lg_le (x y : Int64) : (lg_cmp x y < 0) ↔ x < y := by
  unfold lg_cmp
  by_cases h1 : x > y
  · rw [if_pos h1]
    exact ⟨fun h => absurd h (by decide), fun h => absurd h (by have h2 : y < x := h1; exact Int64.not_lt.mpr (Int64.le_of_lt h2))⟩
  · rw [if_neg h1]
    by_cases h2 : x = y
    · rw [if_pos h2]
      exact ⟨fun h => absurd h (by decide), fun h => by rw [h2] at h; exact absurd h (Int64.lt_irrefl)⟩
    · rw [if_neg h2]
      refine ⟨fun _ => ?_, fun _ => by decide⟩
      rcases Int64.lt_or_eq_of_le (Int64.not_lt.mp h1) with q | q
      · exact q
      · exact absurd q h2
/-- CutFloor.refuse(I)I  -/
def f_15 (I : Nat → Nat → Int32) (x : Int32) : Int32 × (Nat → Nat → Int32) := (if x < (-3 : Int32) then (if (f_14 ((-2 : Int32) - x) (0 : Int32) ((nI 5) - (1 : Int32))) = 0 then (x, (u2 I 0 18 x)) else (x, (u2 (u2 I 0 18 x) 92 ((((-2 : Int32) - x)).toNatClampNeg) (((u2 I 0 18 x) 92 ((((-2 : Int32) - x)).toNatClampNeg)) + (1 : Int32))))) else (if (f_14 ((-1 : Int32) - x) (0 : Int32) ((nI 5) - (1 : Int32))) = 0 then (x, (u2 I 0 18 x)) else (x, (u2 (u2 I 0 18 x) 92 ((((-1 : Int32) - x)).toNatClampNeg) (((u2 I 0 18 x) 92 ((((-1 : Int32) - x)).toNatClampNeg)) + (1 : Int32))))))
set_option maxHeartbeats 4000000 in
set_option maxRecDepth 100000 in
theorem a_15 (X : GX) (d : Nat) (hd : 1 ≤ d) (z : Nat) (kd : Nat → Nat × Nat) (I : Nat → Nat → Int32) (L : Nat → Nat → Int64) (Rf : Nat → Nat → Option Nat) (x : Int32) (hS : Sh z kd Rf)  : Ct X d 15 0 0 [.ref 0, .int x] (z, kd, I, L, Rf) (AI (fun r τ => r = (f_15 I x).1 ∧ τ = (z, kd, (f_15 I x).2, L, Rf))) := by
  refine Ct_of mu_15 (Nat.le_of_ble_eq_true rfl) ?_
  show K X d 15 0 0 _ 0 [some (.ref 0), some (.int x), none] [] (z, kd, I, L, Rf) 0 0
  refine K_of b_15_0 h_15_0 ?_
  refine q_aload rfl ?_
  refine q_iload rfl ?_
  refine q_putI (c0 := 11) (j := 18) rfl rfl (zl hS 0 (by decide)) (sk hS 0 (by decide) rfl) rfl ?_
  refine q_iload rfl ?_
  refine q_iconst (-3) (by decide) ?_
  refine q_icmp_lt (fun c_8 => ?_) (fun c_8 => ?_)
  · refine K_of b_15_17 h_15_17 ?_
    refine q_iconst (-2) (by decide) ?_
    refine q_iload rfl ?_
    refine q_isub ?_
    refine q_end ?_
    refine K_of b_15_21 h_15_21 ?_
    refine q_istore (Nat.le_of_ble_eq_true rfl) rfl ?_
    refine q_iload rfl ?_
    refine q_iconst (0) (by decide) ?_
    refine q_aload rfl ?_
    refine q_getRs (c0 := 11) (j := 10) rfl rfl (zl hS 0 (by decide)) (sk hS 0 (by decide) rfl) rfl (by decide) (r_0_10 hS) ?_
    refine q_alen (zl hS 92 (by decide)) (sk hS 92 (by decide) rfl) (by decide) (by decide) ?_
    refine q_iconst (1) (by decide) ?_
    refine q_isub ?_
    refine q_fs3I (a_14 X (d - 1) (by omega) _ _ (u2 I 0 18 x) L _ ((-2 : Int32) - x) (0 : Int32) ((nI 5) - (1 : Int32))) (by omega) (Nat.le_refl _) (Nat.le_refl _) rfl (Nat.le_of_ble_eq_true rfl) ?_
    refine q_if_eq (fun c_34 => ?_) (fun c_34 => ?_)
    · refine K_of b_15_47 h_15_47 ?_
      refine q_iload rfl ?_
      refine q_iret rfl (Nat.le_refl _) (Nat.le_refl _) ?_
      have e9 : (f_15 I x) = (x, (u2 I 0 18 x)) := (if_pos c_8).trans ((if_pos c_34).trans rfl)
      rw [e9]
      exact ⟨rfl, rfl⟩
    · refine q_aload rfl ?_
      refine q_getRs (c0 := 11) (j := 10) rfl rfl (zl hS 0 (by decide)) (sk hS 0 (by decide) rfl) rfl (by decide) (r_0_10 hS) ?_
      refine q_iload rfl ?_
      refine q_dup2 rfl rfl ?_
      refine q_ialN ((((-2 : Int32) - x)).toNatClampNeg) (nx (wi_in c_34).1) (zl hS 92 (by decide)) (sk hS 92 (by decide) rfl) (nxl (wi_in c_34).1 (wi_in c_34).2 (by decide)) (by decide) ?_
      refine q_iconst (1) (by decide) ?_
      refine q_iadd ?_
      refine q_iasN ((((-2 : Int32) - x)).toNatClampNeg) (nx (wi_in c_34).1) (zl hS 92 (by decide)) (sk hS 92 (by decide) rfl) (nxl (wi_in c_34).1 (wi_in c_34).2 (by decide)) (by decide) ?_
      refine q_end ?_
      refine K_of b_15_47 h_15_47 ?_
      refine q_iload rfl ?_
      refine q_iret rfl (Nat.le_refl _) (Nat.le_refl _) ?_
      have e9 : (f_15 I x) = (x, (u2 (u2 I 0 18 x) 92 ((((-2 : Int32) - x)).toNatClampNeg) (((u2 I 0 18 x) 92 ((((-2 : Int32) - x)).toNatClampNeg)) + (1 : Int32)))) := (if_pos c_8).trans ((if_neg c_34).trans rfl)
      rw [e9]
      exact ⟨rfl, rfl⟩
  · refine q_iconst (-1) (by decide) ?_
    refine q_iload rfl ?_
    refine q_isub ?_
    refine q_goto ?_
    refine K_of b_15_21 h_15_21 ?_
    refine q_istore (Nat.le_of_ble_eq_true rfl) rfl ?_
    refine q_iload rfl ?_
    refine q_iconst (0) (by decide) ?_
    refine q_aload rfl ?_
    refine q_getRs (c0 := 11) (j := 10) rfl rfl (zl hS 0 (by decide)) (sk hS 0 (by decide) rfl) rfl (by decide) (r_0_10 hS) ?_
    refine q_alen (zl hS 92 (by decide)) (sk hS 92 (by decide) rfl) (by decide) (by decide) ?_
    refine q_iconst (1) (by decide) ?_
    refine q_isub ?_
    refine q_fs3I (a_14 X (d - 1) (by omega) _ _ (u2 I 0 18 x) L _ ((-1 : Int32) - x) (0 : Int32) ((nI 5) - (1 : Int32))) (by omega) (Nat.le_refl _) (Nat.le_refl _) rfl (Nat.le_of_ble_eq_true rfl) ?_
    refine q_if_eq (fun c_34 => ?_) (fun c_34 => ?_)
    · refine K_of b_15_47 h_15_47 ?_
      refine q_iload rfl ?_
      refine q_iret rfl (Nat.le_refl _) (Nat.le_refl _) ?_
      have e9 : (f_15 I x) = (x, (u2 I 0 18 x)) := (if_neg c_8).trans ((if_pos c_34).trans rfl)
      rw [e9]
      exact ⟨rfl, rfl⟩
    · refine q_aload rfl ?_
      refine q_getRs (c0 := 11) (j := 10) rfl rfl (zl hS 0 (by decide)) (sk hS 0 (by decide) rfl) rfl (by decide) (r_0_10 hS) ?_
      refine q_iload rfl ?_
      refine q_dup2 rfl rfl ?_
      refine q_ialN ((((-1 : Int32) - x)).toNatClampNeg) (nx (wi_in c_34).1) (zl hS 92 (by decide)) (sk hS 92 (by decide) rfl) (nxl (wi_in c_34).1 (wi_in c_34).2 (by decide)) (by decide) ?_
      refine q_iconst (1) (by decide) ?_
      refine q_iadd ?_
      refine q_iasN ((((-1 : Int32) - x)).toNatClampNeg) (nx (wi_in c_34).1) (zl hS 92 (by decide)) (sk hS 92 (by decide) rfl) (nxl (wi_in c_34).1 (wi_in c_34).2 (by decide)) (by decide) ?_
      refine q_end ?_
      refine K_of b_15_47 h_15_47 ?_
      refine q_iload rfl ?_
      refine q_iret rfl (Nat.le_refl _) (Nat.le_refl _) ?_
      have e9 : (f_15 I x) = (x, (u2 (u2 I 0 18 x) 92 ((((-1 : Int32) - x)).toNatClampNeg) (((u2 I 0 18 x) 92 ((((-1 : Int32) - x)).toNatClampNeg)) + (1 : Int32)))) := (if_neg c_8).trans ((if_neg c_34).trans rfl)
      rw [e9]
      exact ⟨rfl, rfl⟩

/-- CutFloor$Hall.allCarcasses()I  -/
def f_16 (I : Nat → Nat → Int32)  : Int32 := (((I 2 (0)) + (I 2 (1))) + (I 2 (2)))
set_option maxHeartbeats 4000000 in
set_option maxRecDepth 100000 in
theorem a_16 (X : GX) (d : Nat) (hd : 0 ≤ d) (z : Nat) (kd : Nat → Nat × Nat) (I : Nat → Nat → Int32) (L : Nat → Nat → Int64) (Rf : Nat → Nat → Option Nat)  (hS : Sh z kd Rf)  : Ct X d 16 0 0 [.ref 1] (z, kd, I, L, Rf) (AI (fun r τ => r = (f_16 I) ∧ τ = (z, kd, I, L, Rf))) := by
  refine Ct_of mu_16 (Nat.le_of_ble_eq_true rfl) ?_
  show K X d 16 0 0 _ 0 [some (.ref 1)] [] (z, kd, I, L, Rf) 0 0
  refine K_of b_16_0 h_16_0 ?_
  refine q_aload rfl ?_
  refine q_getRs (c0 := 3) (j := 0) rfl rfl (zl hS 1 (by decide)) (sk hS 1 (by decide) rfl) rfl (by decide) (r_1_0 hS) ?_
  refine q_iconst (0) (by decide) ?_
  refine q_ialN (0) rfl (zl hS 2 (by decide)) (sk hS 2 (by decide) rfl) (by decide) (by decide) ?_
  refine q_aload rfl ?_
  refine q_getRs (c0 := 3) (j := 0) rfl rfl (zl hS 1 (by decide)) (sk hS 1 (by decide) rfl) rfl (by decide) (r_1_0 hS) ?_
  refine q_iconst (1) (by decide) ?_
  refine q_ialN (1) rfl (zl hS 2 (by decide)) (sk hS 2 (by decide) rfl) (by decide) (by decide) ?_
  refine q_iadd ?_
  refine q_aload rfl ?_
  refine q_getRs (c0 := 3) (j := 0) rfl rfl (zl hS 1 (by decide)) (sk hS 1 (by decide) rfl) rfl (by decide) (r_1_0 hS) ?_
  refine q_iconst (2) (by decide) ?_
  refine q_ialN (2) rfl (zl hS 2 (by decide)) (sk hS 2 (by decide) rfl) (by decide) (by decide) ?_
  refine q_iadd ?_
  refine q_iret rfl (Nat.le_refl _) (Nat.le_refl _) ?_
  have e9 : (f_16 I) = (((I 2 (0)) + (I 2 (1))) + (I 2 (2))) := rfl
  rw [e9]
  exact ⟨rfl, rfl⟩

/-- CutFloor.carcasses(II)I  -/
def f_13 (I : Nat → Nat → Int32) (c0 : Int32) (n0 : Int32) : Int32 × (Nat → Nat → Int32) := (if (f_14 c0 (0 : Int32) (2 : Int32)) = 0 then ((f_15 I (-1 : Int32)).1, (f_15 I (-1 : Int32)).2) else (if (f_14 n0 (0 : Int32) (8 : Int32)) = 0 then ((f_15 I (-1 : Int32)).1, (f_15 I (-1 : Int32)).2) else (if (((f_16 I) - (I 2 ((c0).toNatClampNeg))) + n0) ≤ (8 : Int32) then ((f_19 (f_18 (f_17 (u2 I 2 ((c0).toNatClampNeg) n0))) (I 2 ((c0).toNatClampNeg))).1, (f_19 (f_18 (f_17 (u2 I 2 ((c0).toNatClampNeg) n0))) (I 2 ((c0).toNatClampNeg))).2) else ((f_15 I (-3 : Int32)).1, (f_15 I (-3 : Int32)).2))))
set_option maxHeartbeats 4000000 in
set_option maxRecDepth 100000 in
theorem a_13 (X : GX) (d : Nat) (hd : 2 ≤ d) (z : Nat) (kd : Nat → Nat × Nat) (I : Nat → Nat → Int32) (L : Nat → Nat → Int64) (Rf : Nat → Nat → Option Nat) (c0 : Int32) (n0 : Int32) (hS : Sh z kd Rf)  : Ct X d 13 0 0 [.ref 0, .int c0, .int n0] (z, kd, I, L, Rf) (AI (fun r τ => r = (f_13 I c0 n0).1 ∧ τ = (z, kd, (f_13 I c0 n0).2, L, Rf))) := by
  refine Ct_of mu_13 (Nat.le_of_ble_eq_true rfl) ?_
  show K X d 13 0 0 _ 0 [some (.ref 0), some (.int c0), some (.int n0), none] [] (z, kd, I, L, Rf) 0 0
  refine K_of b_13_0 h_13_0 ?_
  refine q_iload rfl ?_
  refine q_iconst (0) (by decide) ?_
  refine q_iconst (2) (by decide) ?_
  refine q_fs3I (a_14 X (d - 1) (by omega) _ _ I L _ c0 (0 : Int32) (2 : Int32)) (by omega) (Nat.le_refl _) (Nat.le_refl _) rfl (Nat.le_of_ble_eq_true rfl) ?_
  refine q_if_eq (fun c_6 => ?_) (fun c_6 => ?_)
  · refine K_of b_13_19 h_13_19 ?_
    refine q_aload rfl ?_
    refine q_iconst (-1) (by decide) ?_
    refine q_fv2I (a_15 X (d - 1) (by omega) _ _ I L _ (-1 : Int32) hS) (by omega) (Nat.le_refl _) (Nat.le_refl _) rfl (Nat.le_of_ble_eq_true rfl) ⟨(zl hS 0 (by decide)), (congrArg Prod.fst (sk hS 0 (by decide) rfl)), by decide⟩ ?_
    refine q_iret rfl (Nat.le_refl _) (Nat.le_refl _) ?_
    have e9 : (f_13 I c0 n0) = ((f_15 I (-1 : Int32)).1, (f_15 I (-1 : Int32)).2) := (if_pos c_6).trans rfl
    rw [e9]
    exact ⟨rfl, rfl⟩
  · refine q_iload rfl ?_
    refine q_iconst (0) (by decide) ?_
    refine q_iconst (8) (by decide) ?_
    refine q_fs3I (a_14 X (d - 1) (by omega) _ _ I L _ n0 (0 : Int32) (8 : Int32)) (by omega) (Nat.le_refl _) (Nat.le_refl _) rfl (Nat.le_of_ble_eq_true rfl) ?_
    refine q_if_ne (fun c_16 => ?_) (fun c_16 => ?_)
    · refine K_of b_13_25 h_13_25 ?_
      refine q_aload rfl ?_
      refine q_getRs (c0 := 11) (j := 0) rfl rfl (zl hS 0 (by decide)) (sk hS 0 (by decide) rfl) rfl (by decide) (r_0_0 hS) ?_
      refine q_getRs (c0 := 3) (j := 0) rfl rfl (zl hS 1 (by decide)) (sk hS 1 (by decide) rfl) rfl (by decide) (r_1_0 hS) ?_
      refine q_iload rfl ?_
      refine q_ialN ((c0).toNatClampNeg) (nx (wi_in c_6).1) (zl hS 2 (by decide)) (sk hS 2 (by decide) rfl) (nxl (wi_in c_6).1 (wi_in c_6).2 (by decide)) (by decide) ?_
      refine q_istore (Nat.le_of_ble_eq_true rfl) rfl ?_
      refine q_aload rfl ?_
      refine q_getRs (c0 := 11) (j := 0) rfl rfl (zl hS 0 (by decide)) (sk hS 0 (by decide) rfl) rfl (by decide) (r_0_0 hS) ?_
      refine q_fv1I (a_16 X (d - 1) (by omega) _ _ I L _  hS) (by omega) (Nat.le_refl _) (Nat.le_refl _) rfl (Nat.le_of_ble_eq_true rfl) ⟨(zl hS 1 (by decide)), (congrArg Prod.fst (sk hS 1 (by decide) rfl)), by decide⟩ ?_
      refine q_iload rfl ?_
      refine q_isub ?_
      refine q_iload rfl ?_
      refine q_iadd ?_
      refine q_iconst (8) (by decide) ?_
      refine q_icmp_le (fun c_48 => ?_) (fun c_48 => ?_)
      · refine K_of b_13_58 h_13_58 ?_
        refine q_aload rfl ?_
        refine q_getRs (c0 := 11) (j := 0) rfl rfl (zl hS 0 (by decide)) (sk hS 0 (by decide) rfl) rfl (by decide) (r_0_0 hS) ?_
        refine q_getRs (c0 := 3) (j := 0) rfl rfl (zl hS 1 (by decide)) (sk hS 1 (by decide) rfl) rfl (by decide) (r_1_0 hS) ?_
        refine q_iload rfl ?_
        refine q_iload rfl ?_
        refine q_iasN ((c0).toNatClampNeg) (nx (wi_in c_6).1) (zl hS 2 (by decide)) (sk hS 2 (by decide) rfl) (nxl (wi_in c_6).1 (wi_in c_6).2 (by decide)) (by decide) ?_
        refine q_aload rfl ?_
        refine q_getRs (c0 := 11) (j := 3) rfl rfl (zl hS 0 (by decide)) (sk hS 0 (by decide) rfl) rfl (by decide) (r_0_3 hS) ?_
        refine q_fv1V (a_17 X (d - 1) (by omega) _ _ (u2 I 2 ((c0).toNatClampNeg) n0) L _  hS) (by omega) (Nat.le_refl _) (Nat.le_refl _) rfl (Nat.le_of_ble_eq_true rfl) ⟨(zl hS 24 (by decide)), (congrArg Prod.fst (sk hS 24 (by decide) rfl)), by decide⟩ ?_
        refine q_aload rfl ?_
        refine q_getRs (c0 := 11) (j := 4) rfl rfl (zl hS 0 (by decide)) (sk hS 0 (by decide) rfl) rfl (by decide) (r_0_4 hS) ?_
        refine q_fv1V (a_18 X (d - 1) (by omega) _ _ (f_17 (u2 I 2 ((c0).toNatClampNeg) n0)) L _  hS) (by omega) (Nat.le_refl _) (Nat.le_refl _) rfl (Nat.le_of_ble_eq_true rfl) ⟨(zl hS 73 (by decide)), (congrArg Prod.fst (sk hS 73 (by decide) rfl)), by decide⟩ ?_
        refine q_aload rfl ?_
        refine q_iload rfl ?_
        refine q_fv2I (a_19 X (d - 1) (by omega) _ _ (f_18 (f_17 (u2 I 2 ((c0).toNatClampNeg) n0))) L _ (I 2 ((c0).toNatClampNeg)) hS) (by omega) (Nat.le_refl _) (Nat.le_refl _) rfl (Nat.le_of_ble_eq_true rfl) ⟨(zl hS 0 (by decide)), (congrArg Prod.fst (sk hS 0 (by decide) rfl)), by decide⟩ ?_
        refine q_iret rfl (Nat.le_refl _) (Nat.le_refl _) ?_
        have e9 : (f_13 I c0 n0) = ((f_19 (f_18 (f_17 (u2 I 2 ((c0).toNatClampNeg) n0))) (I 2 ((c0).toNatClampNeg))).1, (f_19 (f_18 (f_17 (u2 I 2 ((c0).toNatClampNeg) n0))) (I 2 ((c0).toNatClampNeg))).2) := (if_neg c_6).trans ((if_neg c_16).trans ((if_pos c_48).trans rfl))
        rw [e9]
        exact ⟨rfl, rfl⟩
      · refine q_aload rfl ?_
        refine q_iconst (-3) (by decide) ?_
        refine q_fv2I (a_15 X (d - 1) (by omega) _ _ I L _ (-3 : Int32) hS) (by omega) (Nat.le_refl _) (Nat.le_refl _) rfl (Nat.le_of_ble_eq_true rfl) ⟨(zl hS 0 (by decide)), (congrArg Prod.fst (sk hS 0 (by decide) rfl)), by decide⟩ ?_
        refine q_iret rfl (Nat.le_refl _) (Nat.le_refl _) ?_
        have e9 : (f_13 I c0 n0) = ((f_15 I (-3 : Int32)).1, (f_15 I (-3 : Int32)).2) := (if_neg c_6).trans ((if_neg c_16).trans ((if_neg c_48).trans rfl))
        rw [e9]
        exact ⟨rfl, rfl⟩
    · refine q_end ?_
      refine K_of b_13_19 h_13_19 ?_
      refine q_aload rfl ?_
      refine q_iconst (-1) (by decide) ?_
      refine q_fv2I (a_15 X (d - 1) (by omega) _ _ I L _ (-1 : Int32) hS) (by omega) (Nat.le_refl _) (Nat.le_refl _) rfl (Nat.le_of_ble_eq_true rfl) ⟨(zl hS 0 (by decide)), (congrArg Prod.fst (sk hS 0 (by decide) rfl)), by decide⟩ ?_
      refine q_iret rfl (Nat.le_refl _) (Nat.le_refl _) ?_
      have e9 : (f_13 I c0 n0) = ((f_15 I (-1 : Int32)).1, (f_15 I (-1 : Int32)).2) := (if_neg c_6).trans ((if_pos c_16).trans rfl)
      rw [e9]
      exact ⟨rfl, rfl⟩

