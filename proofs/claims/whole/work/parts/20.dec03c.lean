/-! 105 CutFloor$Planner.layOut(III)I -/
def g_105 : Nat → Nat → EN → Nat → (Nat → Nat → Int32) → (Nat → Nat → Int64) → Int32 → Int32 → Int32 → Int32 → Int32 →  Option (Int32 × (Nat → Nat → Int32) × (Nat → Nat → Int64))
  | 0, _, _, _, _, _, _, _, _, _, _ => none
  | n + 1, dp, e, lab, I, L, i1, i2, i3, i4, i5 =>
    if lab = 0 then (if 1 ≤ dp then (stI (if (8 : Int32) < ((i1 + i2) + i3) then (8 : Int32) else ((i1 + i2) + i3)) (fun v_10 => (g_105 n dp e 1 I L i1 i2 i3 v_10 (0 : Int32)))) else none)
    else if lab = 1 then (if i4 ≤ i5 then (some (i4, I, L)) else (if i3 ≤ i5 then (if (i3 + i2) ≤ i5 then (if 0 ≤ i5 ∧ (Int32.toNatClampNeg i5) < 8 then (stI (u2 I 54 (Int32.toNatClampNeg i5) (0 : Int32)) (fun I_51 => (g_105 n dp e 1 I_51 L i1 i2 i3 i4 (i5 + Int32.ofInt (1))))) else none) else (if 0 ≤ i5 ∧ (Int32.toNatClampNeg i5) < 8 then (stI (u2 I 54 (Int32.toNatClampNeg i5) (1 : Int32)) (fun I_51 => (g_105 n dp e 1 I_51 L i1 i2 i3 i4 (i5 + Int32.ofInt (1))))) else none)) else (if 0 ≤ i5 ∧ (Int32.toNatClampNeg i5) < 8 then (stI (u2 I 54 (Int32.toNatClampNeg i5) (2 : Int32)) (fun I_51 => (g_105 n dp e 1 I_51 L i1 i2 i3 i4 (i5 + Int32.ofInt (1))))) else none)))
    else none
set_option maxRecDepth 100000 in
theorem e_105_0 (n dp : Nat) (e : EN) (I : (Nat → Nat → Int32)) (L : (Nat → Nat → Int64)) (i1 : Int32) (i2 : Int32) (i3 : Int32) (i4 : Int32) (i5 : Int32) : g_105 (n + 1) dp e 0 I L i1 i2 i3 i4 i5 = (if 1 ≤ dp then (stI (if (8 : Int32) < ((i1 + i2) + i3) then (8 : Int32) else ((i1 + i2) + i3)) (fun v_10 => (g_105 n dp e 1 I L i1 i2 i3 v_10 (0 : Int32)))) else none) := by rw [g_105.eq_2, if_pos (show (0 : Nat) = 0 from rfl)]
set_option maxRecDepth 100000 in
theorem e_105_1 (n dp : Nat) (e : EN) (I : (Nat → Nat → Int32)) (L : (Nat → Nat → Int64)) (i1 : Int32) (i2 : Int32) (i3 : Int32) (i4 : Int32) (i5 : Int32) : g_105 (n + 1) dp e 1 I L i1 i2 i3 i4 i5 = (if i4 ≤ i5 then (some (i4, I, L)) else (if i3 ≤ i5 then (if (i3 + i2) ≤ i5 then (if 0 ≤ i5 ∧ (Int32.toNatClampNeg i5) < 8 then (stI (u2 I 54 (Int32.toNatClampNeg i5) (0 : Int32)) (fun I_51 => (g_105 n dp e 1 I_51 L i1 i2 i3 i4 (i5 + Int32.ofInt (1))))) else none) else (if 0 ≤ i5 ∧ (Int32.toNatClampNeg i5) < 8 then (stI (u2 I 54 (Int32.toNatClampNeg i5) (1 : Int32)) (fun I_51 => (g_105 n dp e 1 I_51 L i1 i2 i3 i4 (i5 + Int32.ofInt (1))))) else none)) else (if 0 ≤ i5 ∧ (Int32.toNatClampNeg i5) < 8 then (stI (u2 I 54 (Int32.toNatClampNeg i5) (2 : Int32)) (fun I_51 => (g_105 n dp e 1 I_51 L i1 i2 i3 i4 (i5 + Int32.ofInt (1))))) else none))) := by rw [g_105.eq_2, if_neg (show ¬ ((1 : Nat) = 0) by decide), if_pos (show (1 : Nat) = 1 from rfl)]
set_option maxHeartbeats 8000000 in
set_option maxRecDepth 100000 in
theorem w_105 (X : GX) {z : Nat} {kd : Nat → Nat × Nat} {Rf : Nat → Nat → Option Nat} (hS : Sh z kd Rf) : ∀ (n dp d : Nat), dp ≤ d → ∀ (I : (Nat → Nat → Int32)) (L : (Nat → Nat → Int64)) (i1 : Int32) (i2 : Int32) (i3 : Int32) (i4 : Int32) (i5 : Int32) (r : Int32) (I1 : (Nat → Nat → Int32)) (L1 : (Nat → Nat → Int64)), (g_105 n dp (z, kd, Rf) 0 I L i1 i2 i3 i4 i5 = some (r, I1, L1) → K X d 105 0 0 (AI (fun x τ => x = r ∧ τ = (z, kd, I1, L1, Rf))) 0 [some (.ref 24), some (.int i1), some (.int i2), some (.int i3), none, none] [] (z, kd, I, L, Rf) 0 0) ∧
    (g_105 n dp (z, kd, Rf) 1 I L i1 i2 i3 i4 i5 = some (r, I1, L1) → K X d 105 0 0 (AI (fun x τ => x = r ∧ τ = (z, kd, I1, L1, Rf))) 15 [some (.ref 24), some (.int i1), some (.int i2), some (.int i3), some (.int i4), some (.int i5)] [] (z, kd, I, L, Rf) 0 0) := by
  intro n
  induction n with
  | zero => intro dp d hdp I L i1 i2 i3 i4 i5 r I1 L1; exact ⟨(fun h => by cases h), (fun h => by cases h)⟩
  | succ n ih =>
    intro dp d hdp I L i1 i2 i3 i4 i5 r I1 L1
    refine ⟨?_, ?_⟩
    · intro h
      rw [e_105_0] at h
      refine K_of b_105_0 h_105_0 ?_
      refine q_iload rfl ?_
      refine q_iload rfl ?_
      refine q_iadd ?_
      refine q_iload rfl ?_
      refine q_iadd ?_
      refine q_iconst (8) (by decide) ?_
      obtain ⟨d_7, h⟩ := ite_some h
      refine q_min (Nat.le_of_ble_eq_true rfl) (Nat.le_trans d_7 hdp) (Nat.le_refl _) (Nat.le_refl _) ?_
      obtain ⟨v_10, nv_10, h⟩ := stI_some h
      refine q_eqi nv_10.symm ?_
      refine q_istore (Nat.le_of_ble_eq_true rfl) rfl ?_
      refine q_iconst (0) (by decide) ?_
      refine q_istore (Nat.le_of_ble_eq_true rfl) rfl ?_
      refine q_end ?_
      exact (ih dp d hdp _ _ i1 i2 i3 v_10 (0 : Int32) _ _ _).2 h
    · intro h
      rw [e_105_1] at h
      refine K_of b_105_15 h_105_15 ?_
      refine q_iload rfl ?_
      refine q_iload rfl ?_
      refine q_icmp_ge (fun c_19 => ?_) (fun c_19 => ?_)
      · rw [if_pos c_19] at h
        refine K_of b_105_58 h_105_58 ?_
        refine q_iload rfl ?_
        cases h
        exact q_iret rfl (Nat.le_refl _) (Nat.le_refl _) ⟨rfl, rfl⟩
      · rw [if_neg c_19] at h
        refine q_aload rfl ?_
        refine q_getRs (c0 := 7) (j := 8) rfl rfl (zl hS 24 (by decide)) (sk hS 24 (by decide) rfl) rfl (by decide) (r_24_8 hS) ?_
        refine q_iload rfl ?_
        refine q_iload rfl ?_
        refine q_iload rfl ?_
        refine q_icmp_ge (fun c_31 => ?_) (fun c_31 => ?_)
        · rw [if_pos c_31] at h
          refine K_of b_105_38 h_105_38 ?_
          refine q_iload rfl ?_
          refine q_iload rfl ?_
          refine q_iload rfl ?_
          refine q_iadd ?_
          refine q_icmp_ge (fun c_43 => ?_) (fun c_43 => ?_)
          · rw [if_pos c_43] at h
            refine K_of b_105_50 h_105_50 ?_
            refine q_iconst (0) (by decide) ?_
            refine q_end ?_
            refine K_of b_105_51 h_105_51 ?_
            obtain ⟨⟨u_51, v_51⟩, h⟩ := ite_some h
            refine q_iasN (Int32.toNatClampNeg i5) (nx u_51) (zl hS 54 (by decide)) (sk hS 54 (by decide) rfl) v_51 (by decide) ?_
            obtain ⟨I_51, nI_51, h⟩ := stI_some h
            refine q_nI nI_51 ?_
            refine q_iinc rfl rfl ?_
            refine q_goto ?_
            exact (ih dp d hdp _ _ i1 i2 i3 i4 (i5 + Int32.ofInt (1)) _ _ _).2 h
          · rw [if_neg c_43] at h
            refine q_iconst (1) (by decide) ?_
            refine q_goto ?_
            refine K_of b_105_51 h_105_51 ?_
            obtain ⟨⟨u_51, v_51⟩, h⟩ := ite_some h
            refine q_iasN (Int32.toNatClampNeg i5) (nx u_51) (zl hS 54 (by decide)) (sk hS 54 (by decide) rfl) v_51 (by decide) ?_
            obtain ⟨I_51, nI_51, h⟩ := stI_some h
            refine q_nI nI_51 ?_
            refine q_iinc rfl rfl ?_
            refine q_goto ?_
            exact (ih dp d hdp _ _ i1 i2 i3 i4 (i5 + Int32.ofInt (1)) _ _ _).2 h
        · rw [if_neg c_31] at h
          refine q_iconst (2) (by decide) ?_
          refine q_goto ?_
          refine K_of b_105_51 h_105_51 ?_
          obtain ⟨⟨u_51, v_51⟩, h⟩ := ite_some h
          refine q_iasN (Int32.toNatClampNeg i5) (nx u_51) (zl hS 54 (by decide)) (sk hS 54 (by decide) rfl) v_51 (by decide) ?_
          obtain ⟨I_51, nI_51, h⟩ := stI_some h
          refine q_nI nI_51 ?_
          refine q_iinc rfl rfl ?_
          refine q_goto ?_
          exact (ih dp d hdp _ _ i1 i2 i3 i4 (i5 + Int32.ofInt (1)) _ _ _).2 h
theorem a_105 (X : GX) {z : Nat} {kd : Nat → Nat × Nat} {Rf : Nat → Nat → Option Nat} (hS : Sh z kd Rf) {n dp d : Nat} (hd : dp ≤ d) {I : (Nat → Nat → Int32)} {L : (Nat → Nat → Int64)} {i1 : Int32} {i2 : Int32} {i3 : Int32} {I1 : (Nat → Nat → Int32)} {L1 : (Nat → Nat → Int64)} {r : Int32} (h : g_105 n dp (z, kd, Rf) 0 I L i1 i2 i3 0 0 = some (r, I1, L1)) : Ct X d 105 0 0 [.ref 24, .int i1, .int i2, .int i3] (z, kd, I, L, Rf) (AI (fun x τ => x = r ∧ τ = (z, kd, I1, L1, Rf))) :=
  Ct_of mu_105 (Nat.le_of_ble_eq_true rfl) ((w_105 X hS n dp d hd I L i1 i2 i3 0 0 _ _ _).1 h)

