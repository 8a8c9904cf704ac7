/-! 111 CutFloor$Offers.join(II)I -/
def g_111 : Nat → Nat → EN → Nat → (Nat → Nat → Int32) → (Nat → Nat → Int64) → Int32 → Int32 →  Option (Int32 × (Nat → Nat → Int32) × (Nat → Nat → Int64))
  | 0, _, _, _, _, _, _, _ => none
  | n + 1, dp, e, lab, I, L, i0, i1 =>
    if lab = 0 then (stI ((i0 + i1) &&& (17318416 : Int32)) (fun v_8 => (some ((((i0 + i1) ||| (v_8 - (Int32.toUInt32 v_8 >>> (Int32.toUInt32 (4 : Int32) &&& Int32.toUInt32 31)).toInt32)) &&& (16236015 : Int32)), I, L))))
    else none
set_option maxRecDepth 100000 in
theorem e_111_0 (n dp : Nat) (e : EN) (I : (Nat → Nat → Int32)) (L : (Nat → Nat → Int64)) (i0 : Int32) (i1 : Int32) : g_111 (n + 1) dp e 0 I L i0 i1 = (stI ((i0 + i1) &&& (17318416 : Int32)) (fun v_8 => (some ((((i0 + i1) ||| (v_8 - (Int32.toUInt32 v_8 >>> (Int32.toUInt32 (4 : Int32) &&& Int32.toUInt32 31)).toInt32)) &&& (16236015 : Int32)), I, L)))) := by rw [g_111.eq_2, if_pos (show (0 : Nat) = 0 from rfl)]
set_option maxHeartbeats 8000000 in
set_option maxRecDepth 100000 in
theorem w_111 (X : GX) {z : Nat} {kd : Nat → Nat × Nat} {Rf : Nat → Nat → Option Nat} (hS : Sh z kd Rf) : ∀ (n dp d : Nat), dp ≤ d → ∀ (I : (Nat → Nat → Int32)) (L : (Nat → Nat → Int64)) (i0 : Int32) (i1 : Int32) (r : Int32) (I1 : (Nat → Nat → Int32)) (L1 : (Nat → Nat → Int64)), (g_111 n dp (z, kd, Rf) 0 I L i0 i1 = some (r, I1, L1) → K X d 111 0 0 (AI (fun x τ => x = r ∧ τ = (z, kd, I1, L1, Rf))) 0 [some (.int i0), some (.int i1), none, none] [] (z, kd, I, L, Rf) 0 0) := by
  intro n
  induction n with
  | zero => intro dp d hdp I L i0 i1 r I1 L1; exact fun h => by cases h
  | succ n ih =>
    intro dp d hdp I L i0 i1 r I1 L1
    · intro h
      rw [e_111_0] at h
      refine K_of b_111_0 h_111_0 ?_
      refine q_iload rfl ?_
      refine q_iload rfl ?_
      refine q_iadd ?_
      refine q_istore (Nat.le_of_ble_eq_true rfl) rfl ?_
      refine q_iload rfl ?_
      refine q_iconst (17318416) (by decide) ?_
      refine q_iand ?_
      obtain ⟨v_8, nv_8, h⟩ := stI_some h
      refine q_eqi nv_8.symm ?_
      refine q_istore (Nat.le_of_ble_eq_true rfl) rfl ?_
      refine q_iload rfl ?_
      refine q_iload rfl ?_
      refine q_iload rfl ?_
      refine q_iconst (4) (by decide) ?_
      refine q_iushr ?_
      refine q_isub ?_
      refine q_ior ?_
      refine q_iconst (16236015) (by decide) ?_
      refine q_iand ?_
      cases h
      exact q_iret rfl (Nat.le_refl _) (Nat.le_refl _) ⟨rfl, rfl⟩
theorem a_111 (X : GX) {z : Nat} {kd : Nat → Nat × Nat} {Rf : Nat → Nat → Option Nat} (hS : Sh z kd Rf) {n dp d : Nat} (hd : dp ≤ d) {I : (Nat → Nat → Int32)} {L : (Nat → Nat → Int64)} {i0 : Int32} {i1 : Int32} {I1 : (Nat → Nat → Int32)} {L1 : (Nat → Nat → Int64)} {r : Int32} (h : g_111 n dp (z, kd, Rf) 0 I L i0 i1 = some (r, I1, L1)) : Ct X d 111 0 0 [.int i0, .int i1] (z, kd, I, L, Rf) (AI (fun x τ => x = r ∧ τ = (z, kd, I1, L1, Rf))) :=
  Ct_of mu_111 (Nat.le_of_ble_eq_true rfl) ((w_111 X hS n dp d hd I L i0 i1 _ _ _) h)

