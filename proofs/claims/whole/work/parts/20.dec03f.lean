/-! 113 CutFloor$Layers.together(III)I -/
def g_113 : Nat → Nat → EN → Nat → (Nat → Nat → Int32) → (Nat → Nat → Int64) → Int32 → Int32 → Int32 →  Option (Int32 × (Nat → Nat → Int32) × (Nat → Nat → Int64))
  | 0, _, _, _, _, _, _, _, _ => none
  | n + 1, dp, e, lab, I, L, i0, i1, i2 =>
    if lab = 0 then (if 1 ≤ dp then (some ((Int64.toInt32 (if ((Int32.toInt64 i0) + ((Int32.toInt64 i1) * (Int32.toInt64 i2))) < (1000000000 : Int64) then ((Int32.toInt64 i0) + ((Int32.toInt64 i1) * (Int32.toInt64 i2))) else (1000000000 : Int64))), I, L)) else none)
    else none
set_option maxRecDepth 100000 in
theorem e_113_0 (n dp : Nat) (e : EN) (I : (Nat → Nat → Int32)) (L : (Nat → Nat → Int64)) (i0 : Int32) (i1 : Int32) (i2 : Int32) : g_113 (n + 1) dp e 0 I L i0 i1 i2 = (if 1 ≤ dp then (some ((Int64.toInt32 (if ((Int32.toInt64 i0) + ((Int32.toInt64 i1) * (Int32.toInt64 i2))) < (1000000000 : Int64) then ((Int32.toInt64 i0) + ((Int32.toInt64 i1) * (Int32.toInt64 i2))) else (1000000000 : Int64))), I, L)) else none) := by rw [g_113.eq_2, if_pos (show (0 : Nat) = 0 from rfl)]
set_option maxHeartbeats 8000000 in
set_option maxRecDepth 100000 in
theorem w_113 (X : GX) {z : Nat} {kd : Nat → Nat × Nat} {Rf : Nat → Nat → Option Nat} (hS : Sh z kd Rf) : ∀ (n dp d : Nat), dp ≤ d → ∀ (I : (Nat → Nat → Int32)) (L : (Nat → Nat → Int64)) (i0 : Int32) (i1 : Int32) (i2 : Int32) (r : Int32) (I1 : (Nat → Nat → Int32)) (L1 : (Nat → Nat → Int64)), (g_113 n dp (z, kd, Rf) 0 I L i0 i1 i2 = some (r, I1, L1) → K X d 113 0 0 (AI (fun x τ => x = r ∧ τ = (z, kd, I1, L1, Rf))) 0 [some (.int i0), some (.int i1), some (.int i2)] [] (z, kd, I, L, Rf) 0 0) := by
  intro n
  induction n with
  | zero => intro dp d hdp I L i0 i1 i2 r I1 L1; exact fun h => by cases h
  | succ n ih =>
    intro dp d hdp I L i0 i1 i2 r I1 L1
    · intro h
      rw [e_113_0] at h
      refine K_of b_113_0 h_113_0 ?_
      refine q_lconst (1000000000) (by decide) ?_
      refine q_iload rfl ?_
      refine q_i2l ?_
      refine q_iload rfl ?_
      refine q_i2l ?_
      refine q_iload rfl ?_
      refine q_i2l ?_
      refine q_lmul ?_
      refine q_ladd ?_
      obtain ⟨d_11, h⟩ := ite_some h
      refine q_minl (Nat.le_of_ble_eq_true rfl) (Nat.le_trans d_11 hdp) (Nat.le_refl _) (Nat.le_refl _) ?_
      refine q_l2i ?_
      cases h
      exact q_iret rfl (Nat.le_refl _) (Nat.le_refl _) ⟨rfl, rfl⟩
theorem a_113 (X : GX) {z : Nat} {kd : Nat → Nat × Nat} {Rf : Nat → Nat → Option Nat} (hS : Sh z kd Rf) {n dp d : Nat} (hd : dp ≤ d) {I : (Nat → Nat → Int32)} {L : (Nat → Nat → Int64)} {i0 : Int32} {i1 : Int32} {i2 : Int32} {I1 : (Nat → Nat → Int32)} {L1 : (Nat → Nat → Int64)} {r : Int32} (h : g_113 n dp (z, kd, Rf) 0 I L i0 i1 i2 = some (r, I1, L1)) : Ct X d 113 0 0 [.int i0, .int i1, .int i2] (z, kd, I, L, Rf) (AI (fun x τ => x = r ∧ τ = (z, kd, I1, L1, Rf))) :=
  Ct_of mu_113 (Nat.le_of_ble_eq_true rfl) ((w_113 X hS n dp d hd I L i0 i1 i2 _ _ _) h)

