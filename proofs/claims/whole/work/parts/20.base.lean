/-- within -/
def wi (x lo hi : Int32) : Int32 := if lo ≤ x ∧ x ≤ hi then 1 else 0
theorem lt_le {x y : Int32} (h : x < y) : ¬ y ≤ x := Int32.not_le.mpr h
set_option maxHeartbeats 4000000 in
set_option maxRecDepth 100000 in
theorem c_within (X : GX) (d : Nat) (σ : PS) (x lo hi : Int32) : Ct X d 14 0 0 [.int x, .int lo, .int hi] σ (AI (fun r τ => τ = σ ∧ r = wi x lo hi)) := by
  refine Ct_of mu_14 (Nat.le_of_ble_eq_true rfl) ?_
  show K X d 14 0 0 _ 0 [some (.int x), some (.int lo), some (.int hi)] [] σ 0 0
  refine K_of b_14_0 h_14_0 ?_
  refine q_iload rfl ?_
  refine q_iload rfl ?_
  refine q_icmp_lt (fun c_2 => ?_) (fun c_2 => ?_)
  · refine K_of b_14_14 h_14_14 ?_
    refine q_iconst (0) (by decide) ?_
    refine q_end ?_
    refine K_of b_14_15 h_14_15 ?_
    refine q_iret rfl (Nat.le_refl _) (Nat.le_refl _) ?_
    exact ⟨rfl, by rw [wi, if_neg (fun h => lt_le c_2 h.1)]⟩
  · refine q_iload rfl ?_
    refine q_iload rfl ?_
    refine q_icmp_gt (fun c_7 => ?_) (fun c_7 => ?_)
    · refine K_of b_14_14 h_14_14 ?_
      refine q_iconst (0) (by decide) ?_
      refine q_end ?_
      refine K_of b_14_15 h_14_15 ?_
      refine q_iret rfl (Nat.le_refl _) (Nat.le_refl _) ?_
      exact ⟨rfl, by rw [wi, if_neg (fun h => lt_le c_7 h.2)]⟩
    · refine q_iconst (1) (by decide) ?_
      refine q_goto ?_
      refine K_of b_14_15 h_14_15 ?_
      refine q_iret rfl (Nat.le_refl _) (Nat.le_refl _) ?_
      exact ⟨rfl, by rw [wi, if_pos ⟨Int32.not_lt.mp c_2, Int32.not_lt.mp c_7⟩]⟩

