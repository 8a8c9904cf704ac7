/-! pure: carcasses of the model -/
def mcaI (I : Nat → Nat → Int32) (j : Nat) (m : Int32) : Nat → Nat → Int32 := oksI (u2 (u2 I 105 0 0) 107 j m)
theorem p_196 (n dp : Nat) (hd : 2 ≤ dp) (e : EN) (I : Nat → Nat → Int32) (L : Nat → Nat → Int64) (c m : Int32) :
    (¬ ((0 ≤ c ∧ c ≤ 2) ∧ 0 ≤ m ∧ m ≤ 8) → g_196 (n + 3) dp e 0 I L c m = some (-1, telI (u2 I 105 0 0) (-1) 1, L)) ∧
    (∀ j, j < 3 → c = nI j → 0 ≤ m ∧ m ≤ 8 → ¬ I 107 0 + I 107 1 + I 107 2 - I 107 j + m ≤ 8 → g_196 (n + 3) dp e 0 I L c m = some (-3, telI (u2 I 105 0 0) (-3) 3, L)) ∧
    (∀ j, j < 3 → c = nI j → 0 ≤ m ∧ m ≤ 8 → I 107 0 + I 107 1 + I 107 2 - I 107 j + m ≤ 8 → g_196 (n + 3) dp e 0 I L c m = some (I 107 j, mcaI I j m, L)) := by
  have hd1 : 1 ≤ dp := by omega
  have hd2 : 1 ≤ dp - 1 := by omega
  have hw : wl m.toInt64 0 8 = wi m 0 8 := wl_i m 0 8
  have q0 : ∀ j, u2 I 105 0 0 107 j = I 107 j := fun j => u2_other (by omega)
  refine ⟨fun h => ?_, fun j hj hc hm hs => ?_, fun j hj hc hm hs => ?_⟩
  · rw [e_196_0]
    by_cases h1 : 0 ≤ c ∧ c ≤ 2
    · have h2 : ¬ (0 ≤ m ∧ m ≤ 8) := fun q => h ⟨h1, q⟩
      simp only [stI, if_pos hd1, p_197 (hd := hd2), p_193, hw, Option.bind_some, wi_t h1, wi_f h2, p_194n (v := -1) (j := 1) (hv := Or.inl ⟨rfl, rfl⟩)]
      rfl
    · simp only [stI, if_pos hd1, p_197 (hd := hd2), Option.bind_some, wi_f h1, p_194n (v := -1) (j := 1) (hv := Or.inl ⟨rfl, rfl⟩)]
      rfl
  · have h1 : 0 ≤ c ∧ c ≤ 2 := by
      subst hc
      have : j = 0 ∨ j = 1 ∨ j = 2 := by omega
      rcases this with rfl | rfl | rfl <;> decide
    have h4 : (0 + c).toNatClampNeg = j := by rw [Int32.zero_add, hc, nI_clamp (by omega)]
    have h5 : 0 ≤ 0 + c ∧ j < 1570 := ⟨by rw [Int32.zero_add]; exact h1.1, by omega⟩
    rw [e_196_0]
    simp only [stI, if_pos hd1, p_197 (hd := hd2), p_193, hw, Option.bind_some, wi_t h1, wi_t hm, e_198_0, h4, if_pos h5, q0, if_neg hs, p_194n (v := -3) (j := 3) (hv := Or.inr (Or.inr (Or.inl ⟨rfl, rfl⟩)))]
    rw [if_neg (by decide)]
    rfl
  · have h1 : 0 ≤ c ∧ c ≤ 2 := by
      subst hc
      have : j = 0 ∨ j = 1 ∨ j = 2 := by omega
      rcases this with rfl | rfl | rfl <;> decide
    have h4 : (0 + c).toNatClampNeg = j := by rw [Int32.zero_add, hc, nI_clamp (by omega)]
    have h5 : 0 ≤ 0 + c ∧ j < 1570 := ⟨by rw [Int32.zero_add]; exact h1.1, by omega⟩
    have h6 : 0 + c = nI j := by rw [Int32.zero_add]; exact hc
    rw [e_196_0]
    simp only [stI, if_pos hd1, p_197 (hd := hd2), p_193, hw, Option.bind_some, wi_t h1, wi_t hm, e_198_0, h4, if_pos h5, q0, if_pos hs]
    rw [if_neg (by decide), if_neg (by decide), h6, p_199 (hd := hd2) (hj := by omega), q0]
    rfl
