/-! pure: weighs of the model, end of both -/
theorem p_201 (n dp : Nat) (hd : 2 ≤ dp) (e : EN) (I : Nat → Nat → Int32) (L : Nat → Nat → Int64) (p c w : Int32) :
    (¬ okw p c w → g_201 (n + 3) dp e 0 I L p c w = some (-1, telI (u2 I 105 0 0) (-1) 1, L)) ∧
    (∀ a b, a < 10 → b < 3 → p = nI a → c = nI b → okw p c w → g_201 (n + 3) dp e 0 I L p c w = some (I 107 (10 + 3 * a + b), oksI (u2 (u2 I 105 0 0) 107 (10 + 3 * a + b) w), L)) := by
  have hd1 : 1 ≤ dp := by omega
  have hd2 : 1 ≤ dp - 1 := by omega
  have hw : wl w.toInt64 0 9999 = wi w 0 9999 := wl_i w 0 9999
  refine ⟨fun h => ?_, fun a b ha hb hp hc h => ?_⟩
  · rw [e_201_0]
    by_cases h1 : 0 ≤ p ∧ p ≤ 9
    · by_cases h2 : 0 ≤ c ∧ c ≤ 2
      · have h3 : ¬ (0 ≤ w ∧ w ≤ 9999) := fun q => h ⟨h1, h2, q⟩
        simp only [stI, if_pos hd1, p_202 (hd := hd2), p_197 (hd := hd2), p_193, hw, Option.bind_some, wi_t h1, wi_t h2, wi_f h3, p_194n (v := -1) (j := 1) (hv := Or.inl ⟨rfl, rfl⟩)]
        rfl
      · simp only [stI, if_pos hd1, p_202 (hd := hd2), p_197 (hd := hd2), Option.bind_some, wi_t h1, wi_f h2, p_194n (v := -1) (j := 1) (hv := Or.inl ⟨rfl, rfl⟩)]
        rfl
    · simp only [stI, if_pos hd1, p_202 (hd := hd2), Option.bind_some, wi_f h1, p_194n (v := -1) (j := 1) (hv := Or.inl ⟨rfl, rfl⟩)]
      rfl
  · obtain ⟨h1, h2, h3⟩ := h
    have hix : 10 + 3 * p + c = nI (10 + 3 * a + b) := by rw [hp, hc, show (3 : Int32) = nI 3 from rfl, show (10 : Int32) = nI 10 from rfl, pk_mul, nI_add, nI_add]
    rw [e_201_0]
    simp only [stI, if_pos hd1, p_202 (hd := hd2), p_197 (hd := hd2), p_193, hw, Option.bind_some, wi_t h1, wi_t h2, wi_t h3, hix, p_199 (hd := hd2) (hj := show 10 + 3 * a + b < 1570 by omega)]
    rw [u2_other (a := 105) (b := 107) (by omega)]
    rfl
theorem p_31 (n dp : Nat) (hd : 1 ≤ dp) (e : EN) (I : Nat → Nat → Int32) (L : Nat → Nat → Int64) (x : Int32) :
    (¬ (0 ≤ x ∧ x ≤ I 0 13) → g_31 (n + 2) dp e 0 I L x = some (-1, I, L)) ∧ ((0 ≤ x ∧ x ≤ I 0 13) → g_31 (n + 2) dp e 0 I L x = some (x, u2 I 0 13 x, L)) := by
  refine ⟨fun h => ?_, fun h => ?_⟩
  · rw [e_31_0]
    simp only [if_pos hd, p_14, Option.bind_some, wi_f h]
    rfl
  · rw [e_31_0]
    simp only [if_pos hd, p_14, Option.bind_some, wi_t h, stI]
    rfl
theorem p_210 (n dp : Nat) (e : EN) (I : Nat → Nat → Int32) (L : Nat → Nat → Int64) (x : Int32) :
    (¬ (0 ≤ x ∧ x ≤ I 105 7) → g_210 (n + 2) dp e 0 I L x = some (-1, u2 I 105 0 0, L)) ∧ ((0 ≤ x ∧ x ≤ I 105 7) → g_210 (n + 2) dp e 0 I L x = some (x, u2 (u2 I 105 0 0) 105 7 x, L)) := by
  have q0 : u2 I 105 0 0 105 7 = I 105 7 := u2_other (by decide)
  refine ⟨fun h => ?_, fun h => ?_⟩
  · rw [e_210_0]
    by_cases h1 : x < 0
    · simp only [stI, if_pos h1]
    · have h2 : ¬ x ≤ I 105 7 := fun q => h ⟨Int32.not_lt.mp h1, q⟩
      simp only [stI, if_neg h1, q0, if_neg h2]
  · rw [e_210_0]
    simp only [stI, if_neg (Int32.not_lt.mpr h.1), q0, if_pos h.2]
