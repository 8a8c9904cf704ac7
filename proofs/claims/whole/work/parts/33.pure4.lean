/-! pure: weighs of both -/
def fwI (I : Nat → Nat → Int32) : Nat → Nat → Int32 := u2 (u2 (u2 I 24 13 1) 73 15 1) 73 16 1
theorem p_21 (n dp : Nat) (hd : 1 ≤ dp) (e : EN) (I : Nat → Nat → Int32) (L : Nat → Nat → Int64) : g_21 (n + 2) dp e 0 I L = some (fwI I, L) := by
  rw [e_21_0]
  simp only [if_pos hd, e_22_0, e_18_0, stI, Option.bind_some]
  rfl
theorem p_202 (n dp : Nat) (hd : 1 ≤ dp) (e : EN) (I : Nat → Nat → Int32) (L : Nat → Nat → Int64) (x : Int32) : g_202 (n + 2) dp e 0 I L x = some (wi x 0 9, I, L) := by
  have h' : wl x.toInt64 0 9 = wi x 0 9 := wl_i x 0 9
  rw [e_202_0, if_pos hd, p_193, h']
  simp only [Option.bind_some, if_pos (wi_01 x 0 9)]
def weiI (I : Nat → Nat → Int32) (j : Nat) (w : Int32) : Nat → Nat → Int32 := u2 (fwI (u2 I 3 j w)) 0 18 0
def okw (p c w : Int32) : Prop := (0 ≤ p ∧ p ≤ 9) ∧ (0 ≤ c ∧ c ≤ 2) ∧ 0 ≤ w ∧ w ≤ 9999
theorem p_20 (n dp : Nat) (hd : 2 ≤ dp) (e : EN) (I : Nat → Nat → Int32) (L : Nat → Nat → Int64) (p c w : Int32) :
    (¬ okw p c w → g_20 (n + 3) dp e 0 I L p c w = some (-1, rfI I (-1), L)) ∧
    (∀ a b, a < 10 → b < 3 → p = nI a → c = nI b → okw p c w → g_20 (n + 3) dp e 0 I L p c w = some (I 3 (a * 3 + b), weiI I (a * 3 + b) w, L)) := by
  have hd1 : 1 ≤ dp := by omega
  have hd2 : 1 ≤ dp - 1 := by omega
  refine ⟨fun h => ?_, fun a b ha hb hp hc h => ?_⟩
  · rw [e_20_0]
    by_cases h1 : 0 ≤ p ∧ p ≤ 9
    · by_cases h2 : 0 ≤ c ∧ c ≤ 2
      · have h3 : ¬ (0 ≤ w ∧ w ≤ 9999) := fun q => h ⟨h1, h2, q⟩
        simp only [if_pos hd1, p_14, Option.bind_some, wi_t h1, wi_t h2, wi_f h3, p_15 (n := n) (dp := dp - 1) (hd := hd2) (b := -1) (hb := Or.inl rfl)]
        rfl
      · simp only [if_pos hd1, p_14, Option.bind_some, wi_t h1, wi_f h2, p_15 (n := n) (dp := dp - 1) (hd := hd2) (b := -1) (hb := Or.inl rfl)]
        rfl
    · simp only [if_pos hd1, p_14, Option.bind_some, wi_f h1, p_15 (n := n) (dp := dp - 1) (hd := hd2) (b := -1) (hb := Or.inl rfl)]
      rfl
  · obtain ⟨h1, h2, h3⟩ := h
    have hix : p * 3 + c = nI (a * 3 + b) := by rw [hp, hc, show (3 : Int32) = nI 3 from rfl, pk_mul, nI_add]
    have h5 : 0 ≤ nI (a * 3 + b) ∧ a * 3 + b < 30 := ⟨nI_pos' (by omega), by omega⟩
    rw [e_20_0]
    simp only [if_pos hd1, p_14, Option.bind_some, wi_t h1, wi_t h2, wi_t h3, stI, hix, nI_clamp (show a * 3 + b < 2 ^ 31 by omega), if_pos h5, p_21 (hd := hd2), p_19]
    rw [if_neg (by decide)]
    rfl
