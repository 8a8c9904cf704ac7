/-! pure: tell, was, become; carcasses -/
def nz (x : Int32) : Int32 := if x = 0 then 0 else 1
def telI (I : Nat → Nat → Int32) (v : Int32) (j : Nat) : Nat → Nat → Int32 := u2 (u2 (u2 (u2 I 105 1 v) 105 32 (nz (I 105 32))) 105 51 (nz (I 105 51))) 106 j (I 106 j + 1)
def oksI (I : Nat → Nat → Int32) : Nat → Nat → Int32 := u2 (u2 (u2 I 105 1 0) 105 32 0) 105 51 0
theorem u2_other {f : Nat → Nat → Int32} {a k b j : Nat} {v : Int32} (h : ¬ (b = a ∧ j = k)) : u2 f a k v b j = f b j := by
  unfold u2 va_up
  by_cases hb : b = a
  · subst hb
    rw [if_pos rfl, if_neg (fun q => h ⟨rfl, q⟩)]
  · rw [if_neg hb]
theorem u2_same {f : Nat → Nat → Int32} {a k : Nat} {v : Int32} : u2 f a k v a k = v := by
  unfold u2 va_up
  rw [if_pos rfl, if_pos rfl]
set_option maxHeartbeats 4000000 in
theorem p_194n (n dp : Nat) (e : EN) (I : Nat → Nat → Int32) (L : Nat → Nat → Int64) (v : Int32) (j : Nat) (hv : (v = -1 ∧ j = 1) ∨ (v = -2 ∧ j = 2) ∨ (v = -3 ∧ j = 3) ∨ (v = -5 ∧ j = 5) ∨ (v = -6 ∧ j = 6)) : g_194 (n + 1) dp e 0 I L v = some (v, telI I v j, L) := by
  rw [e_194_0]
  have hn : ¬ 0 ≤ v := by rcases hv with ⟨rfl, -⟩ | ⟨rfl, -⟩ | ⟨rfl, -⟩ | ⟨rfl, -⟩ | ⟨rfl, -⟩ <;> decide
  have hj : 0 ≤ -v ∧ (-v).toNatClampNeg < 7 := by rcases hv with ⟨rfl, -⟩ | ⟨rfl, -⟩ | ⟨rfl, -⟩ | ⟨rfl, -⟩ | ⟨rfl, -⟩ <;> decide
  have hje : (-v).toNatClampNeg = j := by rcases hv with ⟨rfl, rfl⟩ | ⟨rfl, rfl⟩ | ⟨rfl, rfl⟩ | ⟨rfl, rfl⟩ | ⟨rfl, rfl⟩ <;> decide
  rw [hje] at hj
  have c1 : u2 I 105 1 v 105 32 = I 105 32 := u2_other (by decide)
  have ht : ∀ a b : Int32, u2 (u2 (u2 I 105 1 v) 105 32 a) 105 51 b 106 j = I 106 j := fun a b => by
    rw [u2_other (a := 105) (b := 106) (by omega), u2_other (a := 105) (b := 106) (by omega), u2_other (a := 105) (b := 106) (by omega)]
  have c2 : ∀ a : Int32, u2 (u2 I 105 1 v) 105 32 a 105 51 = I 105 51 := fun a => by rw [u2_other (by decide), u2_other (by decide)]
  simp only [stI, if_neg hn, hje, if_pos hj, c1, c2, ht]
  by_cases h1 : I 105 32 = 0
  · by_cases h2 : I 105 51 = 0
    · rw [if_pos h1, if_pos h2, telI, nz, nz, if_pos h1, if_pos h2]
    · rw [if_pos h1, if_neg h2, telI, nz, nz, if_pos h1, if_neg h2]
  · by_cases h2 : I 105 51 = 0
    · rw [if_neg h1, if_pos h2, telI, nz, nz, if_neg h1, if_pos h2]
    · rw [if_neg h1, if_neg h2, telI, nz, nz, if_neg h1, if_neg h2]
theorem p_194p (n dp : Nat) (e : EN) (I : Nat → Nat → Int32) (L : Nat → Nat → Int64) (v : Int32) (hv : 0 ≤ v) : g_194 (n + 1) dp e 0 I L v = some (v, oksI I, L) := by
  rw [e_194_0]
  simp only [stI, if_pos hv, ite_self]
  rfl
theorem p_200 (n dp : Nat) (e : EN) (I : Nat → Nat → Int32) (L : Nat → Nat → Int64) (v : Int32) : g_200 (n + 1) dp e 0 I L v = some (v, oksI I, L) := by
  rw [e_200_0]; rfl
theorem p_199 (n dp : Nat) (hd : 1 ≤ dp) (e : EN) (I : Nat → Nat → Int32) (L : Nat → Nat → Int64) (j : Nat) (hj : j < 1570) (v : Int32) : g_199 (n + 2) dp e 0 I L (nI j) v = some (I 107 j, oksI (u2 I 107 j v), L) := by
  have h : 0 ≤ nI j ∧ (nI j).toNatClampNeg < 1570 := ⟨nI_pos' (by omega), by rw [nI_clamp (by omega)]; exact hj⟩
  rw [e_199_0, if_pos h]
  simp only [stI, if_pos hd, p_200, Option.bind_some, nI_clamp (show j < 2 ^ 31 by omega)]
  rw [if_pos ⟨h.1, hj⟩]
/-- class numbers as longs -/
theorem wl_i (x : Int32) (lo hi : Int32) : wl x.toInt64 lo.toInt64 hi.toInt64 = wi x lo hi := by
  unfold wl wi
  simp only [Int64.le_iff_toInt_le, Int32.le_iff_toInt_le, Int32.toInt_toInt64]
theorem wi_01 (x lo hi : Int32) : wi x lo hi = 0 ∨ wi x lo hi = 1 := by
  unfold wi
  by_cases h : lo ≤ x ∧ x ≤ hi
  · rw [if_pos h]; exact Or.inr rfl
  · rw [if_neg h]; exact Or.inl rfl
theorem p_197 (n dp : Nat) (hd : 1 ≤ dp) (e : EN) (I : Nat → Nat → Int32) (L : Nat → Nat → Int64) (x : Int32) : g_197 (n + 2) dp e 0 I L x = some (wi x 0 2, I, L) := by
  have h := wl_i x 0 2
  have h' : wl x.toInt64 0 2 = wi x 0 2 := h
  rw [e_197_0, if_pos hd, p_193, h']
  simp only [Option.bind_some, if_pos (wi_01 x 0 2)]
/-- carcasses of the class -/
def carI (I : Nat → Nat → Int32) (j : Nat) (m : Int32) : Nat → Nat → Int32 := u2 (u2 (u2 (u2 (u2 I 2 j m) 24 15 1) 73 15 1) 73 16 1) 0 18 0
theorem wi_t {x lo hi : Int32} (h : lo ≤ x ∧ x ≤ hi) : wi x lo hi = 1 := if_pos h
theorem wi_f {x lo hi : Int32} (h : ¬ (lo ≤ x ∧ x ≤ hi)) : wi x lo hi = 0 := if_neg h
theorem p_13 (n dp : Nat) (hd : 2 ≤ dp) (e : EN) (I : Nat → Nat → Int32) (L : Nat → Nat → Int64) (c m : Int32) :
    (¬ ((0 ≤ c ∧ c ≤ 2) ∧ 0 ≤ m ∧ m ≤ 8) → g_13 (n + 3) dp e 0 I L c m = some (-1, rfI I (-1), L)) ∧
    (∀ j, j < 3 → c = nI j → 0 ≤ m ∧ m ≤ 8 → ¬ I 2 0 + I 2 1 + I 2 2 - I 2 j + m ≤ 8 → g_13 (n + 3) dp e 0 I L c m = some (-3, rfI I (-3), L)) ∧
    (∀ j, j < 3 → c = nI j → 0 ≤ m ∧ m ≤ 8 → I 2 0 + I 2 1 + I 2 2 - I 2 j + m ≤ 8 → g_13 (n + 3) dp e 0 I L c m = some (I 2 j, carI I j m, L)) := by
  have hd1 : 1 ≤ dp := by omega
  have hd2 : 1 ≤ dp - 1 := by omega
  refine ⟨fun h => ?_, fun j hj hc hm hs => ?_, fun j hj hc hm hs => ?_⟩
  · rw [e_13_0]
    by_cases h1 : 0 ≤ c ∧ c ≤ 2
    · have h2 : ¬ (0 ≤ m ∧ m ≤ 8) := fun q => h ⟨h1, q⟩
      simp only [if_pos hd1, p_14, Option.bind_some, wi_t h1, wi_f h2, p_15 (n := n) (dp := dp - 1) (hd := hd2) (b := -1) (hb := Or.inl rfl)]
      rfl
    · simp only [if_pos hd1, p_14, Option.bind_some, wi_f h1, p_15 (n := n) (dp := dp - 1) (hd := hd2) (b := -1) (hb := Or.inl rfl)]
      rfl
  · have h1 : 0 ≤ c ∧ c ≤ 2 := by
      subst hc
      have : j = 0 ∨ j = 1 ∨ j = 2 := by omega
      rcases this with rfl | rfl | rfl <;> decide
    have h3 : 0 ≤ c ∧ c.toNatClampNeg < 3 := ⟨h1.1, by rw [hc, nI_clamp (by omega)]; exact hj⟩
    have h4 : c.toNatClampNeg = j := by rw [hc, nI_clamp (by omega)]
    rw [e_13_0]
    simp only [if_pos hd1, p_14, Option.bind_some, wi_t h1, wi_t hm, stI, e_16_0, h4, if_pos (show 0 ≤ c ∧ j < 3 from ⟨h1.1, hj⟩), if_neg hs, p_15 (n := n) (dp := dp - 1) (hd := hd2) (b := -3) (hb := Or.inr (Or.inr (Or.inl rfl)))]
    rw [if_neg (by decide)]
    rfl
  · have h1 : 0 ≤ c ∧ c ≤ 2 := by
      subst hc
      have : j = 0 ∨ j = 1 ∨ j = 2 := by omega
      rcases this with rfl | rfl | rfl <;> decide
    have h4 : c.toNatClampNeg = j := by rw [hc, nI_clamp (by omega)]
    rw [e_13_0]
    simp only [if_pos hd1, p_14, Option.bind_some, wi_t h1, wi_t hm, stI, e_16_0, h4, if_pos (show 0 ≤ c ∧ j < 3 from ⟨h1.1, hj⟩), if_pos hs, e_17_0, e_18_0, p_19]
    rw [if_neg (by decide)]
    rfl
