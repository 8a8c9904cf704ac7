/-! pure: the small ones -/
def wi (x lo hi : Int32) : Int32 := if lo ≤ x ∧ x ≤ hi then 1 else 0
theorem p_14 (n dp : Nat) (e : EN) (I : Nat → Nat → Int32) (L : Nat → Nat → Int64) (x lo hi : Int32) : g_14 (n + 1) dp e 0 I L x lo hi = some (wi x lo hi, I, L) := by
  rw [e_14_0, wi]
  by_cases h1 : x < lo
  · rw [if_pos h1, if_neg (fun q => absurd q.1 (Int32.not_le.mpr h1))]
  · rw [if_neg h1]
    by_cases h2 : hi < x
    · rw [if_pos h2, if_neg (fun q => absurd q.2 (Int32.not_le.mpr h2))]
    · rw [if_neg h2, if_pos ⟨Int32.not_lt.mp h1, Int32.not_lt.mp h2⟩]
theorem p_19 (n dp : Nat) (e : EN) (I : Nat → Nat → Int32) (L : Nat → Nat → Int64) (x : Int32) : g_19 (n + 1) dp e 0 I L x = some (x, u2 I 0 18 0, L) := by
  rw [e_19_0]; rfl
/-- refused: which counter -/
def rfj (b : Int32) : Nat := if b = -1 then 0 else if b = -2 then 1 else if b = -3 then 2 else if b = -5 then 3 else 4
def rfI (I : Nat → Nat → Int32) (b : Int32) : Nat → Nat → Int32 := u2 (u2 I 0 18 b) 92 (rfj b) (I 92 (rfj b) + 1)
theorem p_15 (n dp : Nat) (hd : 1 ≤ dp) (e : EN) (I : Nat → Nat → Int32) (L : Nat → Nat → Int64) (b : Int32) (hb : b = -1 ∨ b = -2 ∨ b = -3 ∨ b = -5 ∨ b = -6) : g_15 (n + 2) dp e 0 I L b = some (b, rfI I b, L) := by
  rw [e_15_0]
  rcases hb with rfl | rfl | rfl | rfl | rfl <;> simp only [stI, p_14, Option.bind_some, if_pos hd] <;> rfl
/-- in(long) of the model -/
def wl (x lo hi : Int64) : Int32 := if lo ≤ x ∧ x ≤ hi then 1 else 0
theorem lg_lt (x y : Int64) : (lg_cmp x y < 0) ↔ x < y := by
  unfold lg_cmp
  by_cases h1 : x > y
  · rw [if_pos h1]
    exact ⟨fun h => absurd h (by decide), fun h => absurd h (Int64.not_lt.mpr (Int64.le_of_lt h1))⟩
  · rw [if_neg h1]
    by_cases h2 : x = y
    · rw [if_pos h2]
      exact ⟨fun h => absurd h (by decide), fun h => by rw [h2] at h; exact absurd h Int64.lt_irrefl⟩
    · rw [if_neg h2]
      refine ⟨fun _ => ?_, fun _ => by decide⟩
      rcases Int64.lt_or_eq_of_le (Int64.not_lt.mp h1) with q | q
      · exact q
      · exact absurd q h2
theorem lg_gt (x y : Int64) : (0 < lg_cmp x y) ↔ y < x := by
  unfold lg_cmp
  by_cases h1 : x > y
  · rw [if_pos h1]
    exact ⟨fun _ => h1, fun _ => by decide⟩
  · rw [if_neg h1]
    by_cases h2 : x = y
    · rw [if_pos h2]
      exact ⟨fun h => absurd h (by decide), fun h => absurd h h1⟩
    · rw [if_neg h2]
      exact ⟨fun h => absurd h (by decide), fun h => absurd h h1⟩
theorem p_193 (n dp : Nat) (e : EN) (I : Nat → Nat → Int32) (L : Nat → Nat → Int64) (x lo hi : Int64) : g_193 (n + 1) dp e 0 I L x lo hi = some (wl x lo hi, I, L) := by
  rw [e_193_0, wl]
  by_cases h1 : x < lo
  · rw [if_pos ((lg_lt _ _).mpr h1), if_neg (fun q => absurd q.1 (Int64.not_le.mpr h1))]
  · rw [if_neg (fun q => h1 ((lg_lt _ _).mp q))]
    by_cases h2 : hi < x
    · rw [if_pos ((lg_gt _ _).mpr h2), if_neg (fun q => absurd q.2 (Int64.not_le.mpr h2))]
    · rw [if_neg (fun q => h2 ((lg_gt _ _).mp q)), if_pos ⟨Int64.not_lt.mp h1, Int64.not_lt.mp h2⟩]
