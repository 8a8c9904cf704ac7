/-! THE INVARIANT, its plain part: what of the class stands beside what of the model -/
/-- a row of the model that can be -/
def rwO (ρ : Int → Int) : Prop :=
  (∀ c, 0 ≤ c → c < 3 → 0 ≤ ρ c ∧ ρ c ≤ 8) ∧ ρ 0 + ρ 1 + ρ 2 ≤ 8 ∧
  (0 ≤ ρ 3 ∧ ρ 3 ≤ 4) ∧ (0 ≤ ρ 4 ∧ ρ 4 ≤ 99) ∧ (0 ≤ ρ 5 ∧ ρ 5 ≤ 100) ∧ (0 ≤ ρ 6 ∧ ρ 6 ≤ 16) ∧ (0 ≤ ρ 7 ∧ ρ 7 ≤ 40) ∧ (0 ≤ ρ 8 ∧ ρ 8 ≤ 24) ∧ (0 ≤ ρ 9 ∧ ρ 9 ≤ 16) ∧
  (∀ i, 10 ≤ i → i < 40 → 0 ≤ ρ i ∧ ρ i ≤ 9999) ∧ (∀ i, 40 ≤ i → i < 60 → 0 ≤ ρ i ∧ ρ i ≤ 999) ∧ (∀ i, 60 ≤ i → i < 70 → 0 ≤ ρ i ∧ ρ i ≤ 8) ∧
  sm (fun i => if ρ (60 + i) ≤ 0 then 0 else 1) 10 ≤ 5 ∧
  (∀ i, 70 ≤ i → i < 74 → 0 ≤ ρ i ∧ ρ i ≤ 15) ∧ (∀ i, 74 ≤ i → i < 82 → 0 ≤ ρ i ∧ ρ i ≤ 63) ∧
  (∀ b, 0 ≤ b → b < ρ 6 → bxok (ρ (90 + 7 * b)) (ρ (90 + 7 * b + 1)) (ρ (90 + 7 * b + 2)) (ρ (90 + 7 * b + 3)) (ρ (90 + 7 * b + 4)) (ρ (90 + 7 * b + 5)) ∧ 0 ≤ ρ (90 + 7 * b + 6) ∧ ρ (90 + 7 * b + 6) ≤ 1) ∧
  (∀ i, 0 ≤ i → i < ρ 7 → (0 ≤ ρ (202 + 2 * i) ∧ ρ (202 + 2 * i) ≤ 999) ∧ 0 ≤ ρ (202 + 2 * i + 1) ∧ ρ (202 + 2 * i + 1) ≤ 999)
/-- a Hall at h with its tree at tr stands for the row ρ (but for what the tree's clauses mean) -/
def hlC (J : JI) (h tr : Nat) (ρ : Int → Int) : Prop :=
  (∀ c, 0 ≤ c → c < 3 → J (h + 1) c = ρ c) ∧ (∀ i, 0 ≤ i → i < 30 → J (h + 2) i = ρ (10 + i)) ∧ (∀ i, 0 ≤ i → i < 30 → J (h + 3) i = ρ (40 + i)) ∧ (∀ i, 0 ≤ i → i < 4 → J (h + 4) i = ρ (70 + i)) ∧ (∀ i, 0 ≤ i → i < 8 → J (h + 5) i = ρ (74 + i)) ∧ (∀ i, 0 ≤ i → i < 112 → J (h + 6) i = ρ (90 + i)) ∧ (∀ i, 0 ≤ i → i < ρ 7 → J (h + 7) i = ρ (202 + 2 * i) - ρ (202 + 2 * i + 1)) ∧
  J h 8 = ρ 3 ∧ J h 9 = ρ 6 ∧ J h 10 = ρ 7 ∧ J h 11 = ρ 4 ∧ J h 12 = ρ 5 ∧
  J tr 10 = ρ 8 ∧ J tr 11 = ρ 9 ∧ (∀ w, 0 ≤ w → w < ρ 9 → J (tr + 6) w = ρ (290 + 11 * w)) ∧ (∀ w p, 0 ≤ w → w < ρ 9 → 0 ≤ p → p < 10 → J (tr + 8) (w * 10 + p) = ρ (290 + 11 * w + 1 + p)) ∧ (0 ≤ J tr 12 ∧ J tr 12 ≤ 400)
/-- the small cells: what is not Hall or row. t: how many calls there were -/
def smO (t : Nat) (J : JI) : Prop :=
  J 105 0 = 0 ∧ (J 105 32 = 0 ∨ J 105 32 = 1) ∧ (J 105 51 = 0 ∨ J 105 51 = 1) ∧
  (J 92 0 = J 106 1 ∧ 0 ≤ J 106 1 ∧ J 106 1 ≤ t) ∧ (J 92 1 = J 106 2 ∧ 0 ≤ J 106 2 ∧ J 106 2 ≤ t) ∧ (J 92 2 = J 106 3 ∧ 0 ≤ J 106 3 ∧ J 106 3 ≤ t) ∧ (J 92 3 = J 106 5 ∧ 0 ≤ J 106 5 ∧ J 106 5 ≤ t) ∧ (J 92 4 = J 106 6 ∧ 0 ≤ J 106 6 ∧ J 106 6 ≤ t) ∧
  (J 0 13 = J 105 7 ∧ 0 ≤ J 105 7 ∧ J 105 7 ≤ 400) ∧ J 0 15 = J 105 12 ∧ J 0 16 = J 105 63 ∧ J 0 18 = J 105 1 ∧ J 0 17 = J 105 67 ∧
  (∀ i, 0 ≤ i → i < 400 → J 89 i = J 110 i ∧ 0 ≤ J 110 i ∧ J 110 i ≤ 255) ∧ (∀ i, 0 ≤ i → i < 15 → J 91 i = J 142 i) ∧
  (0 ≤ J 24 12 ∧ J 24 12 ≤ 1 + 2 * t)
theorem smO_Bs {t : Nat} {J : JI} (ht : t ≤ 512) (h : smO t J) : Bs J := by
  obtain ⟨h1, h2, h3, h4, h5, h6, h7, h8, h9, h10⟩ := h
  refine ⟨h1, h2, h3, ?_, ?_, ?_, ?_, ?_, ?_, ?_, ?_, ?_, ?_⟩ <;> omega
/-- only cells of the Hall at 1, of its tree, and of the row matter to hlC J 1 tr (J 107) -/
theorem hlC_congr {J J' : JI} {h tr : Nat} {ρ ρ' : Int → Int} (hρ : ∀ i, 0 ≤ i → i < 1570 → ρ' i = ρ i) (h7 : ρ 7 ≤ 40) (h9 : ρ 9 ≤ 16) (hj : ∀ a j, (h ≤ a ∧ a ≤ h + 7) ∨ (tr ≤ a ∧ a ≤ tr + 10) → J' a j = J a j) (q : hlC J h tr ρ) : hlC J' h tr ρ' := by
  obtain ⟨q1, q2, q3, q4, q5, q6, q7, q8, q9, q10, q11, q12, q13, q14, q15, q16, q17⟩ := q
  have e7 := hρ 7 (by decide) (by decide)
  have e9 := hρ 9 (by decide) (by decide)
  refine ⟨fun c a b => ?_, fun c a b => ?_, fun c a b => ?_, fun c a b => ?_, fun c a b => ?_, fun c a b => ?_, fun c a b => ?_, ?_, ?_, ?_, ?_, ?_, ?_, ?_, fun w a b => ?_, fun w p a b x y => ?_, ?_⟩
  · rw [hj _ _ (by omega), hρ _ (by omega) (by omega)]; exact q1 c a b
  · rw [hj _ _ (by omega), hρ _ (by omega) (by omega)]; exact q2 c a b
  · rw [hj _ _ (by omega), hρ _ (by omega) (by omega)]; exact q3 c a b
  · rw [hj _ _ (by omega), hρ _ (by omega) (by omega)]; exact q4 c a b
  · rw [hj _ _ (by omega), hρ _ (by omega) (by omega)]; exact q5 c a b
  · rw [hj _ _ (by omega), hρ _ (by omega) (by omega)]; exact q6 c a b
  · rw [e7] at b
    rw [hj _ _ (by omega), hρ _ (by omega) (by omega), hρ _ (by omega) (by omega)]; exact q7 c a b
  · rw [hj _ _ (by omega), hρ _ (by omega) (by omega)]; exact q8
  · rw [hj _ _ (by omega), hρ _ (by omega) (by omega)]; exact q9
  · rw [hj _ _ (by omega), hρ _ (by omega) (by omega)]; exact q10
  · rw [hj _ _ (by omega), hρ _ (by omega) (by omega)]; exact q11
  · rw [hj _ _ (by omega), hρ _ (by omega) (by omega)]; exact q12
  · rw [hj _ _ (by omega), hρ _ (by omega) (by omega)]; exact q13
  · rw [hj _ _ (by omega), hρ _ (by omega) (by omega)]; exact q14
  · rw [e9] at b
    rw [hj _ _ (by omega), hρ _ (by omega) (by omega)]; exact q15 w a b
  · rw [e9] at b
    rw [hj _ _ (by omega), hρ _ (by omega) (by omega)]; exact q16 w p a b x y
  · rw [hj _ _ (by omega)]; exact q17
theorem rwO_congr {ρ ρ' : Int → Int} (hρ : ∀ i, 0 ≤ i → i < 1570 → ρ' i = ρ i) (q : rwO ρ) : rwO ρ' := by
  obtain ⟨q1, q2, q3, q4, q5, q6, q7, q8, q9, q10, q11, q12, q13, q14, q15, q16, q17⟩ := q
  have e6 := hρ 6 (by decide) (by decide)
  have e7 := hρ 7 (by decide) (by decide)
  refine ⟨fun c a b => ?_, ?_, ?_, ?_, ?_, ?_, ?_, ?_, ?_, fun c a b => ?_, fun c a b => ?_, fun c a b => ?_, ?_, fun c a b => ?_, fun c a b => ?_, fun c a b => ?_, fun c a b => ?_⟩
  · rw [hρ _ (by omega) (by omega)]; exact q1 c a b
  · rw [hρ 0 (by omega) (by omega), hρ 1 (by omega) (by omega), hρ 2 (by omega) (by omega)]; exact q2
  · rw [hρ _ (by omega) (by omega)]; exact q3
  · rw [hρ _ (by omega) (by omega)]; exact q4
  · rw [hρ _ (by omega) (by omega)]; exact q5
  · rw [hρ _ (by omega) (by omega)]; exact q6
  · rw [hρ _ (by omega) (by omega)]; exact q7
  · rw [hρ _ (by omega) (by omega)]; exact q8
  · rw [hρ _ (by omega) (by omega)]; exact q9
  · rw [hρ _ (by omega) (by omega)]; exact q10 c a b
  · rw [hρ _ (by omega) (by omega)]; exact q11 c a b
  · rw [hρ _ (by omega) (by omega)]; exact q12 c a b
  · rw [sm_congr 10 (g := fun i => if ρ (60 + i) ≤ 0 then 0 else 1) (fun i a b => by rw [hρ (60 + i) (by omega) (by omega)])]; exact q13
  · rw [hρ _ (by omega) (by omega)]; exact q14 c a b
  · rw [hρ _ (by omega) (by omega)]; exact q15 c a b
  · rw [e6] at b
    rw [hρ (90 + 7 * c) (by omega) (by omega), hρ (90 + 7 * c + 1) (by omega) (by omega), hρ (90 + 7 * c + 2) (by omega) (by omega), hρ (90 + 7 * c + 3) (by omega) (by omega), hρ (90 + 7 * c + 4) (by omega) (by omega), hρ (90 + 7 * c + 5) (by omega) (by omega), hρ (90 + 7 * c + 6) (by omega) (by omega)]; exact q16 c a b
  · rw [e7] at b
    rw [hρ (202 + 2 * c) (by omega) (by omega), hρ (202 + 2 * c + 1) (by omega) (by omega)]; exact q17 c a b
