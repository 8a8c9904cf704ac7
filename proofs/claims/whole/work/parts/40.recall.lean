/-! RECALL: rounds -/
def tch (f : Nat → Int32) (a b : Nat) : Prop := ¬ (f (7 * a + 5) &&& f (7 * b + 5)) = 0 ∨ (f (7 * a + 2) = f (7 * b + 2) ∧ f (7 * a + 3) = f (7 * b + 3) ∧ f (7 * a + 4) = f (7 * b + 4))
noncomputable def pif {α : Type} (p : Prop) (a b : α) : α := @ite α p (Classical.propDecidable p) a b
theorem pif_t {α : Type} {p : Prop} {a b : α} (h : p) : pif p a b = a := by unfold pif; exact if_pos h
theorem pif_f {α : Type} {p : Prop} {a b : α} (h : ¬ p) : pif p a b = b := by unfold pif; exact if_neg h
noncomputable def rnd (f : Nat → Int32) (n : Nat) (cs : Int32) : Nat → Nat → Int32
  | 0, b => if f (7 * b + 5) &&& cs = 0 then -1 else 0
  | r + 1, b => pif (rnd f n cs r b = -1 ∧ ∃ o, o < n ∧ 0 ≤ rnd f n cs r o ∧ tch f b o) (nI (r + 1)) (rnd f n cs r b)
section RND
variable {f : Nat → Int32} {n : Nat} {cs : Int32}
theorem rnd_v (r : Nat) (b : Nat) : rnd f n cs r b = -1 ∨ ∃ q, q ≤ r ∧ rnd f n cs r b = nI q := by
  induction r with
  | zero =>
    unfold rnd
    by_cases h : f (7 * b + 5) &&& cs = 0
    · rw [if_pos h]; exact Or.inl rfl
    · rw [if_neg h]; exact Or.inr ⟨0, Nat.le_refl _, rfl⟩
  | succ r ih =>
    unfold rnd
    by_cases h : rnd f n cs r b = -1 ∧ ∃ o, o < n ∧ 0 ≤ rnd f n cs r o ∧ tch f b o
    · rw [pif_t h]; exact Or.inr ⟨r + 1, Nat.le_refl _, rfl⟩
    · rw [pif_f h]
      rcases ih with h1 | ⟨q, h1, h2⟩
      · exact Or.inl h1
      · exact Or.inr ⟨q, by omega, h2⟩
theorem rnd_keep {r b : Nat} (h : ¬ rnd f n cs r b = -1) : rnd f n cs (r + 1) b = rnd f n cs r b := by
  rw [show rnd f n cs (r + 1) b = _ from by rw [rnd]]
  rw [pif_f (fun q => h q.1)]
theorem rnd_keeps {r b : Nat} (h : ¬ rnd f n cs r b = -1) (k : Nat) : rnd f n cs (r + k) b = rnd f n cs r b := by
  induction k with
  | zero => rfl
  | succ k ih =>
    rw [← Nat.add_assoc, rnd_keep (by rw [ih]; exact h), ih]
theorem rnd_down {r b : Nat} (h : rnd f n cs r b = -1) {q : Nat} (hq : q ≤ r) : rnd f n cs q b = -1 := by
  by_cases g : rnd f n cs q b = -1
  · exact g
  · have := rnd_keeps g (r - q)
    rw [Nat.add_sub_cancel' hq] at this
    rw [← this]; exact h
/-- a round's number is the round in which it came -/
theorem rnd_at {r b q : Nat} (hr : r < 2 ^ 30) (hq : q ≤ r) (h : rnd f n cs r b = nI q) : rnd f n cs q b = nI q := by
  induction r with
  | zero => have : q = 0 := by omega
            subst this; exact h
  | succ r ih =>
    by_cases e : q = r + 1
    · subst e; exact h
    · refine ih (by omega) (by omega) ?_
      rw [show rnd f n cs (r + 1) b = _ from by rw [rnd]] at h
      by_cases c : rnd f n cs r b = -1 ∧ ∃ o, o < n ∧ 0 ≤ rnd f n cs r o ∧ tch f b o
      · rw [pif_t c] at h
        have := (nI_eq (by omega) (by omega)).mp h
        omega
      · rw [pif_f c] at h; exact h
/-- only those of the last round matter -/
theorem rnd_last {r b o : Nat} (hr : r < 2 ^ 30) (hb : rnd f n cs r b = -1) (ho : o < n) (h : 0 ≤ rnd f n cs r o) (ht : tch f b o) : rnd f n cs r o = nI r := by
  rcases rnd_v (f := f) (n := n) (cs := cs) r o with h1 | ⟨q, h1, h2⟩
  · rw [h1] at h; exact absurd h (by decide)
  · by_cases e : q = r
    · rw [h2, e]
    · exfalso
      have g1 := rnd_at hr h1 h2
      have g2 := rnd_down hb (show q + 1 ≤ r by omega)
      have g3 := rnd_down hb (show q ≤ r by omega)
      rw [show rnd f n cs (q + 1) b = _ from by rw [rnd], pif_t ⟨g3, o, ho, by rw [g1]; exact nI_pos' (by omega), ht⟩] at g2
      exact nI_m1 (by omega) g2
theorem rnd_succ {r b : Nat} (hr : r < 2 ^ 30) : rnd f n cs (r + 1) b = nI (r + 1) ∧ rnd f n cs r b = -1 ∧ (∃ o, o < n ∧ rnd f n cs r o = nI r ∧ tch f b o) ∨ rnd f n cs (r + 1) b = rnd f n cs r b ∧ ¬ (rnd f n cs r b = -1 ∧ ∃ o, o < n ∧ rnd f n cs r o = nI r ∧ tch f b o) := by
  rw [show rnd f n cs (r + 1) b = _ from by rw [rnd]]
  by_cases c : rnd f n cs r b = -1 ∧ ∃ o, o < n ∧ 0 ≤ rnd f n cs r o ∧ tch f b o
  · rw [pif_t c]
    obtain ⟨c1, o, c2, c3, c4⟩ := c
    exact Or.inl ⟨rfl, c1, o, c2, rnd_last hr c1 c2 c3 c4, c4⟩
  · rw [pif_f c]
    refine Or.inr ⟨rfl, fun q => c ⟨q.1, ?_⟩⟩
    obtain ⟨o, h1, h2, h3⟩ := q.2
    exact ⟨o, h1, by rw [h2]; exact nI_pos' (by omega), h3⟩
theorem rnd_fix {r : Nat} (h : ∀ b, b < n → rnd f n cs (r + 1) b = rnd f n cs r b) (hr : r < 2 ^ 30) (k : Nat) : ∀ b, b < n → rnd f n cs (r + k) b = rnd f n cs r b := by
  have key : ∀ k, ∀ b, b < n → rnd f n cs (r + k) b = rnd f n cs r b := by
    intro k
    induction k with
    | zero => intro b _; rfl
    | succ k ih =>
      intro b hb
      rw [← Nat.add_assoc, show rnd f n cs (r + k + 1) b = _ from by rw [rnd]]
      by_cases c : rnd f n cs (r + k) b = -1 ∧ ∃ o, o < n ∧ 0 ≤ rnd f n cs (r + k) o ∧ tch f b o
      · exfalso
        obtain ⟨c1, o, c2, c3, c4⟩ := c
        rw [ih b hb] at c1
        rw [ih o c2] at c3
        have := h b hb
        rw [show rnd f n cs (r + 1) b = _ from by rw [rnd], pif_t ⟨c1, o, c2, c3, c4⟩, c1] at this
        exact nI_m1 (by omega) this
      · rw [pif_f c]; exact ih b hb
  exact key k
/-- n boxes: n - 1 rounds are enough -/
theorem rnd_end {r : Nat} (hr : r < 2 ^ 29) (hn : n ≤ r + 1) (k : Nat) : ∀ b, b < n → rnd f n cs (r + k) b = rnd f n cs r b := by
  have key : ∀ q, q < 2 ^ 29 → (∃ q', q' ≤ q ∧ ∀ b, b < n → rnd f n cs (q' + 1) b = rnd f n cs q' b) ∨ q + 1 ≤ cnb (fun b => decide (¬ rnd f n cs q b = -1)) n := by
    intro q
    induction q with
    | zero =>
      intro _
      by_cases c : ∃ b, b < n ∧ ¬ rnd f n cs 0 b = -1
      · obtain ⟨b, hb, h⟩ := c
        exact Or.inr (cnb_pos n ⟨b, hb, by simp [h]⟩)
      · refine Or.inl ⟨0, Nat.le_refl _, fun b hb => ?_⟩
        rw [show rnd f n cs (0 + 1) b = _ from by rw [rnd]]
        rw [pif_f]
        rintro ⟨-, o, ho, h1, -⟩
        have h2 : rnd f n cs 0 o = -1 := by
          by_cases g : rnd f n cs 0 o = -1
          · exact g
          · exact absurd ⟨o, ho, g⟩ c
        rw [h2] at h1
        exact absurd h1 (by decide)
    | succ q ih =>
      intro hq
      rcases ih (by omega) with ⟨q', h1, h2⟩ | h
      · exact Or.inl ⟨q', by omega, h2⟩
      · by_cases c : ∀ b, b < n → rnd f n cs (q + 1) b = rnd f n cs q b
        · exact Or.inl ⟨q, by omega, c⟩
        · refine Or.inr ?_
          have c2 : ∃ b, b < n ∧ ¬ rnd f n cs (q + 1) b = rnd f n cs q b := by
            by_cases g : ∃ b, b < n ∧ ¬ rnd f n cs (q + 1) b = rnd f n cs q b
            · exact g
            · exact absurd (fun b hb => by
                by_cases g2 : rnd f n cs (q + 1) b = rnd f n cs q b
                · exact g2
                · exact absurd ⟨b, hb, g2⟩ g) c
          obtain ⟨b, hb, c3⟩ := c2
          have := cnb_lt (p := fun b => decide (¬ rnd f n cs q b = -1)) (q := fun b => decide (¬ rnd f n cs (q + 1) b = -1)) n (fun b _ h => by
            simp only [decide_eq_true_eq] at h ⊢
            rw [rnd_keep h]; exact h) ⟨b, hb, by
              rcases rnd_succ (f := f) (n := n) (cs := cs) (r := q) (b := b) (by omega) with ⟨h1, h2, -⟩ | ⟨h1, -⟩
              · simp [h2]
              · exact absurd h1 c3, by
              rcases rnd_succ (f := f) (n := n) (cs := cs) (r := q) (b := b) (by omega) with ⟨h1, h2, -⟩ | ⟨h1, -⟩
              · rw [h1]; simp [nI_m1 (show q + 1 < 2 ^ 31 by omega)]
              · exact absurd h1 c3⟩
          omega
  intro b hb
  rcases key r hr with ⟨q', h1, h2⟩ | h
  · have e1 := rnd_fix h2 (by omega) (r + k - q') b hb
    have e2 := rnd_fix h2 (by omega) (r - q') b hb
    rw [show q' + (r + k - q') = r + k by omega] at e1
    rw [show q' + (r - q') = r by omega] at e2
    rw [e1, e2]
  · have := cnb_all n (show n ≤ cnb (fun b => decide (¬ rnd f n cs r b = -1)) n by omega) b hb
    simp only [decide_eq_true_eq] at this
    exact rnd_keeps this k
end RND
