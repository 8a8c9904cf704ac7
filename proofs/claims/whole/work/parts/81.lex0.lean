/-! PARSER 2: tokens -/
def Run (τ : Int → Int) (N lo hi p q : Int) : Prop := p ≤ q ∧ q ≤ N ∧ (∀ i, p ≤ i → i < q → lo ≤ τ i ∧ τ i ≤ hi) ∧ (q < N → ¬ (lo ≤ τ q ∧ τ q ≤ hi))
theorem Run_u {τ σ : Int → Int} {N lo hi p q r : Int} (hp : 0 ≤ p) (ht : ∀ i, 0 ≤ i → i < N → τ i = σ i) (h : Run τ N lo hi p q) (g : Run σ N lo hi p r) : q = r := by
  obtain ⟨h1, h2, h3, h4⟩ := h
  obtain ⟨g1, g2, g3, g4⟩ := g
  by_cases c : q < r
  · have a := g3 q (by omega) c
    rw [← ht q (by omega) (by omega)] at a
    exact absurd a (h4 (by omega))
  · by_cases d : r < q
    · have a := h3 r (by omega) d
      rw [ht r (by omega) (by omega)] at a
      exact absurd a (g4 (by omega))
    · omega
theorem Run_0 {τ : Int → Int} {N lo hi p : Int} (hp : p ≤ N) (h : N ≤ p ∨ ¬ (lo ≤ τ p ∧ τ p ≤ hi)) : Run τ N lo hi p p := ⟨Int.le_refl _, hp, fun i a b => by omega, fun a => by rcases h with h | h; omega; exact h⟩
theorem Run_s {τ : Int → Int} {N lo hi p q : Int} (h : lo ≤ τ p ∧ τ p ≤ hi) (r : Run τ N lo hi (p + 1) q) : Run τ N lo hi p q := by
  obtain ⟨h1, h2, h3, h4⟩ := r
  refine ⟨by omega, h2, fun i a b => ?_, h4⟩
  by_cases c : i = p
  · subst c; exact h
  · exact h3 i (by omega) b
/-- the number as the class holds it, and as the model does -/
def nC (τ : Int → Int) (f : Int) : Nat → Int
  | 0 => 0
  | n + 1 => min (nC τ f n * 10 + τ (f + n) - 48) 100000
def nM (τ : Int → Int) (f : Int) : Nat → Int
  | 0 => 0
  | n + 1 => if nM τ f n ≤ 1000000 then nM τ f n * 10 + τ (f + n) - 48 else nM τ f n
def hM (τ : Int → Int) (f : Int) : Nat → Int
  | 0 => 0
  | n + 1 => if 10 ≤ n then -1 else hM τ f n * 32 + τ (f + n) - 96
theorem nC_r (τ σ : Int → Int) (f : Int) : ∀ n : Nat, (∀ i : Nat, i < n → σ (f + i) = τ (f + i) ∧ 48 ≤ τ (f + i) ∧ τ (f + i) ≤ 57) → 0 ≤ nC τ f n ∧ nC τ f n ≤ 100000 ∧ 0 ≤ nM σ f n ∧ nM σ f n ≤ 10000009 ∧ (nC τ f n ≤ 1000 ↔ nM σ f n ≤ 1000) ∧ (nC τ f n ≤ 1000 → nC τ f n = nM σ f n)
  | 0, _ => by unfold nC nM; omega
  | n + 1, h => by
    have ih := nC_r τ σ f n (fun i hi => h i (by omega))
    have h0 := h n (by omega)
    unfold nC nM
    rw [h0.1]
    split <;> omega
theorem nC_b (τ : Int → Int) (f : Int) (n : Nat) (h : ∀ i : Nat, i < n → 48 ≤ τ (f + i) ∧ τ (f + i) ≤ 57) : 0 ≤ nC τ f n ∧ nC τ f n ≤ 100000 := by
  have := nC_r τ τ f n (fun i hi => ⟨rfl, h i hi⟩)
  omega
theorem nM_b (τ : Int → Int) (f : Int) (n : Nat) (h : ∀ i : Nat, i < n → 48 ≤ τ (f + i) ∧ τ (f + i) ≤ 57) : 0 ≤ nM τ f n ∧ nM τ f n ≤ 10000009 := by
  have := nC_r τ τ f n (fun i hi => ⟨rfl, h i hi⟩)
  omega
theorem hM_b (τ : Int → Int) (f : Int) : ∀ n : Nat, (∀ i : Nat, i < n → 97 ≤ τ (f + i) ∧ τ (f + i) ≤ 122) → -1 ≤ hM τ f n ∧ hM τ f n < 1125899906842624 ∧ (n ≤ 10 → 0 ≤ hM τ f n ∧ hM τ f n < 32 ^ n)
  | 0, _ => by unfold hM; simp
  | n + 1, h => by
    have ih := hM_b τ f n (fun i hi => h i (by omega))
    have h0 := h n (by omega)
    unfold hM
    by_cases c : 10 ≤ n
    · rw [if_pos c]; omega
    · rw [if_neg c]
      have i2 := ih.2.2 (by omega)
      have p : (32 : Int) ^ n ≤ 32 ^ 9 := by
        have : (32 : Nat) ^ n ≤ 32 ^ 9 := Nat.pow_le_pow_right (by decide) (by omega)
        exact_mod_cast this
      have e : (32 : Int) ^ (n + 1) = 32 ^ n * 32 := Int.pow_succ 32 n
      have v9 : (32 : Int) ^ 9 = 35184372088832 := by decide
      rw [e]
      omega
/-- the words, backwards -/
def cod : List Int → Int
  | [] => 0
  | w :: ws => cod ws * 32 + w - 96
theorem hM_w (τ : Int → Int) (f : Int) : ∀ (ws : List Int) (n : Nat), ws.length ≤ 10 → (∀ w ∈ ws, 97 ≤ w ∧ w ≤ 122) → (∀ i : Nat, i < n → 97 ≤ τ (f + i) ∧ τ (f + i) ≤ 122) → (hM τ f n = cod ws ↔ n = ws.length ∧ ∀ i : Nat, i < n → τ (f + i) = ws.getD (n - 1 - i) 0)
  | [], n, _, _, ht => by
    constructor
    · intro h
      cases n with
      | zero => exact ⟨rfl, fun i hi => absurd hi (by omega)⟩
      | succ n =>
        exfalso
        have h0 := ht n (by omega)
        have b := hM_b τ f n (fun i hi => ht i (by omega))
        unfold hM cod at h
        by_cases c : 10 ≤ n
        · rw [if_pos c] at h; omega
        · rw [if_neg c] at h; have := b.2.2 (by omega); omega
    · intro h
      have : n = 0 := h.1
      subst this; rfl
  | w :: ws, n, hl, hw, ht => by
    have w0 := hw w (List.mem_cons_self ..)
    have cp : ∀ l : List Int, (∀ w ∈ l, 97 ≤ w ∧ w ≤ 122) → 0 ≤ cod l := by
      intro l
      induction l with
      | nil => intro _; decide
      | cons x l ih => intro h; have := ih (fun w hw => h w (List.mem_cons_of_mem _ hw)); have := h x (List.mem_cons_self ..); unfold cod; omega
    have c0 := cp ws (fun w hw' => hw w (List.mem_cons_of_mem _ hw'))
    cases n with
    | zero =>
      constructor
      · intro h; exfalso; unfold hM cod at h; omega
      · intro h; exact absurd h.1 (by simp)
    | succ n =>
      have ih := hM_w τ f ws n (by simp only [List.length_cons] at hl; omega) (fun w hw' => hw w (List.mem_cons_of_mem _ hw')) (fun i hi => ht i (by omega))
      have h0 := ht n (by omega)
      have b := hM_b τ f n (fun i hi => ht i (by omega))
      constructor
      · intro h
        unfold hM cod at h
        by_cases c : 10 ≤ n
        · rw [if_pos c] at h; exfalso; omega
        · rw [if_neg c] at h
          have e : hM τ f n = cod ws := by omega
          have e2 : τ (f + n) = w := by omega
          obtain ⟨i1, i2⟩ := ih.mp e
          refine ⟨by simp only [List.length_cons]; omega, fun i hi => ?_⟩
          by_cases hin : i = n
          · subst hin
            have : i + 1 - 1 - i = 0 := by omega
            rw [this]; exact e2
          · rw [i2 i (by omega)]
            have : n + 1 - 1 - i = (n - 1 - i) + 1 := by omega
            rw [this]; rfl
      · intro h
        obtain ⟨k1, k2⟩ := h
        simp only [List.length_cons] at k1 hl
        have e : hM τ f n = cod ws := ih.mpr ⟨by omega, fun i hi => by
          have := k2 i (by omega)
          rw [this]
          have : n + 1 - 1 - i = (n - 1 - i) + 1 := by omega
          rw [this]; rfl⟩
        have e2 : τ (f + n) = w := by
          have := k2 n (by omega)
          rw [this]
          have : n + 1 - 1 - n = 0 := by omega
          rw [this]; rfl
        unfold hM cod
        rw [if_neg (by omega), e, e2]
