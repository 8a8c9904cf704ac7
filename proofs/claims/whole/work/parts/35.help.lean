/-! help for the pure proofs: calls, indices, counting -/
theorem Ev_call {α β : Type} {T : β → Prop} {f : Nat → Option α} {k : Nat → α → Option β} {v : α} (h : Ev f (fun r => r = v)) (g : Ev (fun n => k n v) T) : Ev (fun n => (f n).bind (k n)) T :=
  Ev_bind h (fun r hr => by subst hr; exact g)
theorem ixn {j N : Nat} (h : j < N) (hN : N < 2 ^ 31) : 0 ≤ nI j ∧ (nI j).toNatClampNeg < N := ⟨nI_pos' (by omega), by rw [nI_clamp (by omega)]; exact h⟩
theorem ix2 {x : Int32} {j N : Nat} (hx : x = nI j) (h : j < N) (hN : N < 2 ^ 31) : 0 ≤ x ∧ x.toNatClampNeg < N := by subst hx; exact ixn h hN
theorem cl2 {x : Int32} {j : Nat} (hx : x = nI j) (h : j < 2 ^ 31) : x.toNatClampNeg = j := by subst hx; exact nI_clamp h
theorem nle {a b : Nat} (h : ¬ a ≤ b) (hb : a < 2 ^ 31) : ¬ nI a ≤ nI b := nI_ge (by omega) hb
theorem nlt {a b : Nat} (h : ¬ a < b) (hb : a < 2 ^ 31) : ¬ nI a < nI b := nI_nlt (by omega) hb
theorem nI_m1 {j : Nat} (h : j < 2 ^ 31) : ¬ nI j = -1 := fun q => by
  have := nI_pos' h
  rw [q] at this
  exact absurd this (by decide)
section CALLS
variable {dp : Nat} {e : EN} {I : Nat → Nat → Int32} {L : Nat → Nat → Int64}
theorem E14 {x lo hi : Int32} : Ev (fun n => g_14 n dp e 0 I L x lo hi) (fun r => r = (wi x lo hi, I, L)) := Ev_of 1 (fun n => p_14 n dp e I L x lo hi) rfl
theorem E193 {x lo hi : Int64} : Ev (fun n => g_193 n dp e 0 I L x lo hi) (fun r => r = (wl x lo hi, I, L)) := Ev_of 1 (fun n => p_193 n dp e I L x lo hi) rfl
theorem E19 {x : Int32} : Ev (fun n => g_19 n dp e 0 I L x) (fun r => r = (x, u2 I 0 18 0, L)) := Ev_of 1 (fun n => p_19 n dp e I L x) rfl
theorem E15 {b : Int32} (hd : 1 ≤ dp) (hb : b = -1 ∨ b = -2 ∨ b = -3 ∨ b = -5 ∨ b = -6) : Ev (fun n => g_15 n dp e 0 I L b) (fun r => r = (b, rfI I b, L)) := Ev_of 2 (fun n => p_15 n dp hd e I L b hb) rfl
theorem E194n {v : Int32} (j : Nat) (hv : (v = -1 ∧ j = 1) ∨ (v = -2 ∧ j = 2) ∨ (v = -3 ∧ j = 3) ∨ (v = -5 ∧ j = 5) ∨ (v = -6 ∧ j = 6)) : Ev (fun n => g_194 n dp e 0 I L v) (fun r => r = (v, telI I v j, L)) := Ev_of 1 (fun n => p_194n n dp e I L v j hv) rfl
theorem E194p {v : Int32} (hv : 0 ≤ v) : Ev (fun n => g_194 n dp e 0 I L v) (fun r => r = (v, oksI I, L)) := Ev_of 1 (fun n => p_194p n dp e I L v hv) rfl
theorem E200 {v : Int32} : Ev (fun n => g_200 n dp e 0 I L v) (fun r => r = (v, oksI I, L)) := Ev_of 1 (fun n => p_200 n dp e I L v) rfl
theorem E199 {j : Nat} {v : Int32} (hd : 1 ≤ dp) (hj : j < 1570) : Ev (fun n => g_199 n dp e 0 I L (nI j) v) (fun r => r = (I 107 j, oksI (u2 I 107 j v), L)) := Ev_of 2 (fun n => p_199 n dp hd e I L j hj v) rfl
theorem E197 {x : Int32} (hd : 1 ≤ dp) : Ev (fun n => g_197 n dp e 0 I L x) (fun r => r = (wi x 0 2, I, L)) := Ev_of 2 (fun n => p_197 n dp hd e I L x) rfl
theorem E202 {x : Int32} (hd : 1 ≤ dp) : Ev (fun n => g_202 n dp e 0 I L x) (fun r => r = (wi x 0 9, I, L)) := Ev_of 2 (fun n => p_202 n dp hd e I L x) rfl
end CALLS
/-- how many below n have p -/
def cnb (p : Nat → Bool) : Nat → Nat
  | 0 => 0
  | n + 1 => cnb p n + (if p n then 1 else 0)
theorem cnb_le (p : Nat → Bool) : ∀ n, cnb p n ≤ n
  | 0 => Nat.le_refl _
  | n + 1 => by have := cnb_le p n; unfold cnb; split <;> omega
theorem cnb_mono {p q : Nat → Bool} : ∀ n, (∀ b, b < n → p b = true → q b = true) → cnb p n ≤ cnb q n
  | 0, _ => Nat.le_refl _
  | n + 1, h => by
    have h1 := cnb_mono n (fun b hb => h b (by omega))
    have h2 := h n (by omega)
    unfold cnb
    cases hp : p n with
    | false => simp; split <;> omega
    | true => rw [h2 hp]; simp; omega
theorem cnb_lt {p q : Nat → Bool} : ∀ n, (∀ b, b < n → p b = true → q b = true) → (∃ b, b < n ∧ p b = false ∧ q b = true) → cnb p n < cnb q n
  | 0, _, ⟨b, hb, _⟩ => by omega
  | n + 1, h, ⟨b, hb, h1, h2⟩ => by
    have g1 := cnb_mono n (fun b hb => h b (by omega))
    have h3 := h n (by omega)
    unfold cnb
    by_cases e : b = n
    · subst e
      rw [h1, h2]; simp; omega
    · have g2 := cnb_lt n (fun b hb => h b (by omega)) ⟨b, by omega, h1, h2⟩
      cases hp : p n with
      | false => simp; split <;> omega
      | true => rw [h3 hp]; simp; omega
theorem cnb_all {p : Nat → Bool} : ∀ n, n ≤ cnb p n → ∀ b, b < n → p b = true
  | 0, _, b, hb => by omega
  | n + 1, h, b, hb => by
    have g := cnb_le p n
    unfold cnb at h
    cases hp : p n with
    | false => rw [hp] at h; simp at h; omega
    | true =>
      rw [hp] at h
      simp at h
      by_cases e : b = n
      · rw [e, hp]
      · exact cnb_all n h b (by omega)
theorem cnb_pos {p : Nat → Bool} : ∀ n, (∃ b, b < n ∧ p b = true) → 0 < cnb p n
  | 0, ⟨b, hb, _⟩ => by omega
  | n + 1, ⟨b, hb, h⟩ => by
    unfold cnb
    by_cases e : b = n
    · subst e; rw [h]; simp
    · have := cnb_pos n ⟨b, by omega, h⟩; omega
theorem vu_same {α : Type} {f : Nat → α} {a : Nat} {v : α} : va_up f a v a = v := by unfold va_up; rw [if_pos rfl]
theorem vu_ne {α : Type} {f : Nat → α} {a b : Nat} {v : α} (h : b ≠ a) : va_up f a v b = f b := by unfold va_up; rw [if_neg h]
theorem vu_u2 {α : Type} {f : Nat → Nat → α} {a k : Nat} {g : Nat → α} {v : α} : u2 (va_up f a g) a k v = va_up f a (va_up g k v) := by
  unfold u2
  rw [vu_same]
  funext b
  unfold va_up
  by_cases h : b = a
  · rw [if_pos h, if_pos h]
  · rw [if_neg h, if_neg h, if_neg h]
theorem vu_id {α : Type} {f : Nat → Nat → α} {a : Nat} : va_up f a (f a) = f := by
  funext b
  unfold va_up
  by_cases h : b = a
  · rw [if_pos h, h]
  · rw [if_neg h]
theorem vu_vu {α : Type} {f : Nat → α} {a : Nat} {g k : α} : va_up (va_up f a g) a k = va_up f a k := by
  funext b
  unfold va_up
  by_cases h : b = a
  · rw [if_pos h, if_pos h]
  · rw [if_neg h, if_neg h, if_neg h]
