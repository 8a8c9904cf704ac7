/-! EVENTUALLY: with fuel enough, the function answers r, and P r -/
def Ev {α : Type} (f : Nat → Option α) (P : α → Prop) : Prop := ∃ N r, (∀ n, N ≤ n → f n = some r) ∧ P r
section EV
variable {α β : Type} {P Q : α → Prop} {T : β → Prop}
theorem Ev_ret {r : α} (h : P r) : Ev (fun _ => some r) P := ⟨0, r, fun _ _ => rfl, h⟩
theorem Ev_of {f : Nat → Option α} {r : α} (k : Nat) (h : ∀ n, f (n + k) = some r) (g : P r) : Ev f P :=
  ⟨k, r, fun n hn => by have := h (n - k); rwa [Nat.sub_add_cancel hn] at this, g⟩
theorem Ev_step {f g : Nat → Option α} (h : ∀ n, f (n + 1) = g n) (k : Ev g P) : Ev f P := by
  obtain ⟨N, r, h1, h2⟩ := k
  refine ⟨N + 1, r, fun n hn => ?_, h2⟩
  obtain ⟨m, rfl⟩ : ∃ m, n = m + 1 := ⟨n - 1, by omega⟩
  rw [h]
  exact h1 m (by omega)
theorem Ev_bind {f : Nat → Option α} {k : Nat → α → Option β} (h : Ev f P) (g : ∀ r, P r → Ev (fun n => k n r) T) : Ev (fun n => (f n).bind (k n)) T := by
  obtain ⟨N, r, h1, h2⟩ := h
  obtain ⟨M, q, h3, h4⟩ := g r h2
  refine ⟨max N M, q, fun n hn => ?_, h4⟩
  show (f n).bind (k n) = some q
  rw [h1 n (by omega)]
  exact h3 n (by omega)
theorem Ev_t {c : Prop} [Decidable c] {f g : Nat → Option α} (hc : c) (h : Ev f P) : Ev (fun n => if c then f n else g n) P := by
  simp only [if_pos hc]; exact h
theorem Ev_f {c : Prop} [Decidable c] {f g : Nat → Option α} (hc : ¬ c) (h : Ev g P) : Ev (fun n => if c then f n else g n) P := by
  simp only [if_neg hc]; exact h
theorem Ev_c {c : Prop} [Decidable c] {f g : Nat → Option α} (h : c → Ev f P) (k : ¬ c → Ev g P) : Ev (fun n => if c then f n else g n) P := by
  by_cases hc : c
  · exact Ev_t hc (h hc)
  · exact Ev_f hc (k hc)
theorem Ev_st {v : β} {k : Nat → β → Option α} (h : Ev (fun n => k n v) P) : Ev (fun n => stI v (k n)) P := h
theorem Ev_sn {v : β} {k : Nat → β → Option α} (h : ∀ x, x = v → Ev (fun n => k n x) P) : Ev (fun n => stI v (k n)) P := h v rfl
theorem Ev_R {o : Option β} {b : β} {k : Nat → β → Option α} (ho : o = some b) (h : Ev (fun n => k n b) P) : Ev (fun n => o.bind (k n)) P := by subst ho; exact h
theorem Ev_mono {f : Nat → Option α} (h : Ev f P) (g : ∀ r, P r → Q r) : Ev f Q := by
  obtain ⟨N, r, h1, h2⟩ := h
  exact ⟨N, r, h1, g r h2⟩
theorem Ev_pc {f : Nat → Option α} (h : Ev f P) (g : ∀ n, Pc (f n) Q) : Ev f (fun r => P r ∧ Q r) := by
  obtain ⟨N, r, h1, h2⟩ := h
  exact ⟨N, r, h1, h2, g N r (h1 N (Nat.le_refl _))⟩
theorem Ev_run {f : Nat → Option α} (h : Ev f P) : ∃ n r, f n = some r ∧ P r := by
  obtain ⟨N, r, h1, h2⟩ := h
  exact ⟨N, r, h1 N (Nat.le_refl _), h2⟩
theorem Ev_and {f : Nat → Option α} (h : Ev f P) (g : Ev f Q) : Ev f (fun r => P r ∧ Q r) := by
  obtain ⟨N, r, h1, h2⟩ := h
  obtain ⟨M, q, h3, h4⟩ := g
  have e : r = q := by
    have a := h1 (max N M) (by omega)
    have b := h3 (max N M) (by omega)
    rw [a] at b
    exact Option.some.inj b
  exact ⟨N, r, h1, h2, e ▸ h4⟩
end EV
/-- a loop that runs with a Nat that falls -/
theorem dec_ind {P : Nat → Prop} (N : Nat) (h : ∀ i, i ≤ N → (i < N → P (i + 1)) → P i) : ∀ i, i ≤ N → P i := by
  intro i hi
  obtain ⟨k, hk⟩ : ∃ k, N = i + k := ⟨N - i, by omega⟩
  induction k generalizing i with
  | zero => exact h i hi (fun q => by omega)
  | succ k ih => exact h i hi (fun q => ih (i + 1) (by omega) (by omega))
theorem F3_id {β : Type} {I : Nat → Nat → Int32} {L : Nat → Nat → Int64} {r : β × (Nat → Nat → Int32) × (Nat → Nat → Int64)} (h : F3 [] [] I L r) : r.2.1 = I ∧ r.2.2 = L :=
  ⟨funext fun a => funext fun j => h.1 a j rfl, funext fun a => funext fun j => h.2 a j rfl⟩
theorem FR_L {L M : Nat → Nat → Int64} (h : FR [] L M) : M = L := funext fun a => funext fun j => h a j rfl
/-- a function that writes nothing: only its answer is to be shown -/
theorem Ev_ro {β : Type} {f : Nat → Option (β × (Nat → Nat → Int32) × (Nat → Nat → Int64))} {I : Nat → Nat → Int32} {L : Nat → Nat → Int64} {v : β} (h : Ev f (fun r => r.1 = v)) (g : ∀ n, Pc (f n) (F3 [] [] I L)) : Ev f (fun r => r = (v, I, L)) :=
  Ev_mono (Ev_pc h g) (fun r q => by obtain ⟨x, y, w⟩ := r; obtain ⟨h1, h2⟩ := q; have := F3_id h2; simp at h1 this; obtain ⟨h3, h4⟩ := this; rw [h1, h3, h4])
theorem i1 : Int32.ofInt 1 = nI 1 := rfl
theorem im1 : Int32.ofInt (-1) = -1 := rfl
theorem u2_ite {α : Type} (f : Nat → Nat → α) (a k : Nat) (v : α) (b j : Nat) : u2 f a k v b j = if b = a ∧ j = k then v else f b j := by
  unfold u2 va_up
  by_cases h1 : b = a
  · subst h1
    by_cases h2 : j = k
    · simp [h2]
    · simp [h2]
  · simp [h1]
