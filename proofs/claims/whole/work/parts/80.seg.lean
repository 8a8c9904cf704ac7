/-! PARSER 1: what a row of steps says (an abstract machine; a segment of steps computes a denotation) -/
abbrev Den : Type := (Int → Int) → Option Int
def jn (o a b : Int) : Option Int :=
  if o = 2 then (if a + b < -1000000000 ∨ 1000000000 < a + b then none else some (a + b))
  else if o = 3 then (if a - b < -1000000000 ∨ 1000000000 < a - b then none else some (a - b))
  else if o = 4 then (if a * b < -1000000000 ∨ 1000000000 < a * b then none else some (a * b))
  else if o = 5 then (if b = 0 ∨ Int.tdiv a b < -1000000000 ∨ 1000000000 < Int.tdiv a b then none else some (Int.tdiv a b))
  else if o = 6 then some (if a < b then 1 else 0)
  else if o = 7 then some (if b < a then 1 else 0)
  else some (if a = b then 1 else 0)
def stp (C : Int → Int × Int) (φ : Int → Int) (p : Int) (s : List Int) : Option (Int × List Int) :=
  if (C p).1 = 0 then some (p + 1, (C p).2 :: s)
  else if (C p).1 = 1 then some (p + 1, φ (C p).2 :: s)
  else if (C p).1 = 9 then (match s with | [] => some (p, s) | v :: s' => some (p + 1, (1 - v) :: s'))
  else if (C p).1 = 10 ∨ (C p).1 = 11 then (match s with | [] => some (p, s) | v :: s' => if v = (if (C p).1 = 10 then 1 else 0) then some ((C p).2, v :: s') else some (p + 1, s'))
  else (match s with | b :: a :: s' => (jn (C p).1 a b).map (fun v => (p + 1, v :: s')) | _ => some (p, s))
def Gd (H : Nat) (s : List Int) : Prop := s.length ≤ H ∧ ∀ v ∈ s, -1000000000 ≤ v ∧ v ≤ 1000000000
def Fg (φ : Int → Int) : Prop := ∀ i, -1000000000 ≤ φ i ∧ φ i ≤ 1000000000
def Aft (X : Int → List Int → Prop) (B : Prop) (H : Nat) (p b : Int) (o : Option (Int × List Int)) : Prop := (o = none → B) ∧ ∀ q, o = some q → p < q.1 ∧ q.1 ≤ b ∧ Gd H q.2 ∧ X q.1 q.2
def Wf (c : Int × Int) : Prop := 0 ≤ c.1 ∧ c.1 ≤ 11 ∧ (c.1 = 1 → 0 ≤ c.2 ∧ c.2 < 5)
def Cl (C : Int → Int × Int) (φ : Int → Int) (X : Int → List Int → Prop) (B : Prop) (H : Nat) (a b : Int) : Prop := ∀ p s, a ≤ p → p < b → Wf (C p) → Gd H s → Aft X B H p b (stp C φ p s) → X p s
def Bd (d : Den) : Prop := ∀ φ, Fg φ → ∀ v, d φ = some v → -1000000000 ≤ v ∧ v ≤ 1000000000
def Td (d : Den) : Prop := ∀ φ, Fg φ → ∀ v, d φ = some v → v = 0 ∨ v = 1
def Seg (C : Int → Int × Int) (a b : Int) (d : Den) (h : Nat) : Prop := a < b ∧ 1 ≤ h ∧ Bd d ∧ ∀ φ, Fg φ → ∀ (X : Int → List Int → Prop) (B : Prop) (H : Nat), Cl C φ X B H a b → ∀ s, Gd H s → s.length + h ≤ H → ((d φ = none → B) ∧ ∀ v, d φ = some v → X b (v :: s)) → X a s
def dK (x : Int) : Den := fun _ => some x
def dL (x : Int) : Den := fun φ => some (φ x)
def dB (o : Int) (d1 d2 : Den) : Den := fun φ => (d1 φ).bind fun a => (d2 φ).bind fun b => jn o a b
def dN (d : Den) : Den := fun φ => (d φ).map fun v => 1 - v
def dA (d1 d2 : Den) : Den := fun φ => (d1 φ).bind fun a => if a = 0 then some 0 else d2 φ
def dO (d1 d2 : Den) : Den := fun φ => (d1 φ).bind fun a => if a = 1 then some 1 else d2 φ
theorem dN_dN (d : Den) : dN (dN d) = d := by
  funext φ
  unfold dN
  cases d φ with
  | none => rfl
  | some v => simp only [Option.map_some]; congr 1; omega
theorem jn_b {o a b v : Int} (h : jn o a b = some v) : -1000000000 ≤ v ∧ v ≤ 1000000000 := by
  unfold jn at h
  repeat' split at h
  all_goals first | (cases h; done) | (injection h with h; subst h; omega) | (injection h with h; subst h; split <;> omega)
theorem jn_t {o a b v : Int} (ho : 6 ≤ o) (h : jn o a b = some v) : v = 0 ∨ v = 1 := by
  unfold jn at h
  rw [if_neg (by omega), if_neg (by omega), if_neg (by omega), if_neg (by omega)] at h
  repeat' split at h
  all_goals injection h with h; subst h; omega
theorem Gd_cons {H : Nat} {s : List Int} {v : Int} (h : Gd H s) (hl : s.length + 1 ≤ H) (hv : -1000000000 ≤ v ∧ v ≤ 1000000000) : Gd H (v :: s) := by
  refine ⟨hl, fun w hw => ?_⟩
  rcases List.mem_cons.mp hw with e | e
  · subst e; exact hv
  · exact h.2 w e
theorem Cl_sub {C : Int → Int × Int} {φ : Int → Int} {X : Int → List Int → Prop} {B : Prop} {H : Nat} {a b a' b' : Int} (h : Cl C φ X B H a b) (ha : a ≤ a') (hb : b' ≤ b) : Cl C φ X B H a' b' := fun p s h1 h2 hw h3 h4 =>
  h p s (by omega) (by omega) hw h3 ⟨h4.1, fun q hq => by have := h4.2 q hq; exact ⟨this.1, by omega, this.2.2⟩⟩
theorem Td_Bd {d : Den} (h : Td d) : Bd d := fun φ hf v hv => by rcases h φ hf v hv with e | e <;> subst e <;> omega
theorem seg_k {C : Int → Int × Int} {a x : Int} (h : C a = (0, x)) (hx : -1000000000 ≤ x ∧ x ≤ 1000000000) : Seg C a (a + 1) (dK x) 1 := by
  refine ⟨by omega, by omega, fun φ _ v hv => by cases hv; exact hx, fun φ hf X B H hc s hs hl hd => ?_⟩
  refine hc a s (by omega) (by omega) (by rw [h]; exact ⟨by dsimp only; decide, by dsimp only; decide, fun z => absurd z (by dsimp only; decide)⟩) hs ?_
  unfold stp
  rw [h, if_pos rfl]
  exact ⟨fun e => (nomatch e), fun q hq => by cases hq; exact ⟨by dsimp; omega, by dsimp; omega, Gd_cons hs hl hx, hd.2 x rfl⟩⟩
theorem seg_l {C : Int → Int × Int} {a x : Int} (h : C a = (1, x)) (hx : 0 ≤ x ∧ x < 5) : Seg C a (a + 1) (dL x) 1 := by
  refine ⟨by omega, by omega, fun φ hf v hv => by cases hv; exact hf x, fun φ hf X B H hc s hs hl hd => ?_⟩
  refine hc a s (by omega) (by omega) (by rw [h]; exact ⟨by dsimp only; decide, by dsimp only; decide, fun _ => hx⟩) hs ?_
  unfold stp
  rw [h, if_neg (by dsimp only; decide), if_pos rfl]
  exact ⟨fun e => (nomatch e), fun q hq => by cases hq; exact ⟨by dsimp; omega, by dsimp; omega, Gd_cons hs hl (hf x), hd.2 _ rfl⟩⟩
theorem seg_b {C : Int → Int × Int} {a b c o : Int} {d1 d2 : Den} {h1 h2 h : Nat} (s1 : Seg C a b d1 h1) (s2 : Seg C b c d2 h2) (ho : (C c).1 = o) (hr : 2 ≤ o ∧ o ≤ 8) (hh : h1 ≤ h ∧ 1 + h2 ≤ h) : Seg C a (c + 1) (dB o d1 d2) h := by
  obtain ⟨l1, m1, b1, k1⟩ := s1
  obtain ⟨l2, m2, b2, k2⟩ := s2
  refine ⟨by omega, by omega, fun φ _ v hv => ?_, fun φ hf X B H hc s hs hl hd => ?_⟩
  · unfold dB at hv
    cases e1 : d1 φ with
    | none => rw [e1] at hv; cases hv
    | some x =>
      cases e2 : d2 φ with
      | none => rw [e1, e2] at hv; cases hv
      | some y => rw [e1, e2] at hv; exact jn_b hv
  · refine k1 φ hf X B H (Cl_sub hc (by omega) (by omega)) s hs (by omega) ⟨fun e => hd.1 (by unfold dB; rw [e]; rfl), fun x e1 => ?_⟩
    have g1 := Gd_cons hs (by have := hl; omega) (b1 φ hf x e1)
    refine k2 φ hf X B H (Cl_sub hc (by omega) (by omega)) (x :: s) g1 (by simp only [List.length_cons]; omega) ⟨fun e => hd.1 (by unfold dB; rw [e1, e]; rfl), fun y e2 => ?_⟩
    refine hc c (y :: x :: s) (by omega) (by omega) ⟨by omega, by omega, fun z => by omega⟩ (Gd_cons g1 (by simp only [List.length_cons]; omega) (b2 φ hf y e2)) ?_
    have e : dB o d1 d2 φ = jn o x y := by unfold dB; rw [e1, e2]; rfl
    unfold stp
    rw [ho, if_neg (by omega), if_neg (by omega), if_neg (by omega), if_neg (by omega)]
    dsimp only
    rw [e] at hd
    cases ej : jn o x y with
    | none => exact ⟨fun _ => hd.1 ej, fun q hq => (nomatch hq)⟩
    | some v => exact ⟨fun q => (nomatch q), fun q hq => by cases hq; exact ⟨by dsimp; omega, by dsimp; omega, Gd_cons hs (by omega) (jn_b ej), hd.2 v ej⟩⟩
theorem seg_n {C : Int → Int × Int} {a b : Int} {d : Den} {h : Nat} (s1 : Seg C a b d h) (ht : Td d) (ho : (C b).1 = 9) : Seg C a (b + 1) (dN d) h ∧ Td (dN d) := by
  have t : Td (dN d) := fun φ hf v hv => by
    unfold dN at hv
    cases e : d φ with
    | none => rw [e] at hv; cases hv
    | some x =>
      rw [e] at hv
      simp only [Option.map_some, Option.some.injEq] at hv
      have := ht φ hf x e
      omega
  obtain ⟨l1, m1, b1, k1⟩ := s1
  refine ⟨⟨by omega, m1, Td_Bd t, fun φ hf X B H hc s hs hl hd => ?_⟩, t⟩
  refine k1 φ hf X B H (Cl_sub hc (by omega) (by omega)) s hs hl ⟨fun e => hd.1 (by unfold dN; rw [e]; rfl), fun x e1 => ?_⟩
  have hH : s.length + 1 ≤ H := by omega
  refine hc b (x :: s) (by omega) (by omega) ⟨by omega, by omega, fun z => by omega⟩ (Gd_cons hs hH (b1 φ hf x e1)) ?_
  have e : dN d φ = some (1 - x) := by unfold dN; rw [e1]; rfl
  unfold stp
  rw [ho, if_neg (by decide), if_neg (by decide), if_pos rfl]
  exact ⟨fun q => (nomatch q), fun q hq => by cases hq; exact ⟨by dsimp; omega, by dsimp; omega, Gd_cons hs hH (Td_Bd t φ hf _ e), hd.2 _ e⟩⟩
theorem seg_a {C : Int → Int × Int} {a b c : Int} {d1 d2 : Den} {h1 h2 h : Nat} (s1 : Seg C a b d1 h1) (t1 : Td d1) (hC : C b = (11, c)) (s2 : Seg C (b + 1) c d2 h2) (t2 : Td d2) (hh : h1 ≤ h ∧ h2 ≤ h) : Seg C a c (dA d1 d2) h ∧ Td (dA d1 d2) := by
  have t : Td (dA d1 d2) := fun φ hf v hv => by
    unfold dA at hv
    cases e : d1 φ with
    | none => rw [e] at hv; cases hv
    | some x =>
      rw [e] at hv
      simp only [Option.bind_some] at hv
      split at hv
      · injection hv with hv; omega
      · exact t2 φ hf v hv
  obtain ⟨l1, m1, b1, k1⟩ := s1
  obtain ⟨l2, m2, b2, k2⟩ := s2
  refine ⟨⟨by omega, by omega, Td_Bd t, fun φ hf X B H hc s hs hl hd => ?_⟩, t⟩
  refine k1 φ hf X B H (Cl_sub hc (by omega) (by omega)) s hs (by omega) ⟨fun e => hd.1 (by unfold dA; rw [e]; rfl), fun x e1 => ?_⟩
  have hH : s.length + 1 ≤ H := by omega
  have g1 := Gd_cons hs hH (b1 φ hf x e1)
  refine hc b (x :: s) (by omega) (by omega) (by rw [hC]; exact ⟨by dsimp only; decide, by dsimp only; decide, fun z => absurd z (by dsimp only; decide)⟩) g1 ?_
  have e : dA d1 d2 φ = if x = 0 then some 0 else d2 φ := by unfold dA; rw [e1]; rfl
  unfold stp
  rw [hC, if_neg (by dsimp only; decide), if_neg (by dsimp only; decide), if_neg (by dsimp only; decide), if_pos (Or.inr rfl)]
  dsimp only
  rw [if_neg (show ¬ ((11 : Int) = 10) by decide)]
  by_cases hx : x = 0
  · rw [if_pos hx]
    rw [if_pos hx] at e
    exact ⟨fun q => (nomatch q), fun q hq => by cases hq; exact ⟨by dsimp; omega, by dsimp; omega, g1, by subst hx; exact hd.2 _ e⟩⟩
  · rw [if_neg hx]
    rw [if_neg hx] at e
    exact ⟨fun q => (nomatch q), fun q hq => by cases hq; exact ⟨by dsimp; omega, by dsimp; omega, hs, k2 φ hf X B H (Cl_sub hc (by omega) (by omega)) s hs (by omega) ⟨fun q => hd.1 (e.trans q), fun v q => hd.2 v (e.trans q)⟩⟩⟩
theorem seg_o {C : Int → Int × Int} {a b c : Int} {d1 d2 : Den} {h1 h2 h : Nat} (s1 : Seg C a b d1 h1) (t1 : Td d1) (hC : C b = (10, c)) (s2 : Seg C (b + 1) c d2 h2) (t2 : Td d2) (hh : h1 ≤ h ∧ h2 ≤ h) : Seg C a c (dO d1 d2) h ∧ Td (dO d1 d2) := by
  have t : Td (dO d1 d2) := fun φ hf v hv => by
    unfold dO at hv
    cases e : d1 φ with
    | none => rw [e] at hv; cases hv
    | some x =>
      rw [e] at hv
      simp only [Option.bind_some] at hv
      split at hv
      · injection hv with hv; omega
      · exact t2 φ hf v hv
  obtain ⟨l1, m1, b1, k1⟩ := s1
  obtain ⟨l2, m2, b2, k2⟩ := s2
  refine ⟨⟨by omega, by omega, Td_Bd t, fun φ hf X B H hc s hs hl hd => ?_⟩, t⟩
  refine k1 φ hf X B H (Cl_sub hc (by omega) (by omega)) s hs (by omega) ⟨fun e => hd.1 (by unfold dO; rw [e]; rfl), fun x e1 => ?_⟩
  have hH : s.length + 1 ≤ H := by omega
  have g1 := Gd_cons hs hH (b1 φ hf x e1)
  refine hc b (x :: s) (by omega) (by omega) (by rw [hC]; exact ⟨by dsimp only; decide, by dsimp only; decide, fun z => absurd z (by dsimp only; decide)⟩) g1 ?_
  have e : dO d1 d2 φ = if x = 1 then some 1 else d2 φ := by unfold dO; rw [e1]; rfl
  unfold stp
  rw [hC, if_neg (by dsimp only; decide), if_neg (by dsimp only; decide), if_neg (by dsimp only; decide), if_pos (Or.inl rfl)]
  dsimp only
  rw [if_pos (show ((10 : Int) = 10) from rfl)]
  by_cases hx : x = 1
  · rw [if_pos hx]
    rw [if_pos hx] at e
    exact ⟨fun q => (nomatch q), fun q hq => by cases hq; exact ⟨by dsimp; omega, by dsimp; omega, g1, by subst hx; exact hd.2 _ e⟩⟩
  · rw [if_neg hx]
    rw [if_neg hx] at e
    exact ⟨fun q => (nomatch q), fun q hq => by cases hq; exact ⟨by dsimp; omega, by dsimp; omega, hs, k2 φ hf X B H (Cl_sub hc (by omega) (by omega)) s hs (by omega) ⟨fun q => hd.1 (e.trans q), fun v q => hd.2 v (e.trans q)⟩⟩⟩
theorem seg_congr {C C' : Int → Int × Int} {a b : Int} {d : Den} {h : Nat} (hC : ∀ i, a ≤ i → i < b → C' i = C i) (s : Seg C a b d h) : Seg C' a b d h := by
  obtain ⟨l1, m1, b1, k1⟩ := s
  refine ⟨l1, m1, b1, fun φ hf X B H hc s hs hl hd => k1 φ hf X B H (fun p s h1 h2 hw h3 h4 => hc p s h1 h2 (by rw [hC p h1 h2]; exact hw) h3 ?_) s hs hl hd⟩
  have : stp C' φ p s = stp C φ p s := by unfold stp; rw [hC p h1 h2]
  rw [this]
  exact h4
theorem seg_le {C : Int → Int × Int} {a b : Int} {d : Den} {h h' : Nat} (hh : h ≤ h') (s : Seg C a b d h) : Seg C a b d h' := by
  obtain ⟨l1, m1, b1, k1⟩ := s
  exact ⟨l1, by omega, b1, fun φ hf X B H hc s hs hl hd => k1 φ hf X B H hc s hs (by omega) hd⟩
theorem dB_Td {o : Int} {d1 d2 : Den} (ho : 6 ≤ o) : Td (dB o d1 d2) := fun φ hf v hv => by
  unfold dB at hv
  cases e1 : d1 φ with
  | none => rw [e1] at hv; cases hv
  | some x =>
    cases e2 : d2 φ with
    | none => rw [e1, e2] at hv; cases hv
    | some y => rw [e1, e2] at hv; exact jn_t ho hv
