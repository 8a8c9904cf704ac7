/-! THE CLASS'S PLANS: layers of fillings, what they hold -/
/-- one more set of choices behind those that were looked at -/
theorem MxH_j {α : Type} {l : List α} {val : α → Int} {D D1 H2 : α → Prop} {b n b2 n2 : Int} (h : MxH l val D b n) (g : MxH l val H2 b2 n2) (hD : ∀ x ∈ l, ¬ (D x ∧ H2 x)) (hU : ∀ x ∈ l, D1 x ↔ D x ∨ H2 x) : (b < b2 → MxH l val D1 b2 n2) ∧ (b2 = b → ∀ n', 0 ≤ n' → min 1000000000 n' = min 1000000000 (n + n2) → MxH l val D1 b n') ∧ (b2 < b → MxH l val D1 b n) := by
  refine ⟨fun c => ?_, fun c n' h0 hn => ?_, fun c => ?_⟩
  · exact MxH_g (H2 := D) g (fun x hx => (hU x hx).trans Or.comm) (fun x hx k => by have := h.1 x hx k; omega) rfl rfl
  · subst c
    exact MxH_e h g hD hU h0 hn
  · exact MxH_g (H2 := H2) h hU (fun x hx k => by have := g.1 x hx k; omega) rfl rfl
/-- entries of a layer: N of them, each filling once, with the most that is gained on the way to it, and how often -/
def LyN {α : Type} (l : List α) (val cd : α → Int) (D : α → Prop) (N : Nat) (F S C : Nat → Int) : Prop :=
  (∀ e e' : Nat, e < N → e' < N → F e = F e' → e = e') ∧ (∀ y ∈ l, D y → ∃ e : Nat, e < N ∧ cd y = F e) ∧ ∀ e : Nat, e < N → MxH l val (fun y => D y ∧ cd y = F e) (S e) (C e) ∧ C e ≤ 1000000000
theorem LyN_c {α : Type} {l : List α} {val cd : α → Int} {D D' : α → Prop} {N : Nat} {F S C F' S' C' : Nat → Int} (hD : ∀ y ∈ l, D' y ↔ D y) (hF : ∀ e, e < N → F' e = F e ∧ S' e = S e ∧ C' e = C e) (h : LyN l val cd D N F S C) : LyN l val cd D' N F' S' C' := by
  obtain ⟨h1, h2, h3⟩ := h
  refine ⟨fun e e' x y z => h1 e e' x y (by rw [← (hF e x).1, ← (hF e' y).1]; exact z), fun y hy d => ?_, fun e he => ?_⟩
  · obtain ⟨e, a, b⟩ := h2 y hy ((hD y hy).1 d)
    exact ⟨e, a, by rw [(hF e a).1]; exact b⟩
  · obtain ⟨a, b, c⟩ := hF e he
    rw [a, b, c]
    exact ⟨MxH_c (fun y hy => and_congr (hD y hy) Iff.rfl) (fun _ _ _ => rfl) (h3 e he).1, (h3 e he).2⟩
theorem LyN_0 {α : Type} {l : List α} {val cd : α → Int} {D : α → Prop} {F S C : Nat → Int} (hD : ∀ y ∈ l, ¬ D y) : LyN l val cd D 0 F S C := ⟨fun e e' x => absurd x (by omega), fun y hy d => absurd d (hD y hy), fun e he => absurd he (by omega)⟩
section LY
variable {α : Type} {l : List α} {val cd : α → Int} {D D1 H2 : α → Prop} {N : Nat} {F S C F' S' C' : Nat → Int} {f s n : Int}
theorem LyN_new (h : LyN l val cd D N F S C) (g : MxH l val H2 s n) (hf : ∀ y ∈ l, H2 y → cd y = f) (hU : ∀ y ∈ l, D1 y ↔ D y ∨ H2 y) (hno : ∀ e, e < N → ¬ F e = f) (hF : ∀ e, e < N → F' e = F e ∧ S' e = S e ∧ C' e = C e) (h1 : F' N = f) (h2 : S' N = s) (h3 : C' N = n) (hn : n ≤ 1000000000) : LyN l val cd D1 (N + 1) F' S' C' := by
  obtain ⟨a1, a2, a3⟩ := h
  refine ⟨fun e e' x y z => ?_, fun y hy d => ?_, fun e he => ?_⟩
  · by_cases p : e = N
    · by_cases q : e' = N
      · omega
      · subst p
        rw [h1, (hF e' (by omega)).1] at z
        exact absurd z.symm (hno e' (by omega))
    · by_cases q : e' = N
      · subst q
        rw [h1, (hF e (by omega)).1] at z
        exact absurd z (hno e (by omega))
      · rw [(hF e (by omega)).1, (hF e' (by omega)).1] at z
        exact a1 e e' (by omega) (by omega) z
  · rcases (hU y hy).1 d with k | k
    · obtain ⟨e, p, q⟩ := a2 y hy k
      exact ⟨e, by omega, by rw [(hF e p).1]; exact q⟩
    · exact ⟨N, by omega, by rw [h1]; exact hf y hy k⟩
  · by_cases p : e = N
    · subst p
      rw [h1, h2, h3]
      refine ⟨MxH_c (fun y hy => ?_) (fun _ _ _ => rfl) g, hn⟩
      constructor
      · rintro ⟨z1, z2⟩
        rcases (hU y hy).1 z1 with k | k
        · obtain ⟨e', p, q⟩ := a2 y hy k
          exact absurd (q.symm.trans z2) (hno e' p)
        · exact k
      · exact fun k => ⟨(hU y hy).2 (Or.inr k), hf y hy k⟩
    · obtain ⟨x, y, z⟩ := hF e (by omega)
      rw [x, y, z]
      refine ⟨MxH_c (fun y hy => ?_) (fun _ _ _ => rfl) (a3 e (by omega)).1, (a3 e (by omega)).2⟩
      constructor
      · rintro ⟨z1, z2⟩
        rcases (hU y hy).1 z1 with k | k
        · exact ⟨k, z2⟩
        · exact absurd (z2.symm.trans (hf y hy k)) (hno e (by omega))
      · rintro ⟨z1, z2⟩
        exact ⟨(hU y hy).2 (Or.inl z1), z2⟩
theorem LyN_old (h : LyN l val cd D N F S C) (g : MxH l val H2 s n) (hf : ∀ y ∈ l, H2 y → cd y = f) (hD : ∀ y ∈ l, ¬ (D y ∧ H2 y)) (hU : ∀ y ∈ l, D1 y ↔ D y ∨ H2 y) {e0 : Nat} (he : e0 < N) (hF0 : F e0 = f) (hF : ∀ e, e < N → F' e = F e ∧ (¬ e = e0 → S' e = S e ∧ C' e = C e)) (hx : (S e0 < s ∧ S' e0 = s ∧ C' e0 = n) ∨ (s = S e0 ∧ S' e0 = S e0 ∧ 0 ≤ C' e0 ∧ min 1000000000 (C' e0) = min 1000000000 (C e0 + n)) ∨ (s < S e0 ∧ S' e0 = S e0 ∧ C' e0 = C e0)) (hn : C' e0 ≤ 1000000000) : LyN l val cd D1 N F' S' C' := by
  obtain ⟨a1, a2, a3⟩ := h
  refine ⟨fun e e' x y z => ?_, fun y hy d => ?_, fun e he' => ?_⟩
  · rw [(hF e x).1, (hF e' y).1] at z
    exact a1 e e' x y z
  · rcases (hU y hy).1 d with k | k
    · obtain ⟨e, p, q⟩ := a2 y hy k
      exact ⟨e, p, by rw [(hF e p).1]; exact q⟩
    · exact ⟨e0, he, by rw [(hF e0 he).1, hF0]; exact hf y hy k⟩
  · by_cases p : e = e0
    · subst p
      refine ⟨?_, hn⟩
      rw [(hF e he).1, hF0]
      have A := (a3 e he).1
      rw [hF0] at A
      have J := MxH_j (D1 := fun y => D1 y ∧ cd y = f) A g (fun x hx z => hD x hx ⟨z.1.1, z.2⟩) (fun y hy => by
        constructor
        · rintro ⟨z1, z2⟩
          rcases (hU y hy).1 z1 with k | k
          · exact Or.inl ⟨k, z2⟩
          · exact Or.inr k
        · rintro (⟨z1, z2⟩ | k)
          · exact ⟨(hU y hy).2 (Or.inl z1), z2⟩
          · exact ⟨(hU y hy).2 (Or.inr k), hf y hy k⟩)
      rcases hx with ⟨x1, x2, x3⟩ | ⟨x1, x2, x3, x4⟩ | ⟨x1, x2, x3⟩
      · rw [x2, x3]; exact J.1 x1
      · rw [x2]; exact J.2.1 x1 _ x3 x4
      · rw [x2, x3]; exact J.2.2 x1
    · obtain ⟨x, yz⟩ := hF e he'
      obtain ⟨y, z⟩ := yz p
      rw [x, y, z]
      refine ⟨MxH_c (fun y hy => ?_) (fun _ _ _ => rfl) (a3 e he').1, (a3 e he').2⟩
      constructor
      · rintro ⟨z1, z2⟩
        rcases (hU y hy).1 z1 with k | k
        · exact ⟨k, z2⟩
        · exact absurd (a1 e e0 he' he (by rw [hF0, ← z2]; exact hf y hy k)) p
      · rintro ⟨z1, z2⟩
        exact ⟨(hU y hy).2 (Or.inl z1), z2⟩
end LY
/-- groups of the choices of one carcass: n of them, by fill -/
def GpN (m : Nat) (gn fi : Nat → Int) (n : Nat) (Fg Gg Ag : Nat → Int) : Prop :=
  (∀ g g' : Nat, g < n → g' < n → Fg g = Fg g' → g = g') ∧ (∀ k : Nat, k < m → ∃ g : Nat, g < n ∧ fi k = Fg g) ∧ ∀ g : Nat, g < n → MxH (List.range m) gn (fun k => fi k = Fg g) (Gg g) (Ag g)
/-- what was looked at of pairs (cutting, sequence): entries below e0, and of e0 groups below g0 -/
def DnP (N n : Nat) (F Fg : Nat → Int) (fi : Nat → Int) (fl : SX → Int) (e0 g0 : Nat) (y : Nat × SX) : Prop := ∃ e g : Nat, e < N ∧ g < n ∧ fl y.2 = F e ∧ fi y.1 = Fg g ∧ (e < e0 ∨ (e = e0 ∧ g < g0))
theorem DnP_0 {N n : Nat} {F Fg fi : Nat → Int} {fl : SX → Int} {y : Nat × SX} : ¬ DnP N n F Fg fi fl 0 0 y := by
  rintro ⟨e, g, _, _, _, _, h⟩; omega
theorem DnP_n {N n : Nat} {F Fg fi : Nat → Int} {fl : SX → Int} {e0 : Nat} {y : Nat × SX} : DnP N n F Fg fi fl e0 n y ↔ DnP N n F Fg fi fl (e0 + 1) 0 y := by
  constructor
  · rintro ⟨e, g, a, b, c, d, h⟩; exact ⟨e, g, a, b, c, d, by omega⟩
  · rintro ⟨e, g, a, b, c, d, h⟩; exact ⟨e, g, a, b, c, d, by omega⟩
theorem DnP_N {m N n : Nat} {os : List OF} {F Fg S C Gg Ag gn fi : Nat → Int} {fl : SX → Int} (h : LyN (Sq os) (fun x => x.1) fl (fun _ => True) N F S C) (g : GpN m gn fi n Fg Gg Ag) {y : Nat × SX} (hy : y ∈ pr m (Sq os)) : DnP N n F Fg fi fl N 0 y := by
  obtain ⟨y1, y2⟩ := pr_i.1 hy
  obtain ⟨e, p, q⟩ := h.2.1 y.2 y2 trivial
  obtain ⟨k, r, s⟩ := g.2.1 y.1 y1
  exact ⟨e, k, p, r, q, s, Or.inl p⟩
/-- one entry and one group more -/
theorem DnP_s {m N n : Nat} {os : List OF} {F Fg S C Gg Ag gn fi : Nat → Int} {fl : SX → Int} (h : LyN (Sq os) (fun x => x.1) fl (fun _ => True) N F S C) (g : GpN m gn fi n Fg Gg Ag) {e0 g0 : Nat} (he : e0 < N) (hg : g0 < n) {c : Int} (h0 : 0 ≤ c) (hc : min 1000000000 c = min 1000000000 (C e0 * Ag g0)) : MxH (pr m (Sq os)) (fun y => gn y.1 + y.2.1) (fun y => fl y.2 = F e0 ∧ fi y.1 = Fg g0) (S e0 + Gg g0) c ∧ (∀ y ∈ pr m (Sq os), ¬ (DnP N n F Fg fi fl e0 g0 y ∧ (fl y.2 = F e0 ∧ fi y.1 = Fg g0))) ∧ ∀ y ∈ pr m (Sq os), DnP N n F Fg fi fl e0 (g0 + 1) y ↔ DnP N n F Fg fi fl e0 g0 y ∨ (fl y.2 = F e0 ∧ fi y.1 = Fg g0) := by
  refine ⟨?_, fun y hy => ?_, fun y hy => ?_⟩
  · have A := MxH_p (n := c) (g.2.2 g0 hg) (h.2.2 e0 he).1 h0 (by rw [Int.mul_comm]; exact hc)
    rw [Int.add_comm] at A
    exact MxH_c (fun y hy => ⟨fun z => ⟨z.2, trivial, z.1⟩, fun z => ⟨z.2.2, z.1⟩⟩) (fun _ _ _ => rfl) A
  · rintro ⟨⟨e, k, a, b, c, d, z⟩, x, w⟩
    have := h.1 e e0 a he (c.symm.trans x)
    have := g.1 k g0 b hg (d.symm.trans w)
    omega
  · constructor
    · rintro ⟨e, k, a, b, c, d, z⟩
      by_cases q : e = e0 ∧ k = g0
      · obtain ⟨rfl, rfl⟩ := q
        exact Or.inr ⟨c, d⟩
      · exact Or.inl ⟨e, k, a, b, c, d, by omega⟩
    · rintro (⟨e, k, a, b, c, d, z⟩ | ⟨x, w⟩)
      · exact ⟨e, k, a, b, c, d, by omega⟩
      · exact ⟨e0, g0, he, hg, x, w, by omega⟩
/-- the layer behind one carcass more -/
theorem LyN_up {m : Nat} {os : List OF} {gn fi : Nat → Int} {lf : Nat → Int → Int} {fl : SX → Int} {cd : Nat × SX → Int} {N : Nat} {F S C : Nat → Int} (hcd : ∀ y ∈ pr m (Sq os), cd y = fl (adX (m, gn, lf) y)) (h : LyN (pr m (Sq os)) (fun y => gn y.1 + y.2.1) cd (fun _ => True) N F S C) : LyN (Sq ((m, gn, lf) :: os)) (fun x => x.1) fl (fun _ => True) N F S C := by
  obtain ⟨h1, h2, h3⟩ := h
  refine ⟨h1, fun x hx _ => ?_, fun e he => ⟨?_, (h3 e he).2⟩⟩
  · obtain ⟨y, hy, rfl⟩ := List.mem_map.1 (show x ∈ (pr m (Sq os)).map (adX (m, gn, lf)) from hx)
    obtain ⟨e, p, q⟩ := h2 y hy trivial
    exact ⟨e, p, by rw [← hcd y hy]; exact q⟩
  · show MxH ((pr m (Sq os)).map (adX (m, gn, lf))) _ _ _ _
    refine MxH_m (MxH_c (fun y hy => ?_) (fun y hy _ => rfl) (h3 e he).1)
    rw [hcd y hy]
