/-! PLANS: what both reckon, in the row's own words -/
/-- alike offers have alike sequences -/
def eqO (o o' : OF) : Prop := o.1 = o'.1 ∧ ∀ k, k < o.1 → o.2.1 k = o'.2.1 k ∧ o.2.2 k = o'.2.2 k
theorem Sq_c : ∀ {os os' : List OF}, os.length = os'.length → (∀ (i : Nat) (o o' : OF), os[i]? = some o → os'[i]? = some o' → eqO o o') → Sq os = Sq os'
  | [], [], _, _ => rfl
  | [], _ :: _, h, _ => by simp at h
  | _ :: _, [], h, _ => by simp at h
  | o :: os, o' :: os', h, g => by
    have r := Sq_c (os := os) (os' := os') (by simpa using h) (fun i a b x y => g (i + 1) a b (by simpa using x) (by simpa using y))
    obtain ⟨e1, e2⟩ := g 0 o o' (by simp) (by simp)
    rw [Sq, Sq, ← r, ← e1]
    refine List.map_congr_left (fun y hy => ?_)
    obtain ⟨f1, f2⟩ := e2 y.1 (pr_i.1 hy).1
    unfold adX
    rw [f1, f2]
/-- what cutting k of kind c leaves -/
noncomputable def lvS (ρ : Int → Int) (c : Int) (k : Nat) (p : Int) : Int := if 0 ≤ p ∧ p < 10 then (match (cuS ρ c)[k]? with | some x => x.2 p | none => 0) else 0
noncomputable def ovS (ρ : Int → Int) (c : Int) (k : Nat) : Int := sm (fun p => ρ (50 + p) * lvS ρ c k p) 10
/-- the offers of a carcass of kind c: gains times t, less dl -/
noncomputable def ofS (ρ : Int → Int) (t : Int) (c : Int) (dl : Nat → Int) : OF := ((cuS ρ c).length, fun k => t * ovS ρ c k - dl k, lvS ρ c)
/-- the value of a sequence behind lefts T -/
def vT (wn bn : Int → Int) (t : Int) (T : Int → Int) (x : SX) : Int := x.1 + t * sm (fun p => if 0 < wn p then min (wn p) (T p + x.2 p) * bn p else 0) 10
theorem vT_s {wn bn : Int → Int} {t : Int} {T : Int → Int} {o : OF} {k : Nat} {x : SX} : vT wn bn t T (adX o (k, x)) = o.2.1 k + vT wn bn t (fun p => T p + o.2.2 k p) x := by
  unfold vT adX
  dsimp only
  rw [Int.add_assoc]
  congr 3
  exact sm_congr 10 (fun p _ _ => by rw [Int.add_assoc])
/-- the state s stands for lefts T -/
def StO (m : Nat) (od : Nat → Int) (wn : Int → Int) (s : Int) (T : Int → Int) : Prop := ∀ k, k < m → dgS (fun k => wn (od k) + 1) s k = min (wn (od k)) (T (od k))
theorem vlM_T {K : JI} {m : Nat} {od : Nat → Int} {wn : Int → Int} {s : Int} {T : Int → Int} {x : SX} (hs : ∀ f : Int → Int, sN (fun k => f (od k)) m = sm (fun p => if 0 < wn p then f p else 0) 10) (hS : StO m od wn s T) (hx : ∀ p, 0 ≤ x.2 p) : vlM K m od wn s x = vT wn (bnM K) (K 105 48) T x := by
  unfold vlM vT
  congr 2
  rw [← hs (fun p => min (wn p) (T p + x.2 p) * bnM K p)]
  refine sN_c m (fun k hk => ?_)
  rw [hS k hk]
  have := hx (od k)
  congr 1
  omega
theorem StO_b {K : JI} {N m i k : Nat} {od : Nat → Int} {wn : Int → Int} {s : Int} {T : Int → Int} (hO : OrM K m od wn) (hP : PlH K N) (hi : i < N) (hk : k < (K 120 (K 126 i)).toNat) (hT : ∀ p, 0 ≤ T p) (h : StO m od wn s T) : StO m od wn (bhM K m od wn i k s) (fun p => T p + (OfC K i).2.2 k p) := by
  intro j hj
  obtain ⟨q1, q2, q3⟩ := hP.2.2.1 i hi
  obtain ⟨d1, d2, d3⟩ := hO.2.2.1 j hj
  have hD : ∀ j, j < m → 0 ≤ min (wn (od j)) (dgS (fun k => wn (od k) + 1) s j + K 122 (640 * K 126 i + 10 * k + od j)) ∧ min (wn (od j)) (dgS (fun k => wn (od k) + 1) s j + K 122 (640 * K 126 i + 10 * k + od j)) < wn (od j) + 1 := fun j hj => by
    have z := hO.2.2.1 j hj
    have y := hO.2.2.2.1 (od j) z.2.1 z.2.2
    have w := dg_b (B := fun k => wn (od k) + 1) (s := s) (k := j) (by omega)
    have l := q3 k hk (od j) z.2.1 z.2.2
    omega
  unfold bhM
  rw [dg_cs (B := fun k => wn (od k) + 1) hD hj, h j hj]
  show _ = min _ (T (od j) + (if 0 ≤ od j ∧ od j < 10 then K 122 (640 * K 126 i + 10 * k + od j) else 0))
  rw [if_pos ⟨d2, d3⟩]
  have l := q3 k hk (od j) d2 d3
  have := hT (od j)
  omega
/-- only the most -/
def MxB {α : Type} (l : List α) (val : α → Int) (b : Int) : Prop := (∀ x ∈ l, val x ≤ b) ∧ ∃ x, x ∈ l ∧ val x = b
theorem MxB_u {α : Type} {l : List α} {val : α → Int} {b b' : Int} (h : MxB l val b) (h' : MxB l val b') : b = b' := by
  obtain ⟨h1, x, hx, vx⟩ := h
  obtain ⟨g1, y, hy, vy⟩ := h'
  have := h1 y hy
  have := g1 x hx
  omega
theorem MxH_B {α : Type} {l : List α} {val : α → Int} {b n : Int} (h : MxH l val (fun _ => True) b n) : MxB l val b := by
  obtain ⟨h1, ⟨x, hx, _, vx⟩, _⟩ := h
  exact ⟨fun x hx => h1 x hx trivial, x, hx, vx⟩
/-- the first of the best: each choice is the lowest with which the most can still be reached -/
def FsO (wn bn : Int → Int) (t : Int) : List OF → (Int → Int) → (Nat → Int) → Prop
  | [], _, _ => True
  | o :: os, T, f => (∃ (k : Nat) (b : Int), f 0 = k ∧ k < o.1 ∧ MxB (Sq (o :: os)) (vT wn bn t T) b ∧ MxB (Sq os) (vT wn bn t (fun p => T p + o.2.2 k p)) (b - o.2.1 k) ∧ ∀ k' : Nat, k' < k → ¬ MxB (Sq os) (vT wn bn t (fun p => T p + o.2.2 k' p)) (b - o.2.1 k')) ∧ ∀ k : Nat, f 0 = k → FsO wn bn t os (fun p => T p + o.2.2 k p) (fun i => f (i + 1))
theorem FsO_u {wn bn : Int → Int} {t : Int} : ∀ (os : List OF) (T : Int → Int) (f g : Nat → Int), FsO wn bn t os T f → FsO wn bn t os T g → ∀ i, i < os.length → f i = g i
  | [], _, _, _, _, _, i, hi => by simp at hi
  | o :: os, T, f, g, hf, hg, i, hi => by
    rw [FsO] at hf hg
    obtain ⟨⟨k, b, f1, f2, f3, f4, f5⟩, f6⟩ := hf
    obtain ⟨⟨l, c, g1, g2, g3, g4, g5⟩, g6⟩ := hg
    have eb := MxB_u f3 g3
    subst eb
    have ekl : k = l := by
      by_cases x : k < l
      · exact absurd f4 (g5 k x)
      · by_cases y : l < k
        · exact absurd g4 (f5 l y)
        · omega
    subst ekl
    cases i with
    | zero => rw [f1, g1]
    | succ i => exact FsO_u os _ _ _ (f6 k f1) (g6 k g1) i (by simpa using hi)
