/-! TASKS: what is done to a carcass, in the words of lists -/
/-- how many of each part come, ahead of part p -/
def cmg (W ch : Int → Int) : Nat → Int → Int
  | 0 => cn0
  | p + 1 => if ch p = -1 then cmg W ch p else fun q => if (p : Int) < q ∧ q < 10 then cmg W ch p q + cmg W ch p p * W (11 * ch p + 1 + q) else cmg W ch p q
theorem cmg_s {W ch : Int → Int} {p : Nat} : cmg W ch (p + 1) = if ch p = -1 then cmg W ch p else fun q => if (p : Int) < q ∧ q < 10 then cmg W ch p q + cmg W ch p p * W (11 * ch p + 1 + q) else cmg W ch p q := rfl
theorem cmg_c {W W' ch ch' : Int → Int} : ∀ P : Nat, (∀ p : Nat, p < P → ch' p = ch p ∧ (¬ ch p = -1 → ∀ q, 0 ≤ q → q < 10 → W' (11 * ch p + 1 + q) = W (11 * ch p + 1 + q))) → cmg W' ch' P = cmg W ch P
  | 0, _ => rfl
  | P + 1, h => by
    obtain ⟨h1, h2⟩ := h P (by omega)
    rw [cmg_s, cmg_s, cmg_c P (fun p hp => h p (by omega)), h1]
    by_cases c : ch P = -1
    · rw [if_pos c, if_pos c]
    · rw [if_neg c, if_neg c]
      funext q
      by_cases d : (P : Int) < q ∧ q < 10
      · rw [if_pos d, if_pos d, h2 c q (by omega) d.2]
      · rw [if_neg d, if_neg d]
theorem En_g {W op : Int → Int} {nw : Nat} (hW : ∀ w : Int, 0 ≤ w → w < nw → ∀ q, 0 ≤ q → q < 10 → 0 ≤ W (11 * w + 1 + q)) : ∀ (k : Nat) (cnt ch : Int → Int) (P : Nat), P + k = 10 → (∀ q : Int, P ≤ q → q < 10 → cnt q = cmg W ch P q) → (∀ q, 0 ≤ q → q < 10 → 0 ≤ cnt q) → (∀ p : Nat, p ≤ P → ∀ q : Int, p ≤ q → q < 10 → 0 ≤ cmg W ch p q ∧ cmg W ch p q ≤ 200) → ∀ x ∈ En W op nw k cnt ch, ∀ p : Nat, p ≤ 10 → ∀ q : Int, p ≤ q → q < 10 → 0 ≤ cmg W x.1 p q ∧ cmg W x.1 p q ≤ 200
  | 0, cnt, ch, P, hP, h1, h2, h3, x, hx, p, hp, q, a, b => by
    rw [En, List.mem_singleton] at hx
    subst hx
    exact h3 p (by omega) q a b
  | k + 1, cnt, ch, P, hP, h1, h2, h3, x, hx, p, hp, q, a, b => by
    have e9 : (9 : Int) - (k : Int) = P := by omega
    have upc : ∀ v : Int, ∀ p : Nat, p ≤ P → cmg W (up1 ch P v) p = cmg W ch p := fun v p hp => cmg_c p (fun j hj => ⟨up1_o (by omega), fun _ _ _ _ => rfl⟩)
    rw [En, List.mem_append, e9] at hx
    rcases hx with hx | hx
    · have e1 : cmg W (up1 ch P (-1)) (P + 1) = cmg W ch P := by rw [cmg_s, up1_s, if_pos rfl, upc _ P (Nat.le_refl _)]
      refine En_g hW k cnt (up1 ch P (-1)) (P + 1) (by omega) (fun q a b => by rw [e1]; exact h1 q (by omega) b) h2 (fun p hp q a b => ?_) x hx p hp q a b
      by_cases c : p = P + 1
      · subst c; rw [e1]; exact h3 P (Nat.le_refl _) q (by omega) b
      · rw [upc _ p (by omega)]; exact h3 p (by omega) q a b
    · obtain ⟨v, v0, v1, hx⟩ := ctl_i nw 0 hx
      by_cases o : okx W op P v cnt
      · rw [if_pos o] at hx
        have cb := ctp_b (op := op) (cnt := cnt) (hW v v0 (by omega)) (show (0 : Int) ≤ P ∧ (P : Int) < 10 by omega) h2
        have e1 : ∀ q : Int, ((P + 1 : Nat) : Int) ≤ q → q < 10 → cmg W (up1 ch P v) (P + 1) q = ctp W P v cnt q := fun q a b => by
          rw [cmg_s, up1_s, if_neg (by omega), upc _ P (Nat.le_refl _)]
          unfold ctp
          rw [if_pos (by omega), if_neg (by omega), if_pos (by omega), h1 q (by omega) b, h1 P (by omega) (by omega)]
        refine En_g hW k (ctp W P v cnt) (up1 ch P v) (P + 1) (by omega) (fun q a b => (e1 q a b).symm) cb (fun p hp q a b => ?_) x hx p hp q a b
        by_cases c : p = P + 1
        · subst c
          rw [e1 q a b]
          have := sm_ge (f := ctp W P v cnt) 10 cb q (by omega) b
          have := o.2.2.2
          exact ⟨cb q (by omega) b, by omega⟩
        · rw [upc _ p (by omega)]; exact h3 p (by omega) q a b
      · rw [if_neg o] at hx
        exact absurd hx List.not_mem_nil
/-- what is done to carcass i of the plan f at part p -/
noncomputable def chX (ρ : Int → Int) (f : Nat → Int) (i : Nat) (p : Int) : Int := match (cuS ρ (clA (ρ 0) (ρ 1) i))[(f i).toNat]? with | some x => x.1 p | none => -1
def wyP (ρ : Int → Int) (w : Int) : Int := ρ (290 + 11 * w)
abbrev usX (ρ : Int → Int) (f : Nat → Int) (i : Nat) (w : Int) : Prop := w < ρ 9 ∧ chX ρ f i (wyP ρ w) = w
noncomputable def cmX (ρ : Int → Int) (f : Nat → Int) (i : Nat) (p : Nat) : Int → Int := cmg (fun j => ρ (290 + j)) (chX ρ f i) p
noncomputable def miX (ρ : Int → Int) (w c : Int) : Int := clp 60 (tls ρ 0 w c 1 (ρ 8).toNat)
noncomputable def skX (ρ : Int → Int) (w c : Int) : Int := clp 3 (tls ρ 1 w c 0 (ρ 8).toNat)
noncomputable def tkD (ρ : Int → Int) (f : Nat → Int) (i : Nat) (w : Int) : Int := cmX ρ f i (wyP ρ w).toNat (wyP ρ w) * miX ρ w (clA (ρ 0) (ρ 1) i)
noncomputable def tkM (ρ : Int → Int) (f : Nat → Int) (w : Int) : Nat → Int
  | 0 => 0
  | i + 1 => tkM ρ f w i + (if usX ρ f i w then tkD ρ f i w else 0)
noncomputable def tkS (ρ : Int → Int) (f : Nat → Int) (w : Int) : Nat → Int
  | 0 => -1
  | i + 1 => if usX ρ f i w ∧ tkS ρ f w i = -1 then skX ρ w (clA (ρ 0) (ρ 1) i) else tkS ρ f w i
theorem clp_b {m v : Int} (hm : 0 ≤ m) : 0 ≤ clp m v ∧ clp m v ≤ m := by unfold clp; omega
/-- the plan f: its cuttings are there -/
def FxO (ρ : Int → Int) (f : Nat → Int) (N : Nat) : Prop := ∀ i : Nat, i < N → (0 ≤ f i ∧ f i < 64) ∧ ∃ x, (cuS ρ (clA (ρ 0) (ρ 1) i))[(f i).toNat]? = some x
section FX
variable {ρ : Int → Int} {f : Nat → Int} {J : JI} {tr N : Nat}
theorem chX_b (hA : AskO J tr ρ) (h11 : J tr 11 = ρ 9) {i : Nat} {p : Int} (hp : 0 ≤ p ∧ p < 10) : chX ρ f i p = -1 ∨ (0 ≤ chX ρ f i p ∧ chX ρ f i p < ρ 9 ∧ wyP ρ (chX ρ f i p) = p) := by
  unfold chX
  cases e : (cuS ρ (clA (ρ 0) (ρ 1) i))[(f i).toNat]? with
  | none => exact Or.inl rfl
  | some x =>
    have q := En_k (W := fun i => ρ (290 + i)) (op := fun w => clp 1 (tls ρ 2 w (clA (ρ 0) (ρ 1) i) 0 (ρ 8).toNat)) (nw := (ρ 9).toNat) 10 cn0 (fun _ => 0) (by omega) (fun p a b => by omega) x (List.mem_of_getElem? e) p hp.1 hp.2
    dsimp only
    rcases q with q | ⟨q1, q2, q3, _⟩
    · exact Or.inl q
    · exact Or.inr ⟨q1, by omega, q3⟩
theorem cmX_b (hA : AskO J tr ρ) (h11 : J tr 11 = ρ 9) {i : Nat} {p : Nat} (hp : p ≤ 10) {q : Int} (hq : p ≤ q ∧ q < 10) (hf : FxO ρ f N) (hi : i < N) : 0 ≤ cmX ρ f i p q ∧ cmX ρ f i p q ≤ 200 := by
  have hW := AskO_W hA h11
  obtain ⟨_, x, e⟩ := hf i hi
  have ec : chX ρ f i = x.1 := by
    funext p
    unfold chX
    rw [e]
  unfold cmX
  rw [ec]
  exact En_g (fun w a b q x y => ((hW.2.2 w a b).2.2 q x y).2.1) 10 cn0 (fun _ => 0) 0 (by omega) (fun q _ _ => rfl) cn0_b (fun p hp q a b => by
    have : p = 0 := by omega
    subst this
    show 0 ≤ cn0 q ∧ cn0 q ≤ 200
    unfold cn0
    split <;> omega) x (List.mem_of_getElem? e) p hp q hq.1 hq.2
theorem tkD_b (hA : AskO J tr ρ) (h11 : J tr 11 = ρ 9) {i : Nat} {w : Int} (hw : 0 ≤ w ∧ w < ρ 9) (hf : FxO ρ f N) (hi : i < N) : (0 ≤ wyP ρ w ∧ wyP ρ w ≤ 9) ∧ 0 ≤ tkD ρ f i w ∧ tkD ρ f i w ≤ 12000 := by
  have hp : 0 ≤ wyP ρ w ∧ wyP ρ w ≤ 9 := (hA.1.1.1 w hw.1 hw.2).1
  have c := cmX_b hA h11 (p := (wyP ρ w).toNat) (q := wyP ρ w) (by omega) (by omega) hf hi
  have m : 0 ≤ miX ρ w (clA (ρ 0) (ρ 1) i) ∧ miX ρ w (clA (ρ 0) (ρ 1) i) ≤ 60 := clp_b (by decide)
  unfold tkD
  exact ⟨hp, mulb c m⟩
theorem tkM_b (hA : AskO J tr ρ) (h11 : J tr 11 = ρ 9) {w : Int} (hw : 0 ≤ w) (hf : FxO ρ f N) : ∀ i : Nat, i ≤ N → 0 ≤ tkM ρ f w i ∧ tkM ρ f w i ≤ 12000 * (i : Int)
  | 0, _ => by simp [tkM]
  | i + 1, hi => by
    have r := tkM_b hA h11 hw hf i (by omega)
    show 0 ≤ tkM ρ f w i + (if usX ρ f i w then tkD ρ f i w else 0) ∧ tkM ρ f w i + (if usX ρ f i w then tkD ρ f i w else 0) ≤ 12000 * ((i + 1 : Nat) : Int)
    split
    · rename_i c
      have := (tkD_b hA h11 ⟨hw, c.1⟩ hf (show i < N by omega)).2
      omega
    · omega
theorem tkS_b {w : Int} : ∀ i : Nat, -1 ≤ tkS ρ f w i ∧ tkS ρ f w i ≤ 3
  | 0 => by simp [tkS]
  | i + 1 => by
    have r := tkS_b (w := w) i
    show -1 ≤ (if usX ρ f i w ∧ tkS ρ f w i = -1 then skX ρ w (clA (ρ 0) (ρ 1) i) else tkS ρ f w i) ∧ (if usX ρ f i w ∧ tkS ρ f w i = -1 then skX ρ w (clA (ρ 0) (ρ 1) i) else tkS ρ f w i) ≤ 3
    have m : 0 ≤ skX ρ w (clA (ρ 0) (ρ 1) i) ∧ skX ρ w (clA (ρ 0) (ρ 1) i) ≤ 3 := clp_b (by decide)
    split <;> omega
end FX
/-- two plans that are alike -/
theorem tk_c {ρ : Int → Int} {f g : Nat → Int} {w : Int} : ∀ N : Nat, (∀ i, i < N → f i = g i) → tkM ρ f w N = tkM ρ g w N ∧ tkS ρ f w N = tkS ρ g w N
  | 0, _ => ⟨rfl, rfl⟩
  | N + 1, h => by
    have r := tk_c (ρ := ρ) (w := w) N (fun i hi => h i (by omega))
    have e : chX ρ f N = chX ρ g N := by
      funext p
      unfold chX
      rw [h N (by omega)]
    have eD : tkD ρ f N w = tkD ρ g N w := by unfold tkD cmX; rw [e]
    constructor
    · show tkM ρ f w N + (if usX ρ f N w then tkD ρ f N w else 0) = tkM ρ g w N + (if usX ρ g N w then tkD ρ g N w else 0)
      rw [r.1, eD]
      unfold usX
      rw [e]
    · show (if usX ρ f N w ∧ tkS ρ f w N = -1 then skX ρ w (clA (ρ 0) (ρ 1) N) else tkS ρ f w N) = (if usX ρ g N w ∧ tkS ρ g w N = -1 then skX ρ w (clA (ρ 0) (ρ 1) N) else tkS ρ g w N)
      rw [r.2]
      unfold usX
      rw [e]
/-- the first of the best has its cuttings -/
theorem FxO_P {ρ : Int → Int} {B n : Int} {f : Nat → Int} {lf : Int → Int} {N : Nat} (hN : ρ 0 + ρ 1 + ρ 2 = N) (h0 : 0 ≤ ρ 0 ∧ 0 ≤ ρ 1 ∧ 0 ≤ ρ 2) (hK : PlN (cuS ρ) (ρ 0) (ρ 1) (ρ 2)) (hP : PlR (cuS ρ) ρ B n f lf) : FxO ρ f N := fun i hi => by
  have b := FsO_b hP.2.2.2.1 i _ (ofLs_g (ρ 0 + ρ 1 + ρ 2).toNat 0 i (by omega))
  rw [Nat.zero_add] at b
  have b : 0 ≤ f i ∧ f i < ((cuS ρ (clA (ρ 0) (ρ 1) i)).length : Int) := b
  have l : (cuS ρ (clA (ρ 0) (ρ 1) i)).length ≤ 64 := by
    obtain ⟨k0, k1, k2⟩ := hK
    unfold clA
    (repeat' split) <;> first | exact k0 (by omega) | exact k1 (by omega) | exact k2 (by omega)
  refine ⟨by omega, _, List.getElem?_eq_getElem (show (f i).toNat < _ by omega)⟩
