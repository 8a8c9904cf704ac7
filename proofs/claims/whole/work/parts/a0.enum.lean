/-! CUTTINGS: the list of them -/
def ctl {α : Type} (f : Int → List α) : Nat → Int → List α
  | 0, _ => []
  | j + 1, w => f w ++ ctl f j (w + 1)
abbrev CT : Type := (Int → Int) × (Int → Int)
def ctp (W : Int → Int) (p w : Int) (cnt : Int → Int) : Int → Int := fun q => if q = p then 0 else if 0 ≤ q ∧ q < 10 then cnt q + cnt p * W (11 * w + 1 + q) else 0
abbrev okx (W op : Int → Int) (p w : Int) (cnt : Int → Int) : Prop := W (11 * w) = p ∧ op w = 1 ∧ 0 < cnt p ∧ sm (ctp W p w cnt) 10 ≤ 200
def En (W op : Int → Int) (nw : Nat) : Nat → (Int → Int) → (Int → Int) → List CT
  | 0, cnt, ch => [(ch, cnt)]
  | k + 1, cnt, ch => En W op nw k cnt (up1 ch (9 - k) (-1)) ++ ctl (fun w => if okx W op (9 - k) w cnt then En W op nw k (ctp W (9 - k) w cnt) (up1 ch (9 - k) w) else []) nw 0
/-- the rows hold the first 64 of a list, and how many there are (65: more) -/
def LsO (m : Int) (A B : Int → Int) (l : List CT) : Prop := m = min 65 (l.length : Int) ∧ ∀ i : Nat, i < 64 → ∀ x, l[i]? = some x → ∀ p : Int, 0 ≤ p → p < 10 → A (10 * i + p) = x.1 p ∧ B (10 * i + p) = x.2 p
theorem LsO_c {m : Int} {A B A' B' : Int → Int} {l : List CT} (hA : ∀ i, 0 ≤ i → i < 640 → A' i = A i ∧ B' i = B i) (h : LsO m A B l) : LsO m A' B' l :=
  ⟨h.1, fun i hi x hx p a b => by rw [(hA _ (by omega) (by omega)).1, (hA _ (by omega) (by omega)).2]; exact h.2 i hi x hx p a b⟩
theorem LsO_more {m : Int} {A B : Int → Int} {l r : List CT} (hm : 65 ≤ m) (h : LsO m A B l) : LsO m A B (l ++ r) := by
  have h1 := h.1
  refine ⟨?_, fun i hi x hx => h.2 i hi x ?_⟩
  · rw [List.length_append]; omega
  · rw [List.getElem?_append_left (by omega)] at hx
    exact hx
theorem sm_ctp {W : Int → Int} {p w : Int} {cnt : Int → Int} (hp : 0 ≤ p ∧ p < 10) (hz : W (11 * w + 1 + p) = 0) : sm (ctp W p w cnt) 10 = sm cnt 10 + cnt p * (sm (fun q => W (11 * w + 1 + q)) 10 - 1) := by
  have key : ∀ n : Nat, n ≤ 10 → sm (ctp W p w cnt) n = sm cnt n + cnt p * sm (fun q => W (11 * w + 1 + q)) n - (if p < n then cnt p else 0) := by
    intro n
    induction n with
    | zero => intro _; simp only [sm]; rw [if_neg (by omega)]; omega
    | succ n ih =>
      intro hn
      rw [sm_s, sm_s, sm_s, ih (by omega), Int.mul_add]
      unfold ctp
      by_cases c : (n : Int) = p
      · rw [if_pos c, if_neg (by omega), if_pos (by omega), c, hz]
        omega
      · rw [if_neg c, if_pos (show 0 ≤ (n : Int) ∧ (n : Int) < 10 by omega)]
        by_cases d : p < n
        · rw [if_pos d, if_pos (by omega)]; omega
        · rw [if_neg d, if_neg (by omega)]; omega
  have := key 10 (by omega)
  rw [if_pos (by omega)] at this
  rw [this, Int.mul_sub]
  omega
theorem ctp_b {W op : Int → Int} {p w : Int} {cnt : Int → Int} (hW : ∀ q, 0 ≤ q → q < 10 → 0 ≤ W (11 * w + 1 + q)) (hp : 0 ≤ p ∧ p < 10) (hc : ∀ q, 0 ≤ q → q < 10 → 0 ≤ cnt q) : ∀ q, 0 ≤ q → q < 10 → 0 ≤ ctp W p w cnt q := by
  intro q q0 q1
  unfold ctp
  rw [if_pos (show 0 ≤ q ∧ q < 10 from ⟨q0, q1⟩)]
  split
  · omega
  · have := Int.mul_nonneg (hc p hp.1 hp.2) (hW q q0 q1)
    have := hc q q0 q1
    omega
theorem sm_ge {f : Int → Int} : ∀ n : Nat, (∀ q : Int, 0 ≤ q → q < n → 0 ≤ f q) → ∀ q : Int, 0 ≤ q → q < n → f q ≤ sm f n
  | 0, _, q, a, b => by omega
  | n + 1, h, q, a, b => by
    rw [sm_s]
    have h0 := h n (by omega) (by omega)
    by_cases c : q = n
    · subst c
      have : 0 ≤ sm f n := by
        have hh : ∀ m : Nat, m ≤ n → 0 ≤ sm f m := by
          intro m
          induction m with
          | zero => intro _; simp [sm]
          | succ m ih => intro hm; rw [sm_s]; have := ih (by omega); have := h m (by omega) (by omega); omega
        exact hh n (Nat.le_refl _)
      omega
    · have := sm_ge n (fun q a b => h q a (by omega)) q a (by omega)
      omega
theorem ctl_c {α : Type} {f g : Int → List α} : ∀ (j : Nat) (w : Int), (∀ v, w ≤ v → v < w + j → f v = g v) → ctl f j w = ctl g j w
  | 0, _, _ => rfl
  | j + 1, w, h => by unfold ctl; rw [h w (by omega) (by omega), ctl_c j (w + 1) (fun v a b => h v (by omega) (by omega))]
theorem En_c {W W' op op' : Int → Int} {nw : Nat} (h : ∀ w : Int, 0 ≤ w → w < nw → op' w = op w ∧ W' (11 * w) = W (11 * w) ∧ ∀ q, 0 ≤ q → q < 10 → W' (11 * w + 1 + q) = W (11 * w + 1 + q)) : ∀ (k : Nat) (cnt ch : Int → Int), En W' op' nw k cnt ch = En W op nw k cnt ch
  | 0, _, _ => rfl
  | k + 1, cnt, ch => by
    rw [En, En, En_c h k]
    congr 1
    refine ctl_c nw 0 (fun w a b => ?_)
    obtain ⟨h1, h2, h3⟩ := h w a (by omega)
    have ec : ctp W' (9 - k) w cnt = ctp W (9 - k) w cnt := by
      funext q
      unfold ctp
      by_cases c : q = 9 - k
      · rw [if_pos c, if_pos c]
      · rw [if_neg c, if_neg c]
        by_cases d : 0 ≤ q ∧ q < 10
        · rw [if_pos d, if_pos d, h3 q d.1 d.2]
        · rw [if_neg d, if_neg d]
    by_cases o : okx W op (9 - k) w cnt
    · have o' : okx W' op' (9 - k) w cnt := ⟨h2.trans o.1, h1.trans o.2.1, o.2.2.1, by rw [ec]; exact o.2.2.2⟩
      rw [if_pos o, if_pos o', ec, En_c h k]
    · have o' : ¬ okx W' op' (9 - k) w cnt := fun z => o ⟨h2.symm.trans z.1, h1.symm.trans z.2.1, z.2.2.1, by rw [← ec]; exact z.2.2.2⟩
      rw [if_neg o, if_neg o']
