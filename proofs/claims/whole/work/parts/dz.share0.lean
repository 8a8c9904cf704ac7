/-! SHARE: rows of men for a row of tasks -/
def upL (ld : Nat → Int) (m : Nat) (v : Int) : Nat → Int := fun k => if k = m then ld k + v else ld k
/-- what the longest comes to, if the tasks go to those men -/
def vlR (mn : Nat → Int) : List Nat → List Nat → (Nat → Int) → Int → Int
  | w :: ts, m :: r, ld, ls => vlR mn ts r (upL ld m (mn w)) (max ls (ld m + mn w))
  | [], _, _, ls => ls
  | _ :: _, [], _, ls => ls
def okR (men : Nat) (can : Nat → Nat → Prop) : List Nat → List Nat → Prop
  | [], [] => True
  | w :: ts, m :: r => (m < men ∧ can m w) ∧ okR men can ts r
  | [], _ :: _ => False
  | _ :: _, [] => False
def lxR : List Nat → List Nat → Prop
  | m :: r, m' :: r' => m < m' ∨ (m = m' ∧ lxR r r')
  | [], _ => False
  | _ :: _, [] => False
def fdR (mn : Nat → Int) : List Nat → List Nat → (Nat → Int) → Nat → Int
  | w :: ts, m :: r, ld => fdR mn ts r (upL ld m (mn w))
  | [], _, ld => ld
  | _ :: _, [], ld => ld
theorem vlR_c {mn : Nat → Int} {w m : Nat} {ts r : List Nat} {ld : Nat → Int} {ls : Int} : vlR mn (w :: ts) (m :: r) ld ls = vlR mn ts r (upL ld m (mn w)) (max ls (ld m + mn w)) := by rw [vlR]
theorem fdR_c {mn : Nat → Int} {w m : Nat} {ts r : List Nat} {ld : Nat → Int} : fdR mn (w :: ts) (m :: r) ld = fdR mn ts r (upL ld m (mn w)) := by rw [fdR]
theorem okR_c {men : Nat} {can : Nat → Nat → Prop} {w m : Nat} {ts r : List Nat} : okR men can (w :: ts) (m :: r) ↔ ((m < men ∧ can m w) ∧ okR men can ts r) := by rw [okR]
theorem lxR_c {m m' : Nat} {r r' : List Nat} : lxR (m :: r) (m' :: r') ↔ (m < m' ∨ (m = m' ∧ lxR r r')) := by rw [lxR]
section SR
variable {mn : Nat → Int} {men : Nat} {can : Nat → Nat → Prop}
theorem okR_0 {r : List Nat} (h : okR men can [] r) : r = [] := by
  cases r with
  | nil => rfl
  | cons m r => rw [okR] at h; exact h.elim
theorem okR_s {w : Nat} {ts r : List Nat} (h : okR men can (w :: ts) r) : ∃ m c, r = m :: c ∧ (m < men ∧ can m w) ∧ okR men can ts c := by
  cases r with
  | nil => rw [okR] at h; exact h.elim
  | cons m c => rw [okR_c] at h; exact ⟨m, c, rfl, h⟩
theorem okR_l : ∀ {ts r : List Nat}, okR men can ts r → r.length = ts.length
  | [], r, h => by rw [okR_0 h]
  | w :: ts, r, h => by
    obtain ⟨m, c, rfl, _, h2⟩ := okR_s h
    rw [List.length_cons, List.length_cons, okR_l h2]
theorem vlR_g : ∀ (ts r : List Nat) (ld : Nat → Int) (ls : Int), ls ≤ vlR mn ts r ld ls
  | [], r, ld, ls => by rw [vlR]; exact Int.le_refl _
  | w :: ts, [], ld, ls => by rw [vlR]; exact Int.le_refl _
  | w :: ts, m :: r, ld, ls => by
    rw [vlR_c]
    have := vlR_g ts r (upL ld m (mn w)) (max ls (ld m + mn w))
    omega
/-- men renamed -/
theorem vlR_p {σ : Nat → Nat} (hσ : ∀ a b, σ a = σ b → a = b) : ∀ (ts r : List Nat) (ld ld' : Nat → Int) (ls : Int), (∀ m, ld' (σ m) = ld m) → vlR mn ts (r.map σ) ld' ls = vlR mn ts r ld ls
  | [], r, ld, ld', ls, _ => by rw [vlR, vlR]
  | w :: ts, [], ld, ld', ls, _ => by rw [List.map_nil, vlR, vlR]
  | w :: ts, m :: r, ld, ld', ls, h => by
    rw [List.map_cons, vlR_c, vlR_c, h m]
    refine vlR_p hσ ts r _ _ _ (fun k => ?_)
    unfold upL
    by_cases c : k = m
    · subst c; rw [if_pos rfl, if_pos rfl, h]
    · rw [if_neg (fun z => c (hσ _ _ z)), if_neg c, h]
theorem okR_p {σ : Nat → Nat} (h1 : ∀ m, m < men → σ m < men) (h2 : ∀ m w, m < men → can m w → can (σ m) w) : ∀ (ts r : List Nat), okR men can ts r → okR men can ts (r.map σ)
  | [], r, h => by rw [okR_0 h]; exact trivial
  | w :: ts, r, h => by
    obtain ⟨m, c, rfl, h3, h4⟩ := okR_s h
    rw [List.map_cons, okR_c]
    exact ⟨⟨h1 m h3.1, h2 m w h3.1 h3.2⟩, okR_p h1 h2 ts c h4⟩
def swR (a b m : Nat) : Nat := if m = a then b else if m = b then a else m
theorem swR_i {a b : Nat} : ∀ x y, swR a b x = swR a b y → x = y := fun x y h => by
  unfold swR at h
  repeat' split at h
  all_goals omega
/-- two men that are alike -/
theorem alike {w o j : Nat} {ts c : List Nat} {ld : Nat → Int} {ls : Int} (ho : o < j) (hl : ld o = ld j) (hc : ∀ w, can o w ↔ can j w) (h : okR men can (w :: ts) (j :: c)) : ∃ c', okR men can (w :: ts) (o :: c') ∧ vlR mn (w :: ts) (o :: c') ld ls = vlR mn (w :: ts) (j :: c) ld ls := by
  have hj := (okR_c.1 h).1.1
  have e : (j :: c).map (swR o j) = o :: c.map (swR o j) := by
    rw [List.map_cons]
    congr 1
    unfold swR
    rw [if_neg (by omega), if_pos rfl]
  refine ⟨c.map (swR o j), ?_, ?_⟩
  · rw [← e]
    refine okR_p (fun m hm => by unfold swR; (repeat' split) <;> omega) (fun m w hm q => ?_) _ _ h
    unfold swR
    (repeat' split)
    · rename_i z; subst z; exact (hc w).1 q
    · rename_i _ z; subst z; exact (hc w).2 q
    · exact q
  · rw [← e]
    refine vlR_p swR_i _ _ _ _ _ (fun m => ?_)
    unfold swR
    (repeat' split)
    · rename_i z; subst z; exact hl.symm
    · rename_i _ z; subst z; exact hl
    · rfl
/-- what a search below a limit comes to: the first of the least -/
def BsG (ok : List Nat → Prop) (v : List Nat → Int) (lim lim' : Int) (q : Option (List Nat)) : Prop := (lim' = lim ∧ q = none ∧ ∀ r, ok r → lim ≤ v r) ∨ (lim' < lim ∧ ∃ r, q = some r ∧ ok r ∧ v r = lim' ∧ ∀ r', ok r' → lim' ≤ v r' ∧ (lxR r' r → lim' < v r'))
/-- rows whose first man is below j -/
def okJ (men : Nat) (can : Nat → Nat → Prop) (w : Nat) (ts : List Nat) (j : Nat) (r : List Nat) : Prop := okR men can (w :: ts) r ∧ ∃ m c, r = m :: c ∧ m < j
theorem BsJ_0 {w : Nat} {ts : List Nat} {v : List Nat → Int} {lim : Int} : BsG (okJ men can w ts 0) v lim lim none := Or.inl ⟨rfl, rfl, fun r h => by
  obtain ⟨_, m, c, _, z⟩ := h
  exact absurd z (Nat.not_lt_zero _)⟩
theorem okJ_s {w j : Nat} {ts r : List Nat} (h : okJ men can w ts (j + 1) r) : okJ men can w ts j r ∨ ∃ c, r = j :: c ∧ okR men can (w :: ts) (j :: c) := by
  obtain ⟨h1, m, c, e, z⟩ := h
  by_cases q : m = j
  · subst q; subst e; exact Or.inr ⟨c, rfl, h1⟩
  · exact Or.inl ⟨h1, m, c, e, by omega⟩
/-- man j brings nothing -/
theorem BsJ_n {w j : Nat} {ts : List Nat} {v : List Nat → Int} {lim l : Int} {q : Option (List Nat)} (h : BsG (okJ men can w ts j) v lim l q) (hn : ∀ c, okR men can (w :: ts) (j :: c) → l ≤ v (j :: c)) : BsG (okJ men can w ts (j + 1)) v lim l q := by
  rcases h with ⟨h1, h2, h3⟩ | ⟨h1, r, h2, h3, h4, h5⟩
  · refine Or.inl ⟨h1, h2, fun r hr => ?_⟩
    rcases okJ_s hr with z | ⟨c, rfl, z⟩
    · exact h3 r z
    · rw [← h1]; exact hn c z
  · obtain ⟨h3a, m, c0, rfl, hm⟩ := h3
    refine Or.inr ⟨h1, _, h2, ⟨h3a, m, c0, rfl, by omega⟩, h4, fun r' hr => ?_⟩
    rcases okJ_s hr with z | ⟨c, rfl, z⟩
    · exact h5 r' z
    · refine ⟨hn c z, fun z' => ?_⟩
      rw [lxR_c] at z'
      omega
def csQ (j : Nat) (q : Option (List Nat)) : Option (List Nat) → Option (List Nat)
  | some c => some (j :: c)
  | none => q
/-- man j is tried -/
theorem BsJ_c {w j : Nat} {ts : List Nat} {v vc : List Nat → Int} {lim l l' : Int} {q q' : Option (List Nat)} (hj : j < men ∧ can j w) (h : BsG (okJ men can w ts j) v lim l q) (hv : ∀ c, v (j :: c) = vc c) (g : BsG (okR men can ts) vc l l' q') : BsG (okJ men can w ts (j + 1)) v lim l' (csQ j q q') := by
  rcases g with ⟨rfl, rfl, g3⟩ | ⟨g1, c, rfl, g3, g4, g5⟩
  · exact BsJ_n h (fun c hc => by rw [hv]; exact g3 c (okR_c.1 hc).2)
  · have hl : l ≤ lim := by
      rcases h with ⟨z, _⟩ | ⟨z, _⟩ <;> omega
    refine Or.inr ⟨by omega, j :: c, rfl, ⟨okR_c.2 ⟨hj, g3⟩, j, c, rfl, by omega⟩, by rw [hv]; exact g4, fun r' hr => ?_⟩
    rcases okJ_s hr with z | ⟨c', rfl, z⟩
    · have b : l ≤ v r' := by
        rcases h with ⟨h1, _, h3⟩ | ⟨_, r, _, _, _, h5⟩
        · rw [h1]; exact h3 r' z
        · exact (h5 r' z).1
      exact ⟨by omega, fun _ => by omega⟩
    · have b := g5 c' (okR_c.1 z).2
      rw [hv]
      refine ⟨b.1, fun z' => b.2 ?_⟩
      rw [lxR_c] at z'
      rcases z' with z' | z'
      · omega
      · exact z'.2
theorem BsJ_e {w : Nat} {ts : List Nat} {v : List Nat → Int} {lim l : Int} {q : Option (List Nat)} (h : BsG (okJ men can w ts men) v lim l q) : BsG (okR men can (w :: ts)) v lim l q := by
  have up : ∀ r, okR men can (w :: ts) r → okJ men can w ts men r := fun r hr => by
    obtain ⟨m, c, e, z, _⟩ := okR_s hr
    exact ⟨hr, m, c, e, z.1⟩
  rcases h with ⟨h1, h2, h3⟩ | ⟨h1, r, h2, h3, h4, h5⟩
  · exact Or.inl ⟨h1, h2, fun r hr => h3 r (up r hr)⟩
  · exact Or.inr ⟨h1, r, h2, h3.1, h4, fun r' hr => h5 r' (up r' hr)⟩
theorem lxR_t : ∀ {ts r r' : List Nat}, okR men can ts r → okR men can ts r' → r = r' ∨ lxR r r' ∨ lxR r' r
  | [], r, r', h, h' => by rw [okR_0 h, okR_0 h']; exact Or.inl rfl
  | w :: ts, r, r', h, h' => by
    obtain ⟨m, c, rfl, _, h2⟩ := okR_s h
    obtain ⟨m', c', rfl, _, h2'⟩ := okR_s h'
    rw [lxR_c, lxR_c]
    rcases lxR_t h2 h2' with z | z | z
    · by_cases q : m = m'
      · subst q; subst z; exact Or.inl rfl
      · omega
    · by_cases q : m = m'
      · exact Or.inr (Or.inl (Or.inr ⟨q, z⟩))
      · omega
    · by_cases q : m = m'
      · exact Or.inr (Or.inr (Or.inr ⟨q.symm, z⟩))
      · omega
/-- the first of the least is one -/
def Lst (ok : List Nat → Prop) (v : List Nat → Int) (r : List Nat) : Prop := ok r ∧ ∀ r', ok r' → v r ≤ v r' ∧ (lxR r' r → v r < v r')
theorem Lst_u {ts r r' : List Nat} {v : List Nat → Int} (h : Lst (okR men can ts) v r) (h' : Lst (okR men can ts) v r') : r = r' := by
  have a := h.2 r' h'.1
  have b := h'.2 r h.1
  rcases lxR_t h.1 h'.1 with z | z | z
  · exact z
  · have := b.2 z; omega
  · have := a.2 z; omega
/-! the loads in the end -/
theorem fdR_g (hm : ∀ w, 0 ≤ mn w) : ∀ (ts r : List Nat) (ld : Nat → Int) (m : Nat), ld m ≤ fdR mn ts r ld m
  | [], r, ld, m => by rw [fdR]; exact Int.le_refl _
  | w :: ts, [], ld, m => by rw [fdR]; exact Int.le_refl _
  | w :: ts, k :: r, ld, m => by
    rw [fdR_c]
    have r1 := fdR_g hm ts r (upL ld k (mn w)) m
    have b := hm w
    unfold upL at r1
    split at r1
    · unfold upL; omega
    · exact r1
theorem vlR_le (hm : ∀ w, 0 ≤ mn w) {B : Int} : ∀ (ts r : List Nat) (ld : Nat → Int) (ls : Int), okR men can ts r → (∀ m, m < men → ld m ≤ ls) → (vlR mn ts r ld ls ≤ B ↔ ls ≤ B ∧ ∀ m, m < men → fdR mn ts r ld m ≤ B)
  | [], r, ld, ls, h, hl => by
    rw [okR_0 h, vlR, fdR]
    exact ⟨fun z => ⟨z, fun m hm => Int.le_trans (hl m hm) z⟩, fun z => z.1⟩
  | w :: ts, r, ld, ls, h, hl => by
    obtain ⟨k, c, rfl, hk, h2⟩ := okR_s h
    rw [vlR_c, fdR_c, vlR_le hm ts c (upL ld k (mn w)) (max ls (ld k + mn w)) h2 (fun m hm' => by
      have := hl m hm'
      unfold upL
      split
      · rename_i z; subst z; omega
      · omega)]
    constructor
    · rintro ⟨a, b⟩
      exact ⟨by omega, b⟩
    · rintro ⟨a, b⟩
      refine ⟨?_, b⟩
      have g := fdR_g hm ts c (upL ld k (mn w)) k
      have := b k hk.1
      unfold upL at g
      rw [if_pos rfl] at g
      have g' : ld k + mn w ≤ fdR mn ts c (upL ld k (mn w)) k := g
      omega
/-- loads as a sum over pairs -/
def psum (mn : Nat → Int) (m : Nat) : List (Nat × Nat) → Int
  | [] => 0
  | p :: l => (if p.2 = m then mn p.1 else 0) + psum mn m l
theorem fdR_z : ∀ (ts r : List Nat) (ld : Nat → Int) (m : Nat), fdR mn ts r ld m = ld m + psum mn m (ts.zip r)
  | [], r, ld, m => by rw [fdR, List.zip_nil_left]; show ld m = ld m + 0; omega
  | w :: ts, [], ld, m => by rw [fdR, List.zip_nil_right]; show ld m = ld m + 0; omega
  | w :: ts, k :: r, ld, m => by
    rw [fdR_c, fdR_z ts r, List.zip_cons_cons]
    show upL ld k (mn w) m + psum mn m (ts.zip r) = ld m + ((if k = m then mn w else 0) + psum mn m (ts.zip r))
    unfold upL
    by_cases c : m = k
    · subst c; rw [if_pos rfl, if_pos rfl]; omega
    · rw [if_neg c, if_neg (fun z => c z.symm)]; omega
theorem psum_p {m : Nat} {l l' : List (Nat × Nat)} (h : l.Perm l') : psum mn m l = psum mn m l' := by
  induction h with
  | nil => rfl
  | cons x _ ih => show _ + psum mn m _ = _ + psum mn m _; rw [ih]
  | swap x y l => show _ + (_ + psum mn m l) = _ + (_ + psum mn m l); omega
  | trans _ _ ih1 ih2 => exact ih1.trans ih2
/-- a row as a choice for each task -/
theorem row_a : ∀ {ts r : List Nat}, ts.Nodup → okR men can ts r → ∃ a : Nat → Nat, r = ts.map a
  | [], r, _, h => ⟨fun _ => 0, okR_0 h⟩
  | w :: ts, r, hn, h => by
    obtain ⟨m, c, rfl, _, h2⟩ := okR_s h
    rw [List.nodup_cons] at hn
    obtain ⟨a, ha⟩ := row_a hn.2 h2
    refine ⟨fun x => if x = w then m else a x, ?_⟩
    rw [List.map_cons, if_pos rfl, ha]
    congr 1
    refine List.map_congr_left (fun x hx => ?_)
    have ne : ¬ x = w := fun z => by subst z; exact hn.1 hx
    show a x = if x = w then m else a x
    rw [if_neg ne]
theorem okR_a {a : Nat → Nat} : ∀ {ts : List Nat}, okR men can ts (ts.map a) ↔ ∀ w ∈ ts, a w < men ∧ can (a w) w
  | [] => by simp [okR]
  | w :: ts => by rw [List.map_cons, okR_c, okR_a, List.forall_mem_cons]
theorem zip_a {a : Nat → Nat} : ∀ {ts : List Nat}, ts.zip (ts.map a) = ts.map (fun w => (w, a w))
  | [] => rfl
  | w :: ts => by rw [List.map_cons, List.zip_cons_cons, zip_a, List.map_cons]
/-- the same choice in another order of the tasks comes to the same -/
theorem vlR_o (hm : ∀ w, 0 ≤ mn w) {ts ts' : List Nat} {a : Nat → Nat} (hp : ts.Perm ts') (h : okR men can ts (ts.map a)) : okR men can ts' (ts'.map a) ∧ vlR mn ts (ts.map a) (fun _ => 0) 0 = vlR mn ts' (ts'.map a) (fun _ => 0) 0 := by
  have h' : okR men can ts' (ts'.map a) := okR_a.2 (fun w hw => okR_a.1 h w ((hp.mem_iff).2 hw))
  refine ⟨h', ?_⟩
  have e : ∀ m, fdR mn ts (ts.map a) (fun _ => 0) m = fdR mn ts' (ts'.map a) (fun _ => 0) m := fun m => by
    rw [fdR_z, fdR_z, zip_a, zip_a, psum_p (hp.map _)]
  have l1 := fun B => vlR_le (B := B) hm ts (ts.map a) (fun _ => 0) 0 h (fun _ _ => Int.le_refl _)
  have l2 := fun B => vlR_le (B := B) hm ts' (ts'.map a) (fun _ => 0) 0 h' (fun _ _ => Int.le_refl _)
  refine Int.le_antisymm ((l1 _).2 ?_) ((l2 _).2 ?_)
  · obtain ⟨x, y⟩ := (l2 _).1 (Int.le_refl _)
    exact ⟨x, fun m hm' => by rw [e]; exact y m hm'⟩
  · obtain ⟨x, y⟩ := (l1 _).1 (Int.le_refl _)
    exact ⟨x, fun m hm' => by rw [← e]; exact y m hm'⟩
/-- all loads together -/
def mSum (ld : Nat → Int) : Nat → Int
  | 0 => 0
  | n + 1 => mSum ld n + ld n
theorem mSum_u {ld : Nat → Int} {k : Nat} {v : Int} : ∀ n, mSum (upL ld k v) n = mSum ld n + (if k < n then v else 0)
  | 0 => by simp [mSum]
  | n + 1 => by
    show mSum (upL ld k v) n + upL ld k v n = mSum ld n + ld n + _
    rw [mSum_u n]
    unfold upL
    by_cases c : n = k
    · subst c; rw [if_pos rfl, if_neg (Nat.lt_irrefl _), if_pos (by omega)]; omega
    · rw [if_neg c]
      by_cases d : k < n
      · rw [if_pos d, if_pos (by omega)]; omega
      · rw [if_neg d, if_neg (by omega)]; omega
theorem fdR_m : ∀ (ts r : List Nat) (ld : Nat → Int), okR men can ts r → mSum (fdR mn ts r ld) men = mSum ld men + lsum mn ts
  | [], r, ld, h => by rw [okR_0 h, fdR]; show _ = _ + 0; omega
  | w :: ts, r, ld, h => by
    obtain ⟨m, c, rfl, h1, h2⟩ := okR_s h
    rw [fdR_c, fdR_m ts c _ h2, mSum_u, if_pos h1.1]
    show _ = mSum ld men + (mn w + lsum mn ts)
    omega
theorem mSum_b {ld : Nat → Int} {B : Int} : ∀ n, (∀ m, m < n → ld m ≤ B) → mSum ld n ≤ B * (n : Int)
  | 0, _ => by simp [mSum]
  | n + 1, h => by
    have r := mSum_b n (fun m hm => h m (by omega))
    have b := h n (by omega)
    show mSum ld n + ld n ≤ B * ((n + 1 : Nat) : Int)
    rw [show ((n + 1 : Nat) : Int) = (n : Int) + 1 by omega, Int.mul_add, Int.mul_one]
    omega
/-- none can be shorter than an even share -/
theorem vlR_t (hm : ∀ w, 0 ≤ mn w) {ts r : List Nat} (h : okR men can ts r) : lsum mn ts ≤ vlR mn ts r (fun _ => 0) 0 * (men : Int) ∧ vlR mn ts r (fun _ => 0) 0 ≤ lsum mn ts := by
  have l := fun B => vlR_le (B := B) hm ts r (fun _ => 0) 0 h (fun _ _ => Int.le_refl _)
  have e := fdR_m (mn := mn) ts r (fun _ => 0) h
  have z : ∀ n, mSum (fun _ => 0) n = 0 := fun n => by
    induction n with
    | zero => rfl
    | succ n ih => show mSum _ n + 0 = 0; rw [ih]; rfl
  rw [z, Int.zero_add] at e
  have g := fdR_g hm ts r (fun _ => 0)
  constructor
  · rw [← e]
    exact mSum_b men (fun m hm' => ((l _).1 (Int.le_refl _)).2 m hm')
  · have pos : ∀ n, 0 ≤ mSum (fdR mn ts r (fun _ => 0)) n ∧ ∀ m, m < n → fdR mn ts r (fun _ => 0) m ≤ mSum (fdR mn ts r (fun _ => 0)) n := fun n => by
      induction n with
      | zero => exact ⟨Int.le_refl _, fun m hm => absurd hm (Nat.not_lt_zero _)⟩
      | succ n ih =>
        have := g n
        have this : 0 ≤ fdR mn ts r (fun _ => 0) n := this
        refine ⟨by show 0 ≤ mSum _ n + _; omega, fun m hm => ?_⟩
        show _ ≤ mSum (fdR mn ts r (fun _ => 0)) n + fdR mn ts r (fun _ => 0) n
        by_cases c : m = n
        · subst c; omega
        · have := ih.2 m (by omega); omega
    rw [← e]
    exact (l _).2 ⟨(pos men).1, fun m hm' => (pos men).2 m hm'⟩
end SR
/-- two rising lists with the same members -/
theorem rising : ∀ {l l' : List Nat}, l.Pairwise (· < ·) → l'.Pairwise (· < ·) → (∀ x, x ∈ l ↔ x ∈ l') → l = l'
  | [], [], _, _, _ => rfl
  | [], y :: l', _, _, h => absurd ((h y).2 List.mem_cons_self) List.not_mem_nil
  | x :: l, [], _, _, h => absurd ((h x).1 List.mem_cons_self) List.not_mem_nil
  | x :: l, y :: l', h1, h2, h => by
    rw [List.pairwise_cons] at h1 h2
    have e : x = y := by
      have a := (h x).1 List.mem_cons_self
      have b := (h y).2 List.mem_cons_self
      rw [List.mem_cons] at a b
      rcases a with a | a
      · exact a
      · rcases b with b | b
        · exact b.symm
        · have := h1.1 y b
          have := h2.1 x a
          omega
    subst e
    congr 1
    refine rising h1.2 h2.2 (fun z => ?_)
    have q := h z
    rw [List.mem_cons, List.mem_cons] at q
    constructor
    · intro hz
      rcases q.1 (Or.inr hz) with w | w
      · subst w; exact absurd (h1.1 z hz) (Nat.lt_irrefl _)
      · exact w
    · intro hz
      rcases q.2 (Or.inr hz) with w | w
      · subst w; exact absurd (h2.1 z hz) (Nat.lt_irrefl _)
      · exact w
