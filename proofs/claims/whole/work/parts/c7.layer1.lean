section
set_option maxRecDepth 100000 in
theorem ev_113_0 {dp : Nat} {e : EN} {I : JI} {L : JI} {i0 : Int} {i1 : Int} {i2 : Int} {P_ : (Int × JI × JI) → Prop} (h : Ev (fun n => (if (-9223372036854775808 ≤ i1 * i2 ∧ i1 * i2 ≤ 9223372036854775807) ∧ (-9223372036854775808 ≤ i0 + (i1 * i2) ∧ i0 + (i1 * i2) ≤ 9223372036854775807) then (stI (i0 + (i1 * i2)) (fun v_8 => (if 1000000000 ≤ v_8 then (some ((1000000000 : Int), I, L)) else (if -2147483648 ≤ v_8 ∧ v_8 ≤ 2147483647 then (some ((v_8 : Int), I, L)) else none)))) else none)) P_) : Ev (fun n => kf_113 n dp e 0 I L i0 i1 i2) P_ := Ev_step (fun n => ke_113_0 n dp e I L i0 i1 i2) h
end
/-! THE CLASS'S PLANS: fillings of lefts, and their places -/
def odO (rn : Nat) (od : Nat → Int) (wn : Int → Int) : Prop := rn ≤ 5 ∧ ∀ k : Nat, k < rn → (0 ≤ od k ∧ od k < 10) ∧ 1 ≤ wn (od k) ∧ wn (od k) ≤ 8
theorem RtO_o {J : JI} {rn : Nat} {od : Nat → Int} {wn bn : Int → Int} (h : RtO J rn od wn bn) : odO rn od wn := ⟨h.2.1, fun k hk => ⟨(h.2.2.1 k hk).2.1, (h.2.2.1 k hk).2.2.2.1⟩⟩
/-- the filling of lefts T, and its place -/
def flC (rn : Nat) (od : Nat → Int) (wn : Int → Int) (T : Int → Int) : Int := pkI (fun k => 15 - cpF rn od wn k + fiF rn od wn T k)
def plC (rn : Nat) (od : Nat → Int) (wn : Int → Int) (T : Int → Int) : Int := sN (fun k => fiF rn od wn T k * stF rn od wn k) 5
section FL
variable {rn : Nat} {od : Nat → Int} {wn : Int → Int}
theorem fi_b {T : Int → Int} (h : odO rn od wn) (hT : ∀ p, 0 ≤ T p) (k : Nat) : 0 ≤ fiF rn od wn T k ∧ fiF rn od wn T k ≤ cpF rn od wn k ∧ cpF rn od wn k ≤ 8 := by
  unfold fiF cpF
  by_cases c : k < rn
  · rw [if_pos c, if_pos c]
    have q := h.2 k c
    have := hT (od k)
    omega
  · rw [if_neg c, if_neg c]; omega
theorem fi_a {T l : Int → Int} (h : odO rn od wn) (hT : ∀ p, 0 ≤ T p) (hl : ∀ p, 0 ≤ l p) (k : Nat) : fiF rn od wn (fun p => l p + T p) k = min (cpF rn od wn k) (fiF rn od wn l k + fiF rn od wn T k) := by
  unfold fiF cpF
  by_cases c : k < rn
  · rw [if_pos c, if_pos c, if_pos c, if_pos c]
    have q := h.2 k c
    have := hT (od k)
    have := hl (od k)
    dsimp only
    omega
  · rw [if_neg c, if_neg c, if_neg c, if_neg c]; omega
theorem fl_u {T T' : Int → Int} (h : odO rn od wn) (hT : ∀ p, 0 ≤ T p) (hT' : ∀ p, 0 ≤ T' p) (hf : flC rn od wn T = flC rn od wn T') : ∀ k, k < 5 → fiF rn od wn T k = fiF rn od wn T' k := by
  intro k hk
  have q := pkI_u (V := fun k => 15 - cpF rn od wn k + fiF rn od wn T k) (W := fun k => 15 - cpF rn od wn k + fiF rn od wn T' k) (fun i _ => by have := fi_b h hT i; omega) (fun i _ => by have := fi_b h hT' i; omega) hf k hk
  omega
theorem fi_u {l l' : Int → Int} (h : odO rn od wn) (hT : ∀ p, 0 ≤ l p) (hT' : ∀ p, 0 ≤ l' p) (hf : pkI (fiF rn od wn l) = pkI (fiF rn od wn l')) : ∀ k, k < 5 → fiF rn od wn l k = fiF rn od wn l' k := pkI_u (fun i _ => by have := fi_b h hT i; omega) (fun i _ => by have := fi_b h hT' i; omega) hf
theorem ad_p {T l : Int → Int} (hT : ∀ p, 0 ≤ T p) (hl : ∀ p, 0 ≤ l p) : ∀ p, 0 ≤ (fun p => l p + T p) p := fun p => by have := hT p; have := hl p; dsimp only; omega
theorem fl_j {T T' l l' : Int → Int} (h : odO rn od wn) (hT : ∀ p, 0 ≤ T p) (hT' : ∀ p, 0 ≤ T' p) (hl : ∀ p, 0 ≤ l p) (hl' : ∀ p, 0 ≤ l' p) (hf : flC rn od wn T = flC rn od wn T') (hg : pkI (fiF rn od wn l) = pkI (fiF rn od wn l')) : flC rn od wn (fun p => l p + T p) = flC rn od wn (fun p => l' p + T' p) := by
  refine pkI_c (fun k hk => ?_)
  rw [fi_a h hT hl, fi_a h hT' hl', fl_u h hT hT' hf k hk, fi_u h hl hl' hg k hk]
theorem cs_sN {B D : Nat → Int} : ∀ (j k : Nat), csE B D k j * prL B k + sN (fun i => D i * prL B i) k = sN (fun i => D i * prL B i) (k + j)
  | 0, k => by rw [csE]; simp
  | j + 1, k => by
    rw [show k + (j + 1) = k + 1 + j by omega, ← cs_sN j (k + 1), csE, prL, sN, Int.add_mul, ← Int.mul_assoc, Int.mul_assoc (csE B D (k + 1) j), Int.mul_comm (B k), ← Int.mul_assoc]
    omega
theorem pl_c {T : Int → Int} (h : odO rn od wn) : plC rn od wn T = csE (fun k => wn (od k) + 1) (fiF rn od wn T) 0 rn := by
  have e : ∀ j : Nat, rn + j ≤ 5 → sN (fun k => fiF rn od wn T k * stF rn od wn k) (rn + j) = sN (fun k => fiF rn od wn T k * prL (fun k => wn (od k) + 1) k) rn := by
    intro j
    induction j with
    | zero =>
      intro _
      refine sN_c rn (fun k hk => ?_)
      unfold stF
      rw [if_pos hk]
    | succ j ih =>
      intro hj
      rw [show rn + (j + 1) = rn + j + 1 by omega, sN, ih (by omega)]
      have : fiF rn od wn T (rn + j) = 0 := by unfold fiF; rw [if_neg (by omega)]
      rw [this]
      omega
  have h5 := h.1
  have r := e (5 - rn) (by omega)
  rw [show rn + (5 - rn) = 5 by omega] at r
  have c := cs_sN (B := fun k => wn (od k) + 1) (D := fiF rn od wn T) rn 0
  rw [prL, sN, Nat.zero_add] at c
  unfold plC
  rw [r]
  omega
theorem fi_r {T : Int → Int} (h : odO rn od wn) (hT : ∀ p, 0 ≤ T p) : ∀ i, i < rn → 0 ≤ fiF rn od wn T i ∧ fiF rn od wn T i < (fun k => wn (od k) + 1) i := fun i hi => by
  have := fi_b h hT i
  unfold cpF at this
  rw [if_pos hi] at this
  dsimp only
  omega
theorem pl_b {T : Int → Int} (h : odO rn od wn) (hT : ∀ p, 0 ≤ T p) : 0 ≤ plC rn od wn T ∧ plC rn od wn T < prL (fun k => wn (od k) + 1) rn := by
  have b := csE_b (B := fun k => wn (od k) + 1) (D := fiF rn od wn T) rn 0 (fun i _ x => fi_r h hT i (by omega))
  have e := prE_L (B := fun k => wn (od k) + 1) rn 0
  rw [prL, Nat.zero_add] at e
  rw [pl_c h]
  omega
theorem pl_u {T T' : Int → Int} (h : odO rn od wn) (hT : ∀ p, 0 ≤ T p) (hT' : ∀ p, 0 ≤ T' p) (he : plC rn od wn T = plC rn od wn T') : flC rn od wn T = flC rn od wn T' := by
  refine pkI_c (fun k hk => ?_)
  by_cases c : k < rn
  · rw [pl_c h, pl_c h] at he
    have a := dg_cs (fi_r h hT) c
    have b := dg_cs (fi_r h hT') c
    rw [he, b] at a
    rw [a]
  · have : ∀ T : Int → Int, fiF rn od wn T k = 0 := fun T => by unfold fiF; rw [if_neg c]
    rw [this, this]
theorem fl_pl {T T' : Int → Int} (h : odO rn od wn) (hT : ∀ p, 0 ≤ T p) (hT' : ∀ p, 0 ≤ T' p) (he : flC rn od wn T = flC rn od wn T') : plC rn od wn T = plC rn od wn T' := sN_c 5 (fun k hk => by rw [fl_u h hT hT' he k hk])
theorem pr_b (h : odO rn od wn) : 1 ≤ prL (fun k => wn (od k) + 1) rn ∧ prL (fun k => wn (od k) + 1) rn ≤ 59049 := by
  have b := prL_b (B := fun k => wn (od k) + 1) rn (fun k hk => by have := h.2 k hk; omega)
  have h5 := h.1
  refine ⟨b.1, Int.le_trans b.2 ?_⟩
  rcases (show rn = 0 ∨ rn = 1 ∨ rn = 2 ∨ rn = 3 ∨ rn = 4 ∨ rn = 5 by omega) with e | e | e | e | e | e <;> rw [e] <;> decide
end FL
section KF
variable {e : EN} {L : JI} {rn : Nat} {od : Nat → Int} {wn bn : Int → Int}
/-- joined -/
theorem K111j {dp : Nat} {J : JI} {T l : Int → Int} (h : odO rn od wn) (hT : ∀ p, 0 ≤ T p) (hl : ∀ p, 0 ≤ l p) : Ev (fun n => kf_111 n dp e 0 J L (flC rn od wn T) (pkI (fiF rn od wn l))) (fun r => r = (flC rn od wn (fun p => l p + T p), J, L)) := by
  refine Ev_mono (K111 (V := fun k => 15 - cpF rn od wn k + fiF rn od wn T k) (W := fiF rn od wn l) (fun i _ => by have := fi_b h hT i; omega) (fun i _ => by have := fi_b h hl i; omega)) ?_
  rintro _ rfl
  congr 1
  refine pkI_c (fun k hk => ?_)
  rw [fi_a h hT hl]
  have := fi_b h hT k
  have := fi_b h hl k
  omega
theorem K112j {dp : Nat} {J : JI} {T : Int → Int} (hb : bdF (cpF rn od wn) (stF rn od wn) (boF rn od bn)) (hT : TbO J (cpF rn od wn) (stF rn od wn) (boF rn od bn)) (h : odO rn od wn) (h0 : ∀ p, 0 ≤ T p) : Ev (fun n => kf_112 n dp e 0 J L (flC rn od wn T)) (fun r => r = (plC rn od wn T, J, L)) := K112 hb hT (fun k _ => by have := fi_b h h0 k; omega)
/-- what a filling brings beyond what was gained -/
def boC (rn : Nat) (od : Nat → Int) (wn bn : Int → Int) (T : Int → Int) : Int := sN (fun k => fiF rn od wn T k * boF rn od bn k) 5
theorem K116j {dp : Nat} {J : JI} {T : Int → Int} (hb : bdF (cpF rn od wn) (stF rn od wn) (boF rn od bn)) (hT : TbO J (cpF rn od wn) (stF rn od wn) (boF rn od bn)) (h : odO rn od wn) (h0 : ∀ p, 0 ≤ T p) : Ev (fun n => kf_116 n dp e 0 J L (flC rn od wn T)) (fun r => r = (boC rn od wn bn T, J, L)) := K116 hb hT (fun k _ => by have := fi_b h h0 k; omega)
theorem K113 {dp : Nat} {J : JI} {i0 i1 i2 : Int} (hd : 1 ≤ dp) (h0 : 0 ≤ i0 ∧ i0 ≤ 1000000000) (h1 : 0 ≤ i1 ∧ i1 ≤ 1000000000) (h2 : 0 ≤ i2 ∧ i2 ≤ 64) : Ev (fun n => kf_113 n dp e 0 J L i0 i1 i2) (fun r => r = (min (i0 + i1 * i2) 1000000000, J, L)) := by
  have m := mulb h1 h2
  refine ev_113_0 ?_
  refine Ev_t (by omega) ?_
  refine Ev_st ?_
  try dsimp only
  refine Ev_c (fun q => Ev_ret ?_) (fun q => Ev_t (by omega) (Ev_ret ?_))
  · show ((1000000000 : Int), J, L) = (min (i0 + i1 * i2) 1000000000, J, L)
    rw [Int.min_eq_right q]
  · show (i0 + i1 * i2, J, L) = (min (i0 + i1 * i2) 1000000000, J, L)
    rw [Int.min_eq_left (by omega)]
end KF
/-- the offers of the class for a carcass of kind c, one more gained by the group fv -/
def lfC (J : JI) (c k : Nat) (p : Int) : Int := if 0 ≤ p ∧ p < 10 then J (58 + 5 * c + 2) (10 * k + p) else 0
def gnC (J : JI) (c : Nat) (fv : Int) (k : Nat) : Int := 16 * ovK J (58 + 5 * c) k + if J 31 ((c : Int) * 64 + k) = fv then 1 else 0
def ofC (J : JI) (c : Nat) (fv : Int) : OF := ((J (58 + 5 * c) 4).toNat, gnC J c fv, lfC J c)
theorem fiK_l {J : JI} {rn : Nat} {od : Nat → Int} {wn : Int → Int} {c k : Nat} (h : odO rn od wn) : fiF rn od wn (lfC J c k) = fiK J rn od wn c k := by
  funext f
  unfold fiK fiF lfC
  by_cases q : f < rn
  · rw [if_pos q, if_pos q, if_pos (h.2 f q).1]
  · rw [if_neg q, if_neg q]
theorem gp_o {J : JI} {rn : Nat} {od : Nat → Int} {wn bn : Int → Int} {c : Nat} {fv : Int} (h : LdG J rn od wn bn c) (h64 : J (58 + 5 * c) 4 ≤ 64) : ∃ n : Nat, J 32 c = n ∧ n ≤ (ofC J c fv).1 ∧ GpN (ofC J c fv).1 (ofC J c fv).2.1 (fun k => pkI (fiK J rn od wn c k)) n (fun g => J 27 ((c : Int) * 64 + g)) (fun g => J 28 ((c : Int) * 64 + g) + if (c : Int) * 64 + (g : Int) = fv then 1 else 0) (fun g => J 29 ((c : Int) * 64 + g)) ∧ ∀ g : Nat, g < n → J 29 ((c : Int) * 64 + g) ≤ 64 := by
  obtain ⟨⟨n, n1, n2, n3, n4, n5⟩, _⟩ := h h64
  refine ⟨n, n1, n2, ⟨n3, fun k hk => ?_, fun g hg => ?_⟩, fun g hg => by have := (n5 g hg).2.1; omega⟩
  · obtain ⟨g, a, b, d⟩ := n4 k hk
    exact ⟨g, a, d.symm⟩
  · have q := MxH_v (s := 1) (d := if (c : Int) * 64 + (g : Int) = fv then 1 else 0) (by decide) (n5 g hg).1
    rw [Int.one_mul] at q
    refine MxH_c (fun _ _ => Iff.rfl) (fun k hk hf => ?_) q
    obtain ⟨g', a, b, d⟩ := n4 k (List.mem_range.1 hk)
    have e : g' = g := n3 g' g a hg (d.trans hf)
    subst e
    show 16 * ovK J (58 + 5 * c) k + (if J 31 ((c : Int) * 64 + k) = fv then 1 else 0) = _
    rw [b]
    omega
/-- sequences that can be -/
def SqB (os : List OF) : Prop := ∀ x ∈ Sq os, (0 ≤ x.1 ∧ x.1 ≤ 31968001 * (os.length : Int)) ∧ ∀ p, 0 ≤ x.2 p
theorem SqB_0 : SqB [] := fun x hx => by
  have : x = (0, fun _ => 0) := by simpa [Sq] using hx
  subst this
  exact ⟨by simp, fun _ => Int.le_refl _⟩
theorem SqB_s {o : OF} {os : List OF} (ho : ∀ k, k < o.1 → (0 ≤ o.2.1 k ∧ o.2.1 k ≤ 31968001) ∧ ∀ p, 0 ≤ o.2.2 k p) (h : SqB os) : SqB (o :: os) := fun x hx => by
  obtain ⟨y, hy, rfl⟩ := List.mem_map.1 (show x ∈ (pr o.1 (Sq os)).map (adX o) from hx)
  obtain ⟨y1, y2⟩ := pr_i.1 hy
  have a := ho y.1 y1
  have b := h y.2 y2
  refine ⟨?_, fun p => ?_⟩
  · show 0 ≤ o.2.1 y.1 + y.2.1 ∧ o.2.1 y.1 + y.2.1 ≤ 31968001 * ((os.length + 1 : Nat) : Int)
    have := a.1
    have := b.1
    omega
  · show 0 ≤ o.2.2 y.1 p + y.2.2 p
    have := a.2 p
    have := b.2 p
    omega
theorem ofC_b {J : JI} {c : Nat} {fv : Int} (hC : ctK J c) (hm : mkO J) (h64 : J (58 + 5 * c) 4 ≤ 64) : ∀ k, k < (ofC J c fv).1 → (0 ≤ (ofC J c fv).2.1 k ∧ (ofC J c fv).2.1 k ≤ 31968001) ∧ ∀ p, 0 ≤ (ofC J c fv).2.2 k p := by
  intro k hk
  have hk' : (k : Int) < J (58 + 5 * c) 4 := by
    have : k < (J (58 + 5 * c) 4).toNat := hk
    omega
  have l := hC.2 h64 k hk'
  have b := ovK_b (J := J) (a0 := 58 + 5 * c) (k := k) l (fun p x y => (hm.1 p x y).2.2)
  refine ⟨?_, fun p => ?_⟩
  · show 0 ≤ 16 * ovK J (58 + 5 * c) k + (if J 31 ((c : Int) * 64 + k) = fv then 1 else 0) ∧ 16 * ovK J (58 + 5 * c) k + (if J 31 ((c : Int) * 64 + k) = fv then 1 else 0) ≤ 31968001
    split <;> omega
  · show 0 ≤ if 0 ≤ p ∧ p < 10 then _ else _
    split
    · rename_i q; exact (l p q.1 q.2).1
    · decide
