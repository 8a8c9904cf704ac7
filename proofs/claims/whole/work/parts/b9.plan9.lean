section
set_option maxRecDepth 100000 in
theorem ev_262_0 {dp : Nat} {e : EN} {I : JI} {L : JI} {i1 : Int} {i2 : Int} {i3 : Int} {i4 : Int} {i5 : Int} {i6 : Int} {P_ : (Int × JI × JI) → Prop} (h : Ev (fun n => (if 1 ≤ dp then ((kf_253 n (dp - 1) e 0 I L 0 0).bind (fun ⟨I0_1, L0_1⟩ => (stI (w2 I0_1 105 40 0) (fun I_6 => (kf_262 n dp e 1 I_6 L0_1 i1 i2 i3 0 0 0))))) else none)) P_) : Ev (fun n => kf_262 n dp e 0 I L i1 i2 i3 i4 i5 i6) P_ := Ev_step (fun n => ke_262_0 n dp e I L i1 i2 i3 i4 i5 i6) h
end
/-! PLANS: in the words of lists of cuttings; the reference's findPlan -/
section EB
variable {W op : Int → Int} {nw : Nat}
theorem ctl_i {α : Type} {f : Int → List α} {x : α} : ∀ (j : Nat) (w : Int), x ∈ ctl f j w → ∃ v, w ≤ v ∧ v < w + j ∧ x ∈ f v
  | 0, _, h => by rw [ctl] at h; exact absurd h List.not_mem_nil
  | j + 1, w, h => by
    rw [ctl, List.mem_append] at h
    rcases h with h | h
    · exact ⟨w, by omega, by omega, h⟩
    · obtain ⟨v, a, b, c⟩ := ctl_i j (w + 1) h
      exact ⟨v, by omega, by omega, c⟩
theorem En_b (hW : ∀ w : Int, 0 ≤ w → w < nw → ∀ q, 0 ≤ q → q < 10 → 0 ≤ W (11 * w + 1 + q)) : ∀ (k : Nat) (cnt ch : Int → Int), k ≤ 10 → (∀ q, 0 ≤ q → q < 10 → 0 ≤ cnt q) → sm cnt 10 ≤ 200 → 1 ≤ (En W op nw k cnt ch).length ∧ ∀ x ∈ En W op nw k cnt ch, ∀ p, 0 ≤ p → p < 10 → 0 ≤ x.2 p ∧ x.2 p ≤ 200
  | 0, cnt, ch, _, h1, h2 => by
    refine ⟨by rw [En]; exact Nat.le_refl _, fun x hx p a b => ?_⟩
    rw [En, List.mem_singleton] at hx
    subst hx
    have := sm_ge (f := cnt) 10 h1 p a b
    exact ⟨h1 p a b, by dsimp only; omega⟩
  | k + 1, cnt, ch, hk, h1, h2 => by
    have r := En_b hW k cnt (up1 ch (9 - k) (-1)) (by omega) h1 h2
    refine ⟨by rw [En, List.length_append]; omega, fun x hx => ?_⟩
    rw [En, List.mem_append] at hx
    rcases hx with hx | hx
    · exact r.2 x hx
    · obtain ⟨v, a, b, hx⟩ := ctl_i nw 0 hx
      by_cases o : okx W op (9 - k) v cnt
      · rw [if_pos o] at hx
        exact (En_b hW k _ _ (by omega) (ctp_b (op := op) (hW v a (by omega)) (by omega) h1) o.2.2.2).2 x hx
      · rw [if_neg o] at hx
        exact absurd hx List.not_mem_nil
/-- what is chosen: to leave it, or a way for that part that is open -/
def chW (W op : Int → Int) (nw : Nat) (p v : Int) : Prop := v = -1 ∨ (0 ≤ v ∧ v < nw ∧ W (11 * v) = p ∧ op v = 1)
theorem En_k : ∀ (k : Nat) (cnt ch : Int → Int), k ≤ 10 → (∀ p : Int, 0 ≤ p → p < 10 - (k : Int) → chW W op nw p (ch p)) → ∀ x ∈ En W op nw k cnt ch, ∀ p, 0 ≤ p → p < 10 → chW W op nw p (x.1 p)
  | 0, cnt, ch, _, h => by
    intro x hx p a b
    rw [En, List.mem_singleton] at hx
    subst hx
    exact h p a (by omega)
  | k + 1, cnt, ch, hk, h => by
    intro x hx
    rw [En, List.mem_append] at hx
    have up : ∀ v, chW W op nw (9 - k) v → ∀ p : Int, 0 ≤ p → p < 10 - (k : Int) → chW W op nw p (up1 ch (9 - k) v p) := fun v hv p a b => by
      unfold up1
      by_cases c : p = 9 - k
      · rw [if_pos c, c]; exact hv
      · rw [if_neg c]; exact h p a (by omega)
    rcases hx with hx | hx
    · exact En_k k _ _ (by omega) (up (-1) (Or.inl rfl)) x hx
    · obtain ⟨v, a, b, hx⟩ := ctl_i nw 0 hx
      by_cases o : okx W op (9 - k) v cnt
      · rw [if_pos o] at hx
        exact En_k k _ _ (by omega) (up v (Or.inr ⟨a, by omega, o.1, o.2.1⟩)) x hx
      · rw [if_neg o] at hx
        exact absurd hx List.not_mem_nil
end EB
/-- a list of cuttings that can be -/
def lsB (l : List CT) : Prop := 1 ≤ l.length ∧ ∀ x ∈ l, ∀ p, 0 ≤ p → p < 10 → 0 ≤ x.2 p ∧ x.2 p ≤ 200
theorem cuS_b {J : JI} {tr : Nat} {ρ : Int → Int} (hA : AskO J tr ρ) (h11 : J tr 11 = ρ 9) (c : Int) : lsB (cuS ρ c) := by
  have hW := AskO_W hA h11
  exact En_b (fun w a b q x y => ((hW.2.2 w a b).2.2 q x y).2.1) 10 cn0 _ (by omega) cn0_b (by rw [cn0_s]; decide)
noncomputable def lvG (l : List CT) (k : Nat) (p : Int) : Int := if 0 ≤ p ∧ p < 10 then (match l[k]? with | some x => x.2 p | none => 0) else 0
noncomputable def ofG (ov : Int → Int) (t : Int) (dl : Nat → Int) (l : List CT) : OF := (l.length, fun k => t * sm (fun p => ov p * lvG l k p) 10 - dl k, lvG l)
noncomputable def ofLs (lc : Int → List CT) (ov : Int → Int) (t : Int) (dl : Nat → Nat → Int) (cl : Nat → Int) : Nat → Nat → List OF
  | _, 0 => []
  | i, j + 1 => ofG ov t (dl i) (lc (cl i)) :: ofLs lc ov t dl cl (i + 1) j
def eqOs : List OF → List OF → Prop
  | [], [] => True
  | o :: os, o' :: os' => eqO o o' ∧ eqOs os os'
  | _, _ => False
theorem Sq_e : ∀ {os os' : List OF}, eqOs os os' → Sq os = Sq os'
  | [], [], _ => rfl
  | [], _ :: _, h => by rw [eqOs] at h <;> first | exact h.elim | (intros; simp)
  | _ :: _, [], h => by rw [eqOs] at h <;> first | exact h.elim | (intros; simp)
  | o :: os, o' :: os', h => by
    obtain ⟨⟨e1, e2⟩, h2⟩ := h
    rw [Sq, Sq, ← Sq_e h2, ← e1]
    refine List.map_congr_left (fun y hy => ?_)
    obtain ⟨f1, f2⟩ := e2 y.1 (pr_i.1 hy).1
    unfold adX
    rw [f1, f2]
theorem MxB_c {α : Type} {l : List α} {v v' : α → Int} {b : Int} (hv : ∀ x ∈ l, v' x = v x) (h : MxB l v b) : MxB l v' b := by
  obtain ⟨h1, x, hx, vx⟩ := h
  exact ⟨fun y hy => by rw [hv y hy]; exact h1 y hy, x, hx, by rw [hv x hx]; exact vx⟩
theorem FsO_e {wn bn : Int → Int} {t : Int} : ∀ {os os' : List OF} {T : Int → Int} {f : Nat → Int}, eqOs os os' → FsO wn bn t os T f → FsO wn bn t os' T f
  | [], [], _, _, _, _ => by rw [FsO]; trivial
  | [], _ :: _, _, _, h, _ => by rw [eqOs] at h <;> first | exact h.elim | (intros; simp)
  | _ :: _, [], _, _, h, _ => by rw [eqOs] at h <;> first | exact h.elim | (intros; simp)
  | o :: os, o' :: os', T, f, h, g => by
    have eS := Sq_e h
    obtain ⟨⟨e1, e2⟩, h2⟩ := h
    have eS2 := Sq_e h2
    rw [FsO] at g ⊢
    obtain ⟨⟨k, b, g1, g2, g3, g4, g5⟩, g6⟩ := g
    obtain ⟨x1, x2⟩ := e2 k g2
    refine ⟨⟨k, b, g1, by omega, by rw [← eS]; exact g3, by rw [← eS2, ← x1, ← x2]; exact g4, fun k' hk' z => g5 k' hk' ?_⟩, fun k' hk' => ?_⟩
    · obtain ⟨y1, y2⟩ := e2 k' (by omega)
      rw [eS2, y1, y2]; exact z
    · have : k' = k := by omega
      subst this
      rw [← x2]
      exact FsO_e h2 (g6 k' g1)
def PlN (lc : Int → List CT) (a b c : Int) : Prop := (0 < a → (lc 0).length ≤ 64) ∧ (0 < b → (lc 1).length ≤ 64) ∧ (0 < c → (lc 2).length ≤ 64)
def bnR (ρ : Int → Int) (p : Int) : Int := ρ (40 + p) - ρ (50 + p)
/-- how many a row of cuttings leaves -/
noncomputable def lfG (lc : Int → List CT) (cl : Nat → Int) (f : Nat → Int) : Nat → Int → Int
  | 0, _ => 0
  | i + 1, p => lfG lc cl f i p + lvG (lc (cl i)) (f i).toNat p
/-- the planner of the reference changes no more than this -/
def FrMp (J J' M M' : JI) : Prop := (∀ a i, ¬ (a = 105 ∧ (i = 29 ∨ i = 32 ∨ (40 ≤ i ∧ i ≤ 54))) → ¬ (120 ≤ a ∧ a ≤ 135) → J' a i = J a i) ∧ ∀ a i, ¬ a = 118 → ¬ a = 119 → ¬ (a = 105 ∧ (i = 30 ∨ i = 31)) → M' a i = M a i
theorem FrMp_t {J J1 J2 M M1 M2 : JI} (h : FrMp J J1 M M1) (g : FrMp J1 J2 M1 M2) : FrMp J J2 M M2 := ⟨fun a i x y => (g.1 a i x y).trans (h.1 a i x y), fun a i x y z => (g.2 a i x y z).trans (h.2 a i x y z)⟩
theorem OfC_G {K : JI} {N i : Nat} (hP : PlH K N) (hi : i < N) (hL : ∀ c, 0 ≤ c → c < 3 → LsM c K (cuS (K 107) c)) : eqO (OfC K i) (ofG (fun p => K 107 (50 + p)) (K 105 48) (fun k => if 1 < K 105 48 ∧ ¬ (k : Int) = K 132 i then 1 else 0) (cuS (K 107) (K 126 i))) := by
  obtain ⟨q1, q2, q3⟩ := hP.2.2.1 i hi
  have l := hL (K 126 i) q1.1 q1.2
  have l1 := l.1
  have hl : (K 120 (K 126 i)).toNat = (cuS (K 107) (K 126 i)).length := by omega
  have lv : ∀ k : Nat, k < (K 120 (K 126 i)).toNat → ∀ p, 0 ≤ p → p < 10 → K 122 (640 * K 126 i + 10 * k + p) = lvG (cuS (K 107) (K 126 i)) k p := fun k hk p a b => by
    have hk2 : k < (cuS (K 107) (K 126 i)).length := by omega
    have x := (l.2 k (by omega) (cuS (K 107) (K 126 i))[k] (by simp [hk2]) p a b).2
    unfold lvG
    rw [if_pos ⟨a, b⟩, List.getElem?_eq_getElem hk2]
    dsimp only at x ⊢
    rw [← x, Int.add_assoc]
  refine ⟨hl, fun k hk => ⟨?_, ?_⟩⟩
  · show gnM K i k = _ * _ - _
    unfold gnM ovM
    rw [sm_congr 10 (fun p a b => by rw [lv k hk p a b])]
  · funext p
    show (if 0 ≤ p ∧ p < 10 then K 122 (640 * K 126 i + 10 * k + p) else 0) = lvG _ k p
    by_cases c : 0 ≤ p ∧ p < 10
    · rw [if_pos c, lv k hk p c.1 c.2]
    · unfold lvG; rw [if_neg c, if_neg c]
theorem osL_G {K : JI} {N : Nat} {cl : Nat → Int} {dl : Nat → Nat → Int} (hP : PlH K N) (hL : ∀ c, 0 ≤ c → c < 3 → LsM c K (cuS (K 107) c)) (hc : ∀ i : Nat, i < N → K 126 i = cl i) (hd : ∀ i k : Nat, i < N → dl i k = if 1 < K 105 48 ∧ ¬ (k : Int) = K 132 i then 1 else 0) : ∀ (j i : Nat), i + j = N → eqOs (osL K i j) (ofLs (cuS (K 107)) (fun p => K 107 (50 + p)) (K 105 48) dl cl i j)
  | 0, i, _ => by rw [osL, ofLs, eqOs]; trivial
  | j + 1, i, h => by
    rw [osL, ofLs, eqOs]
    refine ⟨?_, osL_G hP hL hc hd j (i + 1) (by omega)⟩
    have e := OfC_G hP (show i < N by omega) hL
    rw [hc i (by omega)] at e
    obtain ⟨e1, e2⟩ := e
    refine ⟨e1, fun k hk => ⟨?_, (e2 k hk).2⟩⟩
    rw [(e2 k hk).1]
    show _ * _ - _ = _ * _ - dl i k
    rw [hd i k (by omega)]
section FP
variable {e : EN} {tr : Nat} {TS : Nat → Prop}
/-- lay: cuttings found, carcasses laid -/
theorem R262 {dp : Nat} {J M : JI} {a b c : Int} (hS : ShC e tr) (hTS : TsO tr TS) (hd : 7 ≤ dp) (hH : HaC J tr) (h : CutI tr TS J) (hr : rwO (J 107)) (ha : 0 ≤ a) (hb : 0 ≤ b) (hc : 0 ≤ c) (h8 : a + b + c ≤ 8) : Ev (fun n => kf_262 n dp e 0 J M a b c 0 0 0) (fun r => FrMp J r.2.1 M r.2.2 ∧ CutI tr TS r.2.1 ∧ r.2.1 105 32 = 1 ∧ (J 105 32 = 1 → ∀ a i, 120 ≤ a → a ≤ 122 → r.2.1 a i = J a i) ∧ (∀ a i, (132 ≤ a ∧ a ≤ 135) ∨ (a = 105 ∧ 51 ≤ i ∧ i ≤ 54) → r.2.1 a i = J a i) ∧ (∀ c, 0 ≤ c → c < 3 → LsM c r.2.1 (cuS (J 107) c)) ∧ ((r.1 = 0 ∧ ¬ PlN (cuS (J 107)) a b c) ∨ (r.1 = 1 ∧ PlN (cuS (J 107)) a b c ∧ PlH r.2.1 (a + b + c).toNat ∧ r.2.1 105 48 = 1 ∧ (∀ i, 0 ≤ i → i < a + b + c → r.2.1 126 i = clA a b i) ∧ ∀ p, 0 ≤ p → p < 10 → r.2.1 127 p = J 107 (60 + p)))) := by
  refine ev_262_0 ?_
  refine Ev_t (by omega) (Ev_bind (R253 hS hTS (by omega) hH h) ?_)
  rintro ⟨J1, M1⟩ ⟨r1, r2, r3, r4⟩
  dsimp only at r1 r2 r3 r4 ⊢
  have e7 : J1 107 = J 107 := funext fun i => r2 _ _ (by omega) (by omega)
  obtain ⟨u1, u2, u3, u4, u5, u6, u7, u8, u9, u10, u11, u12, u13, u14, u15, u16, u17⟩ := hr
  refine Ev_st (Ev_mono (K262b ha hb hc h8 (fun p x y => by rw [e7]; exact u12 _ (by omega) (by omega))) ?_)
  rintro ⟨v, J2, M2⟩ ⟨q1, q2, q3⟩
  dsimp only at q1 q2 q3 ⊢
  subst q1
  have L1 := fun c x y => (r4 c x y).1
  have e120 : ∀ x i, 120 ≤ x → x ≤ 122 → J2 x i = J1 x i := fun x i y z => q2 x i (by omega) (by omega)
  have e7' : J2 107 = J 107 := by rw [← e7]; exact funext fun i => q2 _ _ (by omega) (by omega)
  have L2 : ∀ c, 0 ≤ c → c < 3 → LsM c J2 (cuS (J 107) c) := fun c x y => by
    have := r4 c x y
    unfold LsM at *
    rw [e120 _ _ (by omega) (by omega)]
    exact LsO_c (fun i _ _ => ⟨e120 _ _ (by omega) (by omega), e120 _ _ (by omega) (by omega)⟩) this
  refine ⟨⟨fun x i y z => (q2 x i (by omega) (by omega)).trans (r2 x i (by omega) (by omega)), fun x i y z w => r1.2.1.2 x i y z w⟩, CutI_c hTS (by rw [e7', e7]) (q2 _ _ (by omega) (by omega)) (q2 _ _ (by omega) (by omega)) (fun x i y => q2 _ _ (by omega) (by omega)) (fun x i y _ _ => q2 _ _ (by omega) (by omega)) (fun x i y z => q2 _ _ (by omega) (by omega)) r1.1, by rw [q2 _ _ (by omega) (by omega)]; exact r3, fun z x i y w => (e120 x i y w).trans ((r1.2.2.1.2 z).2 x i y (by omega)), fun x i y => (q2 x i (by omega) (by omega)).trans (r2 x i (by omega) (by omega)), L2, ?_⟩
  rcases q3 with ⟨q3, q4⟩ | ⟨q3, q4, q5, q6, q7, q8, q9, q10⟩
  · refine Or.inl ⟨q3, fun z => ?_⟩
    have a0 := L1 0 (by omega) (by omega)
    have a1 := L1 1 (by omega) (by omega)
    have a2 := L1 2 (by omega) (by omega)
    obtain ⟨z1, z2, z3⟩ := z
    omega
  · have cb := fun c => cuS_b hH.1 hH.2.1.2.2.2.2 (c := c)
    have a0 := L1 0 (by omega) (by omega)
    have a1 := L1 1 (by omega) (by omega)
    have a2 := L1 2 (by omega) (by omega)
    refine Or.inr ⟨q3, ⟨fun z => by have := q4 z; omega, fun z => by have := q5 z; omega, fun z => by have := q6 z; omega⟩, ⟨by omega, by omega, fun i hi => ?_, Or.inl q8, fun i x y => by rw [e7']; exact u11 i x y⟩, q8, q9, fun p x y => by rw [q10 p x y, e7]⟩
    have ec := q9 i (by omega) (by omega)
    have hc3 : 0 ≤ clA a b i ∧ clA a b i < 3 ∧ J1 120 (clA a b i) ≤ 64 := by
      unfold clA
      by_cases y : (i : Int) < a
      · rw [if_pos y]; exact ⟨by omega, by omega, q4 (by omega)⟩
      · rw [if_neg y]
        by_cases y2 : (i : Int) < a + b
        · rw [if_pos y2]; exact ⟨by omega, by omega, q5 (by omega)⟩
        · rw [if_neg y2]; exact ⟨by omega, by omega, q6 (by omega)⟩
    rw [ec]
    have l := L2 _ hc3.1 hc3.2.1
    have l1 := l.1
    have e12 := e120 120 (clA a b i) (by omega) (by omega)
    have b1 := (cb (clA a b i)).1
    refine ⟨⟨hc3.1, hc3.2.1⟩, by omega, fun k hk p x y => ?_⟩
    have hk2 : k < (cuS (J 107) (clA a b i)).length := by omega
    have z := (l.2 k (by omega) (cuS (J 107) (clA a b i))[k] (by simp [hk2]) p x y).2
    dsimp only at z
    rw [Int.add_assoc, z]
    exact (cb (clA a b i)).2 _ (List.getElem_mem hk2) p x y
end FP
