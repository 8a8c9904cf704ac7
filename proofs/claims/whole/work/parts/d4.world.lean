/-! PLANS: the world of plans, class and reference beside each other -/
def XW (a : Nat) (i : Int) : Prop := (a = 21 ∧ (i = 3 ∨ i = 4)) ∨ a = 22 ∨ a = 23 ∨ (a = 24 ∧ 12 ≤ i ∧ i ≤ 15) ∨ (a = 26 ∧ 17 ≤ i ∧ i ≤ 19) ∨ (27 ≤ a ∧ a ≤ 72) ∨ (a = 105 ∧ i = 29)
def XP (a : Nat) (i : Int) : Prop := (a = 24 ∧ (i = 14 ∨ i = 15)) ∨ (a = 26 ∧ 17 ≤ i ∧ i ≤ 19) ∨ (27 ≤ a ∧ a ≤ 57)
theorem XB_P : ∀ a i, XB a i → XP a i := fun a i h => by unfold XB XS XL X0 at h; unfold XP; omega
theorem XF_P : ∀ a i, XF a i → XP a i := fun a i h => by unfold XF XS XL X0 at h; unfold XP; omega
theorem XP_W : ∀ a i, XP a i → XW a i := fun a i h => by unfold XP at h; unfold XW; omega
/-- which carcass goes out with one of kind c fewer -/
def goI (J : JI) (c : Nat) : Int := (if c = 0 then J 2 0 else if c = 1 then J 2 0 + J 2 1 else J 2 0 + J 2 1 + J 2 2) - 1
def oneL (c d : Nat) : Int := if c = d then 1 else 0
def okK (J : JI) (c : Nat) (k0 : Int) : OF := ((J (58 + 5 * c) 4).toNat, fun k => 16 * ovK J (58 + 5 * c) k - (if (k : Int) = k0 then 0 else 1), lfC J c)
/-- the others' offers: who keeps his cutting loses nothing -/
def lyX (J : JI) (c : Nat) : List OF := lyL (fun i => okK J (clR (J 2 1 - oneL c 1) (J 2 2 - oneL c 2) i) (J 55 (if J 2 0 + J 2 1 + J 2 2 - 2 - (i : Int) < goI J c then J 2 0 + J 2 1 + J 2 2 - 2 - i else J 2 0 + J 2 1 + J 2 2 - 1 - i))) (J 2 0 + J 2 1 + J 2 2 - 1).toNat
def ChO (J : JI) (c : Nat) : Prop := 0 < J 2 c → MxB (Sq (lyX J c)) (vT (wnC J) (bnC J) 16 (fun _ => 0)) (16 * J 57 c - J 56 c) ∧ (0 ≤ J 56 c ∧ J 56 c ≤ 7) ∧ 0 ≤ J 57 c ∧ J 57 c ≤ 17000000
def ChI (J : JI) : Prop := ∀ c : Nat, c < 3 → J 56 c = -1 ∨ ChO J c
theorem okK_c {J J' : JI} {c : Nat} {k0 : Int} (h4 : J' 4 = J 4) (hc : J' (58 + 5 * c) 4 = J (58 + 5 * c) 4) (h2 : J' (58 + 5 * c + 2) = J (58 + 5 * c + 2)) : okK J' c k0 = okK J c k0 := by
  unfold okK lfC ovK
  rw [h4, hc, h2]
theorem ChO_c {J J' : JI} {c : Nat} (h4 : J' 4 = J 4) (h2 : J' 2 = J 2) (h5 : ∀ x i, 58 ≤ x → x ≤ 72 → J' x i = J x i) (h55 : ∀ i : Int, 0 ≤ i → J' 55 i = J 55 i) (h6 : J' 56 c = J 56 c) (h7 : J' 57 c = J 57 c) (h : ChO J c) : ChO J' c := by
  have ew : wnC J' = wnC J := by unfold wnC; rw [h4]
  have eb : bnC J' = bnC J := by unfold bnC; rw [h4]
  have eg : goI J' c = goI J c := by unfold goI; rw [h2]
  intro z
  rw [h2] at z
  have q := h z
  rw [ew, eb, h6, h7]
  have el : lyX J' c = lyX J c := by
    unfold lyX
    rw [h2, eg]
    refine lyL_c _ (fun k hk => ?_)
    have c3 : clR (J 2 1 - oneL c 1) (J 2 2 - oneL c 2) k < 3 := by unfold clR; (repeat' split) <;> omega
    rw [h55 _ (by split <;> omega)]
    exact okK_c h4 (h5 _ _ (by omega) (by omega)) (funext fun i => h5 _ _ (by omega) (by omega))
  rw [el]
  exact q
/-- what is kept of the first -/
def FiK (J : JI) : Prop := J 24 15 = 0 → PlK J (J 2 0) (J 2 1) (J 2 2) ∧ FiI J ∧ ChI J
theorem FiI_c {J J' : JI} (h4 : J' 4 = J 4) (h2 : J' 2 = J 2) (h5 : ∀ x i, 58 ≤ x → x ≤ 72 → J' x i = J x i) (h55 : ∀ i : Int, J' 55 i = J 55 i) (h : FiI J) : FiI J' := by
  have ew : wnC J' = wnC J := by unfold wnC; rw [h4]
  have eb : bnC J' = bnC J := by unfold bnC; rw [h4]
  unfold FiI at *
  rw [ew, eb, h2, lyC_c (fun i => by rw [h4]) h5, show (fun l : Nat => J' 55 l) = (fun l : Nat => J 55 l) from funext fun l => h55 _]
  exact h
theorem FiK_c {J J' : JI} (h15 : J' 24 15 = J 24 15) (h4 : J' 4 = J 4) (h2 : J' 2 = J 2) (h5 : ∀ x i, 55 ≤ x → x ≤ 72 → J' x i = J x i) (h : FiK J) : FiK J' := by
  intro z
  obtain ⟨q1, q2, q3⟩ := h (by rw [← h15]; exact z)
  refine ⟨?_, FiI_c h4 h2 (fun x i y w => h5 x i (by omega) (by omega)) (fun i => h5 _ _ (by omega) (by omega)) q2, fun c hc => ?_⟩
  · unfold PlK at *
    rw [h2, h5 58 _ (by omega) (by omega), h5 63 _ (by omega) (by omega), h5 68 _ (by omega) (by omega)]; exact q1
  · rcases q3 c hc with w | w
    · exact Or.inl (by rw [h5 _ _ (by omega) (by omega)]; exact w)
    · exact Or.inr (ChO_c h4 h2 (fun x i y w => h5 x i (by omega) (by omega)) (fun i _ => h5 _ _ (by omega) (by omega)) (h5 _ _ (by omega) (by omega)) (h5 _ _ (by omega) (by omega)) w)
/-- serials: none above the last that was given -/
def SrI (TS : Nat → Prop) (J : JI) : Prop := (∀ c : Nat, c < 3 → J (58 + 5 * c) 5 ≤ J 0 14) ∧ ∀ T, TS T → J T 13 ≤ J 0 14
theorem SrI_c {TS : Nat → Prop} {J J' : JI} (h0 : J' 0 14 = J 0 14) (hc : ∀ c : Nat, c < 3 → J' (58 + 5 * c) 5 = J (58 + 5 * c) 5) (hT : ∀ T, TS T → J' T 13 = J T 13) (q : SrI TS J) : SrI TS J' :=
  ⟨fun c h => by rw [hc c h, h0]; exact q.1 c h, fun T h => by rw [hT T h, h0]; exact q.2 T h⟩
def PW (tr : Nat) (TS : Nat → Prop) (z : Nat) (kd : KD) (R : RF) (J : JI) (b4 b5 b6 b7 len sl : Nat) : Prop :=
  (ShC (z, kd, R) tr ∧ TsO tr TS ∧ ShQ (z, kd, R) ∧ arO (z, kd, R) 56 3 ∧ 144 ≤ z ∧ (∀ T, TS T → T + 10 < z ∧ ∀ b, b = b4 ∨ b = b5 ∨ b = b6 ∨ b = b7 → ¬ (T ≤ b ∧ b ≤ T + 10)) ∧ SrI TS J) ∧
  (HaC J tr ∧ CutI tr TS J) ∧ ((∀ i, 0 ≤ i → i < 30 → J 4 i = J 107 (40 + i)) ∧ (∀ c, 0 ≤ c → c < 3 → J 2 c = J 107 c) ∧ rwO (J 107)) ∧ PlI z kd R J b4 b5 b6 b7 len sl ∧ FiK J ∧ PlM J ∧ (J 105 51 = 0 ∨ J 105 51 = 1)
theorem CutI_x {tr : Nat} {TS : Nat → Prop} {J J' : JI} (hTS : TsO tr TS) (h7 : J' 107 = J 107) (h13 : J' 24 13 = J 24 13) (h32 : J' 105 32 = J 105 32) (hX : ∀ T, TS T → ∀ a i, T ≤ a → a ≤ T + 10 → J' a i = J a i) (hC : ∀ a i, 58 ≤ a ∧ a ≤ 72 → J' a i = J a i) (hM : ∀ a i, 120 ≤ a → a ≤ 122 → J' a i = J a i) (h : CutI tr TS J) : CutI tr TS J' := by
  obtain ⟨h1, h2, h3, h4⟩ := h
  refine ⟨fun T hT' c hc => CuT_c (hX T hT' _ _ (by omega) (by omega)) (hX T hT') (fun a i d1 d2 => hC a i (by omega)) (h1 T hT' c hc), fun z c hc => ?_, fun z c a b => ?_, fun T hT' z W nw hW => ?_⟩
  · rw [h7]
    exact CuN_c (hX tr hTS.1) (fun a i d1 d2 => hC a i (by omega)) (h2 (by rw [← h13]; exact z) c hc)
  · have l := h3 (by rw [← h32]; exact z) c a b
    unfold LsM at *
    rw [h7, hM _ _ (by omega) (by omega)]
    exact LsO_c (fun i _ _ => ⟨hM _ _ (by omega) (by omega), hM _ _ (by omega) (by omega)⟩) l
  · rw [hX T hT' _ _ (by omega) (by omega), hX tr hTS.1 _ _ (by omega) (by omega)] at z
    exact TrW_c (hX tr hTS.1) (h4 T hT' z W nw (TrW_c (fun a i x y => (hX T hT' a i x y).symm) hW))
/-- HaC looks at little -/
theorem HaC_x {tr : Nat} {J J' : JI} (htr : tr = 9 ∨ tr = 93) (h7 : J' 107 = J 107) (hX : ∀ a i, tr ≤ a → a ≤ tr + 10 → J' a i = J a i) (hs : ∀ a i, (a = 1 ∧ i = 11) ∨ a = 3 → J' a i = J a i) (h12 : J' 24 12 = J 24 12) (h0 : J' 105 0 = J 105 0) (h32 : J' 105 32 = 0 ∨ J' 105 32 = 1) (hH : HaC J tr) : HaC J' tr := by
  obtain ⟨⟨hTT, h8, h9, h4, h6⟩, ⟨c1, c2, c3, c4, c5⟩, hE0, h0', _⟩ := hH
  refine ⟨?_, ?_, by rw [h12]; exact hE0, by rw [h0]; exact h0', h32⟩
  · rw [h7]; exact ⟨TrT_j (fun a i d1 d2 => hX a i (by omega) d2) hTT, h8, h9, h4, h6⟩
  · rw [h7]; exact ⟨fun v a b => by rw [hX _ _ (by omega) (by omega)]; exact c1 v a b, by rw [hs _ _ (by omega)]; exact c2, fun i a b => by rw [hs _ _ (by omega)]; exact c3 i a b, by rw [hX _ _ (by omega) (by omega)]; exact c4, by rw [hX _ _ (by omega) (by omega)]; exact c5⟩
theorem LdO_c {J J' : JI} {rn : Nat} {od : Nat → Int} (h : ∀ a i, a = 4 ∨ (a = 26 ∧ 17 ≤ i ∧ i ≤ 19) ∨ (27 ≤ a ∧ a ≤ 43) ∨ (58 ≤ a ∧ a ≤ 72) → J' a i = J a i) (hP : LdO J rn od) : LdO J' rn od := by
  obtain ⟨p1, p2, p3, p4, p5⟩ := hP
  have e4 : J' 4 = J 4 := funext fun i => h _ _ (Or.inl rfl)
  have ew : wnC J' = wnC J := by unfold wnC; rw [e4]
  have eb : bnC J' = bnC J := by unfold bnC; rw [e4]
  have ea : ∀ a, 27 ≤ a → a ≤ 43 → J' a = J a := fun a x y => funext fun i => h _ _ (Or.inr (Or.inr (Or.inl ⟨x, y⟩)))
  have ec : ∀ a, 58 ≤ a → a ≤ 72 → J' a = J a := fun a x y => funext fun i => h _ _ (Or.inr (Or.inr (Or.inr ⟨x, y⟩)))
  have ek : ∀ c k : Nat, c < 3 → ovK J' (58 + 5 * c) k = ovK J (58 + 5 * c) k := fun c k hc => by unfold ovK; rw [e4, ec (58 + 5 * c + 2) (by omega) (by omega)]
  have ef : ∀ c k : Nat, c < 3 → fiK J' rn od (wnC J) c k = fiK J rn od (wnC J) c k := fun c k hc => by unfold fiK; rw [ec (58 + 5 * c + 2) (by omega) (by omega)]
  refine ⟨?_, ?_, ?_, ?_, fun c hc => ?_⟩
  · rw [ew, eb]; exact RtO_c (fun i hi => h _ _ (by omega)) (fun a i x y => h _ _ (by omega)) p1
  · rw [ew, h 26 18 (by omega)]; exact p2
  · rw [ew, eb]; exact p3
  · rw [ew, eb]; exact TbO_c (fun a i x y => h _ _ (by omega)) p4
  · unfold LdG
    rw [ew, eb, ec (58 + 5 * c) (by omega) (by omega)]
    intro q
    obtain ⟨g1, g2⟩ := p5 c hc q
    refine ⟨GrO_c (fun a i x => h _ _ (by omega)) (by omega) (fun k _ => ⟨by rw [ef c k hc], by rw [ek c k hc]⟩) g1, ?_⟩
    unfold TpO at *
    rw [ea 33 (by omega) (by omega)]
    refine ⟨fun k hk => ?_, g2.2⟩
    dsimp only
    rw [ek c k hc, ef c k hc]
    exact g2.1 k hk
section PWS
variable {tr : Nat} {TS : Nat → Prop} {z z' : Nat} {kd kd' : KD} {R R' : RF} {J J' M M' : JI} {b4 b5 b6 b7 len sl c4 c5 c6 c7 len' sl' : Nat}
/-- the class's planner goes on -/
theorem PW_x (h : PW tr TS z kd R J b4 b5 b6 b7 len sl) (g : FrGx XP b4 b5 b6 b7 z kd J M R c4 c5 c6 c7 z' kd' J' M' R') (hI : PlI z' kd' R' J' c4 c5 c6 c7 len' sl') (hF : FiK J') : PW tr TS z' kd' R' J' c4 c5 c6 c7 len' sl' := by
  obtain ⟨⟨⟨htr, q1, q2, q3⟩, hTS, hQ, h56, hz, ow, sr⟩, ⟨hH, hC⟩, ⟨m1, m2, m3⟩, hI0, hF0, hM, h51⟩ := h
  have o7 := hI0.1.2.2.2.1
  have zz := g.1
  have g2 := g.2.1
  have gc := g.2.2
  have fr : ∀ a i, a < 144 → ¬ XP a i → ¬ (47 ≤ a ∧ a ≤ 50) → J' a i = J a i := fun a i x y w => (g2 a (by omega)).2.2.1 i y (by omega)
  have fT : ∀ T, TS T → ∀ a i, T ≤ a → a ≤ T + 10 → J' a i = J a i := fun T hT a i x y => by
    obtain ⟨t1, t2⟩ := ow T hT
    refine (g2 a (by omega)).2.2.1 i (fun w => ?_) (fun w => t2 a w ⟨x, y⟩)
    unfold XP at w
    rcases hTS.2 T hT with rfl | rfl | u <;> omega
  have e7 : J' 107 = J 107 := funext fun i => fr _ _ (by omega) (by unfold XP; omega) (by omega)
  have e4 : J' 4 = J 4 := funext fun i => fr _ _ (by omega) (by unfold XP; omega) (by omega)
  have e2 : J' 2 = J 2 := funext fun i => fr _ _ (by omega) (by unfold XP; omega) (by omega)
  have e5 : ∀ i, J' 105 i = J 105 i := fun i => fr _ _ (by omega) (by unfold XP; omega) (by omega)
  refine ⟨⟨⟨htr, TrO_x g (by omega) q1, rO_x g (by omega) (by omega) q2, fun c hc => ⟨CtO_x g (by omega) (q3 c hc).1, rO_x g (by omega) (by omega) (q3 c hc).2⟩⟩, hTS, ShQ_x g hz hQ, arO_x g h56, by omega, fun T hT => ?_, SrI_c (fr _ _ (by omega) (by unfold XP; omega) (by omega)) (fun c hc => fr _ _ (by omega) (by unfold XP; omega) (by omega)) (fun T hT => fT T hT T 13 (Nat.le_refl _) (by omega)) sr⟩, ⟨?_, ?_⟩, ⟨by rw [e4, e7]; exact m1, by rw [e2, e7]; exact m2, by rw [e7]; exact m3⟩, hI, hF, PlM_c e7 (fun i _ => e5 i) (fun i => fr _ _ (by omega) (by unfold XP; omega) (by omega)) (fun i => fr _ _ (by omega) (by unfold XP; omega) (by omega)) hM, by rw [e5]; exact h51⟩
  · obtain ⟨t1, t2⟩ := ow T hT
    refine ⟨by omega, fun b hb w => ?_⟩
    have t4 := t2 b4 (Or.inl rfl)
    have t5 := t2 b5 (Or.inr (Or.inl rfl))
    have t6 := t2 b6 (Or.inr (Or.inr (Or.inl rfl)))
    have t7 := t2 b7 (Or.inr (Or.inr (Or.inr rfl)))
    obtain ⟨g4, g5, g6, g7⟩ := gc
    clear g2 fr fT e7 e4 e2 e5 ow t2 o7
    rcases hb with rfl | rfl | rfl | rfl <;> omega
  · refine HaC_x htr e7 (fT tr hTS.1) (fun a i x => fr _ _ (by omega) (by unfold XP; omega) (by omega)) (fr _ _ (by omega) (by unfold XP; omega) (by omega)) (e5 0) ?_ hH
    rw [e5]; exact hH.2.2.2.2
  · exact CutI_x hTS e7 (fr _ _ (by omega) (by unfold XP; omega) (by omega)) (e5 32) fT (fun a i x => fr _ _ (by omega) (by unfold XP; omega) (by omega)) (fun a i x y => fr _ _ (by omega) (by unfold XP; omega) (by omega)) hC
/-- the reference goes on -/
theorem PW_m (h : PW tr TS z kd R J b4 b5 b6 b7 len sl) (g : FrMp J J' M M') (hC : CutI tr TS J') (h32 : J' 105 32 = 0 ∨ J' 105 32 = 1) (hM : PlM J') (h51 : J' 105 51 = 0 ∨ J' 105 51 = 1) : PW tr TS z kd R J' b4 b5 b6 b7 len sl := by
  obtain ⟨⟨⟨htr, q1, q2, q3⟩, hTS, hQ, h56, hz, ow, sr⟩, ⟨hH, _⟩, ⟨m1, m2, m3⟩, hI0, hF0, _, _⟩ := h
  have o7 := hI0.1.2.2.2.1
  have fr : ∀ a i, ¬ a = 105 → ¬ (120 ≤ a ∧ a ≤ 135) → J' a i = J a i := fun a i x y => g.1 a i (by omega) y
  have e7 : J' 107 = J 107 := funext fun i => fr _ _ (by omega) (by omega)
  have e4 : J' 4 = J 4 := funext fun i => fr _ _ (by omega) (by omega)
  have e2 : J' 2 = J 2 := funext fun i => fr _ _ (by omega) (by omega)
  refine ⟨⟨⟨htr, q1, q2, q3⟩, hTS, hQ, h56, hz, ow, SrI_c (fr _ _ (by omega) (by omega)) (fun c hc => fr _ _ (by omega) (by omega)) (fun T hT => by rcases hTS.2 T hT with rfl | rfl | u <;> exact fr _ _ (by omega) (by omega)) sr⟩, ⟨?_, hC⟩, ⟨by rw [e4, e7]; exact m1, by rw [e2, e7]; exact m2, by rw [e7]; exact m3⟩, ?_, FiK_c (fr _ _ (by omega) (by omega)) e4 e2 (fun x i y w => fr _ _ (by omega) (by omega)) hF0, hM, h51⟩
  · exact HaC_x htr e7 (fun a i x y => fr _ _ (by omega) (by omega)) (fun a i x => fr _ _ (by omega) (by omega)) (fr _ _ (by omega) (by omega)) (g.1 _ _ (by omega) (by omega)) h32 hH
  · obtain ⟨i1, i2, i3, i4, i5, i6⟩ := hI0
    refine ⟨i1, fun p x y => by rw [fr _ _ (by omega) (by omega)]; exact i2 p x y, by rw [fr _ _ (by omega) (by omega)]; exact i3, fun w => ?_, fun s x y => by rw [fr _ _ (by omega) (by omega), fr _ _ (by omega) (by omega)]; exact i5 s x y, fun a b c hv e => ?_⟩
    · obtain ⟨rn, od, k1, k2⟩ := i4 (by rw [← fr 24 14 (by omega) (by omega)]; exact w)
      refine ⟨rn, od, ?_, LyK_c (fun i => fr _ _ (by omega) (by omega)) (fr _ _ (by omega) (by omega)) (fun a i x => fr _ _ (by omega) (by omega)) k2⟩
      exact LdO_c (fun a i x => fr _ _ (by omega) (by omega)) k1
    · rw [fr _ _ (by omega) (by omega), fr _ _ (by omega) (by omega)] at e
      exact BsO_c (fun i => fr _ _ (by omega) (by omega)) (fun x i y w => fr _ _ (by omega) (by omega)) (fr _ _ (by omega) (by omega)) (fr _ _ (by omega) (by omega)) (i6 a b c hv e)
end PWS
