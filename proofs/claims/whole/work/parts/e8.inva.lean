/-! THE INVARIANT, whole -/
/-- the clauses' words end where the words end -/
def TkB (J : JI) (T : Nat) (n : Int) : Prop := ∀ c, 0 ≤ c → c < n → J (T + 5) c ≤ J T 12
theorem TkB_c {J J' : JI} {T : Nat} {n n' : Int} (h5 : ∀ i, J' (T + 5) i = J (T + 5) i) (h12 : J' T 12 = J T 12) (hn : n' = n) (h : TkB J T n) : TkB J' T n' := fun c a b => by
  rw [h5, h12]; exact h c a (by omega)
def ImD (R : RF) (b4 b5 b6 b7 : Nat) : Prop := ∀ k h : Nat, k < 2 → R 20 k = some h → ∀ b, b = b4 ∨ b = b5 ∨ b = b6 ∨ b = b7 → ¬ (h ≤ b ∧ b ≤ h + 18)
def ImT (TS : Nat → Prop) (R : RF) (J : JI) : Prop := ∀ k h : Nat, k < 2 → R 20 k = some h → TS (h + 8) ∧ TrT J (h + 8) (fun i => J 108 (1570 * k + i)) ∧ TkB J (h + 8) (J 108 (1570 * k + 8))
def TsE (TS : Nat → Prop) (J : JI) : Prop := ∀ T T', TS T → TS T' → J T 13 = J T' 13 → ∀ W nw, TrW J T W nw → TrW J T' W nw
/-- all that stands between two calls; t: how many calls there were -/
def InvA (t tr : Nat) (TS : Nat → Prop) (z : Nat) (kd : KD) (R : RF) (J M : JI) (b4 b5 b6 b7 len sl : Nat) : Prop := InvB t tr z kd R J ∧ PW tr TS z kd R J b4 b5 b6 b7 len sl ∧ (CrI J (J 107) ∧ MxI J (J 107)) ∧ (0 ≤ J 0 14 ∧ J 0 14 ≤ t) ∧ ((TsE TS J ∧ TkB J tr (J 107 8)) ∧ ImT TS R J ∧ ImD R b4 b5 b6 b7) ∧ ∀ i : Nat, i < 5 → M 116 i = cws.getD (4 + i) 0
/-- cells and slots made so far -/
def imN (R : RF) : Nat := (if (R 20 0).isSome then 1 else 0) + (if (R 20 1).isSome then 1 else 0)
def RmP (R : RF) (len sl CK CM : Nat) : Prop := ∃ a b, Pot len sl a b ∧ CK ≤ a + 19 * imN R ∧ CM ≤ b + 3000 * imN R
/-- what a call leaves, and what the reference answers then -/
def PostA (t : Nat) (R : RF) (len sl : Nat) (kM : Nat → EN → JI → JI → Option (Int × JI × JI)) (q : (Int × Nat × KD × JI × JI × RF) × Nat × Nat) : Prop := ∃ (z' : Nat) (kd' : KD) (J' M' : JI) (R' : RF), q.1.2 = (z', kd', J', M', R') ∧ Ev (fun n => kM n (z', kd', R') J' M') (fun r => r.1 = q.1.1 ∧ ∃ (tr' : Nat) (TS' : Nat → Prop) (c4 c5 c6 c7 len' sl' : Nat), InvA (t + 1) tr' TS' z' kd' R' r.2.1 r.2.2 c4 c5 c6 c7 len' sl' ∧ ∀ CK CM, RmP R len sl CK CM → RmP R' len' sl' (CK + q.2.1) (CM + q.2.2))
theorem smO_p {t : Nat} {J J' : JI} (hs : smO t J) (same : ∀ a i, (a = 0 ∧ (i = 13 ∨ (15 ≤ i ∧ i ≤ 18))) ∨ (a = 105 ∧ (i = 0 ∨ i = 1 ∨ i = 7 ∨ i = 12 ∨ i = 63 ∨ i = 67)) ∨ a = 89 ∨ a = 91 ∨ a = 92 ∨ a = 106 ∨ a = 110 ∨ a = 142 → J' a i = J a i) (h32 : J' 105 32 = 0 ∨ J' 105 32 = 1) (h51 : J' 105 51 = 0 ∨ J' 105 51 = 1) (h12 : 0 ≤ J' 24 12 ∧ J' 24 12 ≤ J 24 12 + 1) : smO (t + 1) J' := by
  have hs' := hs
  obtain ⟨s1, s2, s3, s4, s5, s6, s7, s8, s9, s10, s11, s12, s13, s14, s15, s16⟩ := hs'
  exact smO_wk hs (fun a i x => same a i (by omega)) h32 h51 (by rw [same _ _ (by omega), same _ _ (by omega)]; exact s12) (by rw [same _ _ (by omega), same _ _ (by omega)]; exact s13) (fun i a b => by rw [same _ _ (by omega), same _ _ (by omega)]; exact s15 i a b) (fun j i x => Or.inl ⟨same _ _ (by omega), same _ _ (by omega)⟩) h12
section IX
variable {X : Nat → Int → Prop} {z z' : Nat} {kd kd' : KD} {R R' : RF} {J J1 J2 M M1 M2 : JI} {b4 b5 b6 b7 c4 c5 c6 c7 : Nat}
theorem HlO_g {a u : Nat} (h : FrGx X b4 b5 b6 b7 z kd J M R c4 c5 c6 c7 z' kd' J1 M1 R') (ha : ¬ a = 44) (q : HlO (z, kd, R) a u) : HlO (z', kd', R') a u := by
  obtain ⟨q1, q2, q3, q4, q5, q6, q7, q8, q9⟩ := q
  have l : a < z := q1.1
  refine ⟨⟨by have := h.1; show a < z'; omega, by show (kd' a).1 = 3; rw [(h.2.1 a l).1]; exact q1.2⟩, ⟨rO_x h l (by omega) q2.1, arO_x h q2.2⟩, ⟨rO_x h l (by omega) q3.1, arO_x h q3.2⟩, ⟨rO_x h l (by omega) q4.1, arO_x h q4.2⟩, ⟨rO_x h l (by omega) q5.1, arO_x h q5.2⟩, ⟨rO_x h l (by omega) q6.1, arO_x h q6.2⟩, ⟨rO_x h l (by omega) q7.1, arO_x h q7.2⟩, ⟨rO_x h l (by omega) q8.1, arO_x h q8.2⟩, rO_x h l (by omega) q9⟩
/-- the plain part stays where its cells stay -/
theorem InvB_x {t t' tr : Nat} (q : InvB t tr z kd R J) (g : FrGx X b4 b5 b6 b7 z kd J M R c4 c5 c6 c7 z' kd' J1 M1 R') (ob : ∀ b, b = b4 ∨ b = b5 ∨ b = b6 ∨ b = b7 → (47 ≤ b ∧ b ≤ 50) ∨ 144 ≤ b) (hD : ImD R b4 b5 b6 b7) (hj : ∀ a i, a < z → ((1 ≤ a ∧ a ≤ 20) ∨ (93 ≤ a ∧ a ≤ 103) ∨ (107 ≤ a ∧ a ≤ 109) ∨ 144 ≤ a) → ¬ (a = b4 ∨ a = b5 ∨ a = b6 ∨ a = b7) → J2 a i = J a i) (s : smO t' J2) : InvB t' tr z' kd' R' J2 := by
  obtain ⟨q1, q2, q3, q4, q5, q6, q7, q8, q9⟩ := q
  have z144 := q2.1
  have nb : ∀ a, a < 144 → ¬ (47 ≤ a ∧ a ≤ 50) → ¬ (a = b4 ∨ a = b5 ∨ a = b6 ∨ a = b7) := fun a x y w => by have := ob a w; omega
  have f : ∀ a i, ((1 ≤ a ∧ a ≤ 20) ∨ (93 ≤ a ∧ a ≤ 103) ∨ (107 ≤ a ∧ a ≤ 109)) → J2 a i = J a i := fun a i x => hj a i (by omega) (by omega) (nb a (by omega) (by omega))
  have e7 : J2 107 = J 107 := funext fun i => f _ _ (by omega)
  have r20 : ∀ k, R' 20 k = R 20 k := fun k => (g.2.1 20 (by omega)).2.1 k (by omega)
  refine ⟨q1, Sh_x q2 g, HlO_g g (by omega) q3, rO_x g (by omega) (by omega) q4, by rw [e7]; exact q5, ?_, s, fun k hk => ?_, fun a b x y => q9 a b (by rw [← r20]; exact x) (by rw [← r20]; exact y)⟩
  · rw [e7]
    refine hlC_congr (fun _ _ _ => rfl) q5.2.2.2.2.2.2.1.2 q5.2.2.2.2.2.2.2.2.1.2 (fun a j x => f a j (by omega)) q6
  · rcases q8 k hk with ⟨a, b⟩ | ⟨h, i1, i2, i3, i4, i5, i6, i7, i8⟩
    · exact Or.inl ⟨by rw [r20]; exact a, by rw [f _ _ (by omega)]; exact b⟩
    · have dj := hD k h hk i1
      have fh : ∀ a i, h ≤ a → a ≤ h + 18 → J2 a i = J a i := fun a i x y => hj a i (by omega) (by omega) (fun w => dj a w ⟨x, y⟩)
      have e8 : (fun i => J2 108 (1570 * k + i)) = (fun i => J 108 (1570 * k + i)) := funext fun i => f _ _ (by omega)
      refine Or.inr ⟨h, by rw [r20]; exact i1, by rw [f _ _ (by omega)]; exact i2, i3, by have := g.1; omega, HlO_g g (by omega) i5, TrO_x g (by omega) i6, by rw [e8]; exact i7, ?_⟩
      rw [e8]
      exact hlC_congr (fun _ _ _ => rfl) i7.2.2.2.2.2.2.1.2 i7.2.2.2.2.2.2.2.2.1.2 (fun a j x => fh a j (by omega) (by omega)) i8
/-- the mixer's tables stay -/
theorem MxI_c {K K' : JI} {ρ : Int → Int} (h : ∀ a i, 81 ≤ a → a ≤ 86 → K' a i = K a i) (q : MxI K ρ) : MxI K' ρ := by
  obtain ⟨q1, q2⟩ := q
  unfold MxI mxQ
  rw [h 81 11 (by omega) (by omega), h 81 8 (by omega) (by omega), h 81 9 (by omega) (by omega), h 81 10 (by omega) (by omega), h 81 12 (by omega) (by omega), h 81 13 (by omega) (by omega), h 81 14 (by omega) (by omega)]
  refine ⟨q1, fun w => ?_⟩
  obtain ⟨⟨nu, lo, hi, a⟩, b⟩ := q2 w
  exact ⟨⟨nu, lo, hi, mxB_c (h _ _ (by omega) (by omega)) (h _ _ (by omega) (by omega)) (fun a i x y => h a i (by omega) (by omega)) a⟩, b⟩
def XA (a : Nat) (i : Int) : Prop := XC a i ∨ a = 90 ∨ a = 91 ∨ a = 92 ∨ (a = 0 ∧ (i = 17 ∨ i = 18))
/-- a call of the planner or the crew, or a week, keeps all -/
theorem InvA_x {t tr : Nat} {TS : Nat → Prop} {len sl len' sl' : Nat} (h : InvA t tr TS z kd R J M b4 b5 b6 b7 len sl) (g : FrGx XA b4 b5 b6 b7 z kd J M R c4 c5 c6 c7 z' kd' J1 M1 R') (W : PW tr TS z' kd' R' J2 c4 c5 c6 c7 len' sl') (hm : ∀ a i, ¬ a = 105 → ¬ a = 106 → ¬ (120 ≤ a ∧ a ≤ 143) → J2 a i = J1 a i) (hM : ∀ i, M2 116 i = M1 116 i) (s : smO (t + 1) J2) (cr : CrI J2 (J2 107)) : InvA (t + 1) tr TS z' kd' R' J2 M2 c4 c5 c6 c7 len' sl' := by
  obtain ⟨h1, h2, ⟨h3, h4⟩, h5, ⟨⟨h6, hkb⟩, h7, h8⟩, h9⟩ := h
  have o7 := h2.2.2.2.1.1.2.2.2.1
  have z144 := h1.2.1.1
  have ob : ∀ b, b = b4 ∨ b = b5 ∨ b = b6 ∨ b = b7 → (47 ≤ b ∧ b ≤ 50) ∨ 144 ≤ b := fun b hb => by omega
  have ow := h2.1.2.2.2.2.2.1
  have hTS := h2.1.2.1
  have f : ∀ a i, a < z → ¬ XA a i → ¬ (a = b4 ∨ a = b5 ∨ a = b6 ∨ a = b7) → ¬ a = 105 → ¬ a = 106 → ¬ (120 ≤ a ∧ a ≤ 143) → J2 a i = J a i := fun a i x y w v1 v2 v3 => by
    rw [hm a i v1 v2 v3]; exact (g.2.1 a x).2.2.1 i y w
  have nb : ∀ a, a < 144 → ¬ (47 ≤ a ∧ a ≤ 50) → ¬ (a = b4 ∨ a = b5 ∨ a = b6 ∨ a = b7) := fun a x y w => by have := ob a w; omega
  have fT : ∀ T, TS T → ∀ a i, T ≤ a → a ≤ T + 10 → J2 a i = J a i := fun T hT a i x y => by
    obtain ⟨t1, t2⟩ := ow T hT
    refine f a i (by omega) (fun w => ?_) (fun w => t2 a w ⟨x, y⟩) ?_ ?_ ?_
    · unfold XA XC XW at w
      rcases hTS.2 T hT with rfl | rfl | u <;> omega
    · rcases hTS.2 T hT with rfl | rfl | u <;> omega
    · rcases hTS.2 T hT with rfl | rfl | u <;> omega
    · rcases hTS.2 T hT with rfl | rfl | u <;> omega
  have r20 : ∀ k, R' 20 k = R 20 k := fun k => (g.2.1 20 (by omega)).2.1 k (by omega)
  have e7 : J2 107 = J 107 := funext fun i => f _ _ (by omega) (by unfold XA XC XW; omega) (nb _ (by omega) (by omega)) (by omega) (by omega) (by omega)
  have e0 : J2 0 14 = J 0 14 := f _ _ (by omega) (by unfold XA XC XW; omega) (nb _ (by omega) (by omega)) (by omega) (by omega) (by omega)
  refine ⟨InvB_x h1 g ob h8 (fun a i x y w => f a i x (fun v => by unfold XA XC XW at v; omega) w (by omega) (by omega) (by omega)) s, W, ⟨cr, ?_⟩, by rw [e0]; omega, ⟨⟨fun T T' hT hT' e W' nw hW => ?_, TkB_c (fun i => fT tr hTS.1 _ _ (by omega) (by omega)) (fT tr hTS.1 _ _ (by omega) (by omega)) (by rw [e7]) hkb⟩, fun k a hk e => ?_, fun k a hk e b hb => ?_⟩, fun i hi => ?_⟩
  · rw [e7]
    exact MxI_c (fun a i x y => f _ _ (by omega) (by unfold XA XC XW; omega) (nb _ (by omega) (by omega)) (by omega) (by omega) (by omega)) h4
  · rw [fT T hT _ _ (by omega) (by omega), fT T' hT' _ _ (by omega) (by omega)] at e
    exact TrW_c (fT T' hT') (h6 T T' hT hT' e W' nw (TrW_c (fun a i x y => (fT T hT a i x y).symm) hW))
  · rw [r20] at e
    obtain ⟨a1, a2, a3⟩ := h7 k a hk e
    have e8 : ∀ i, J2 108 i = J 108 i := fun i => f _ _ (by omega) (by unfold XA XC XW; omega) (nb _ (by omega) (by omega)) (by omega) (by omega) (by omega)
    refine ⟨a1, ?_, TkB_c (fun i => fT _ a1 _ _ (by omega) (by omega)) (fT _ a1 _ _ (by omega) (by omega)) (e8 _) a3⟩
    rw [show (fun i => J2 108 (1570 * (k : Int) + i)) = (fun i => J 108 (1570 * (k : Int) + i)) from funext fun i => f _ _ (by omega) (by unfold XA XC XW; omega) (nb _ (by omega) (by omega)) (by omega) (by omega) (by omega)]
    exact TrT_j (fun b i x y => fT _ a1 b i (by omega) y) a2
  · rw [r20] at e
    have d := h8 k a hk e
    have hz : a + 18 < z := by
      rcases h1.2.2.2.2.2.2.2.1 k hk with ⟨y, _⟩ | ⟨h', y1, y2, y3, y4, _⟩
      · rw [e] at y; cases y
      · rw [e] at y1; cases y1; exact y4
    have key : ∀ b c, ¬ (a ≤ b ∧ b ≤ a + 18) → (c = b ∨ z ≤ c) → ¬ (a ≤ c ∧ c ≤ a + 18) := fun b c x y => by
      rcases y with y | y
      · rw [y]; exact x
      · omega
    obtain ⟨g4, g5, g6, g7⟩ := g.2.2
    rcases hb with rfl | rfl | rfl | rfl
    · exact key b4 _ (d b4 (Or.inl rfl)) g4
    · exact key b5 _ (d b5 (Or.inr (Or.inl rfl))) g5
    · exact key b6 _ (d b6 (Or.inr (Or.inr (Or.inl rfl)))) g6
    · exact key b7 _ (d b7 (Or.inr (Or.inr (Or.inr rfl)))) g7
  · rw [hM, (g.2.1 116 (by omega)).2.2.2]
    exact h9 i hi
end IX
section LIFT
variable {t tr : Nat} {TS : Nat → Prop} {z : Nat} {kd : KD} {R : RF} {J M : JI} {b4 b5 b6 b7 len sl : Nat}
theorem RmP_s {R R' : RF} {len sl len' sl' ck cm : Nat} (h : PotS len sl len' sl' ck cm) (hR : ∀ k, R' 20 k = R 20 k) : ∀ CK CM, RmP R len sl CK CM → RmP R' len' sl' (CK + ck) (CM + cm) := fun CK CM ⟨a, b, p, q, r⟩ => by
  have e : imN R' = imN R := by unfold imN; rw [hR, hR]
  exact ⟨a + ck, b + cm, h a b p, by rw [e]; omega, by rw [e]; omega⟩
theorem InvA_E (h : InvA t tr TS z kd R J M b4 b5 b6 b7 len sl) (ht : t < 512) : J 24 12 ≤ 999998 := by
  have := h.1.2.2.2.2.2.2.1.2.2.2.2.2.2.2.2.2.2.2.2.2.2.2
  omega
/-- what the planner's calls leave -/
theorem Post_p {kM : Nat → EN → JI → JI → Option (Int × JI × JI)} {q : (Int × Nat × KD × JI × JI × RF) × Nat × Nat} (h : InvA t tr TS z kd R J M b4 b5 b6 b7 len sl) (hq : PoQ tr TS b4 b5 b6 b7 len sl z kd J M R kM q) : PostA t R len sl kM q := by
  obtain ⟨z', kd', J', M', R', c4, c5, c6, c7, len', sl', e, p, g, e12, ev⟩ := hq
  refine ⟨z', kd', J', M', R', e, Ev_mono ev ?_⟩
  rintro ⟨v, J2, M2⟩ ⟨r1, W, f1, f2⟩
  dsimp only at r1 f1 f2 W ⊢
  have z144 := h.1.2.1.1
  have o7 := h.2.1.2.2.2.1.1.2.2.2.1
  have fr : ∀ a i, a < 144 → ¬ XW a i → ¬ (47 ≤ a ∧ a ≤ 50) → ¬ (a = 105 ∧ (i = 29 ∨ i = 32 ∨ (40 ≤ i ∧ i ≤ 54))) → ¬ (120 ≤ a ∧ a ≤ 135) → J2 a i = J a i := fun a i x y w v1 v2 => by
    rw [f1 a i v1 v2]; exact (g.2.1 a (by omega)).2.2.1 i y (by omega)
  have e7 : J2 107 = J 107 := funext fun i => fr _ _ (by omega) (by unfold XW; omega) (by omega) (by omega) (by omega)
  refine ⟨r1, tr, TS, c4, c5, c6, c7, len', sl', InvA_x h (FrGx_m (fun a i x => Or.inl (Or.inl x)) g) W (fun a i x1 x2 x3 => f1 a i (by omega) (by omega)) (fun i => f2 _ _ (by omega) (by omega) (by omega)) (smO_p h.1.2.2.2.2.2.2.1 (fun a i x => fr a i (by omega) (by unfold XW; omega) (by omega) (by omega) (by omega)) W.2.1.1.2.2.2.2 W.2.2.2.2.2.2 ?_) ?_, RmP_s p (fun k => (g.2.1 20 (by omega)).2.1 k (by omega))⟩
  · have := W.2.1.1.2.2.1
    rw [f1 24 12 (by omega) (by omega)] at this ⊢
    omega
  · rw [e7]
    exact CrI_c (fun a i x y => fr a i (by omega) (by unfold XW; omega) (by omega) (by omega) (by omega)) h.2.2.1.1
theorem Post_c {kM : Nat → EN → JI → JI → Option (Int × JI × JI)} {q : (Int × Nat × KD × JI × JI × RF) × Nat × Nat} (h : InvA t tr TS z kd R J M b4 b5 b6 b7 len sl) (hq : CrQ tr TS b4 b5 b6 b7 len sl z kd J M R kM q) : PostA t R len sl kM q := by
  obtain ⟨z', kd', J', M', R', c4, c5, c6, c7, len', sl', e, p, g, e12, ev⟩ := hq
  refine ⟨z', kd', J', M', R', e, Ev_mono ev ?_⟩
  rintro ⟨v, J2, M2⟩ ⟨r1, W, ⟨f1, f2⟩, cr⟩
  dsimp only at r1 f1 f2 W cr ⊢
  have z144 := h.1.2.1.1
  have o7 := h.2.1.2.2.2.1.1.2.2.2.1
  have fr : ∀ a i, a < 144 → ¬ XC a i → ¬ (47 ≤ a ∧ a ≤ 50) → ¬ (a = 105 ∧ (i = 29 ∨ i = 32 ∨ (40 ≤ i ∧ i ≤ 54) ∨ i = 60)) → ¬ (120 ≤ a ∧ a ≤ 141) → J2 a i = J a i := fun a i x y w v1 v2 => by
    rw [f1 a i v1 v2]; exact (g.2.1 a (by omega)).2.2.1 i y (by omega)
  refine ⟨r1, tr, TS, c4, c5, c6, c7, len', sl', InvA_x h (FrGx_m (fun a i x => Or.inl x) g) W (fun a i x1 x2 x3 => f1 a i (by omega) (by omega)) (fun i => f2 _ _ (by omega) (by omega) (by omega)) (smO_p h.1.2.2.2.2.2.2.1 (fun a i x => fr a i (by omega) (by unfold XC XW; omega) (by omega) (by omega) (by omega)) W.2.1.1.2.2.2.2 W.2.2.2.2.2.2 ?_) cr, RmP_s p (fun k => (g.2.1 20 (by omega)).2.1 k (by omega))⟩
  have := W.2.1.1.2.2.1
  rw [f1 24 12 (by omega) (by omega)] at this ⊢
  omega
theorem Post_w {kM : Nat → EN → JI → JI → Option (Int × JI × JI)} {q : (Int × Nat × KD × JI × JI × RF) × Nat × Nat} (h : InvA t tr TS z kd R J M b4 b5 b6 b7 len sl) (hq : WkQ tr TS b4 b5 b6 b7 z kd J M R t kM len sl q) : PostA t R len sl kM q := by
  obtain ⟨z', kd', J', M', R', c4, c5, c6, c7, len', sl', e, p, g, e12, ev⟩ := hq
  refine ⟨z', kd', J', M', R', e, Ev_mono ev ?_⟩
  rintro ⟨v, J2, M2⟩ ⟨r1, W, ⟨f1, f2⟩, s⟩
  dsimp only at r1 f1 f2 W s ⊢
  have z144 := h.1.2.1.1
  have o7 := h.2.1.2.2.2.1.1.2.2.2.1
  have fr : ∀ a i, a < 144 → ¬ XV a i → ¬ (47 ≤ a ∧ a ≤ 50) → ¬ (a = 105 ∨ a = 106) → ¬ (120 ≤ a ∧ a ≤ 143) → J2 a i = J a i := fun a i x y w v1 v2 => by
    rw [f1 a i (by omega) (by omega) (by omega) (by omega)]; exact (g.2.1 a (by omega)).2.2.1 i y (by omega)
  have e7 : J2 107 = J 107 := funext fun i => fr _ _ (by omega) (by unfold XV XW; omega) (by omega) (by omega) (by omega)
  refine ⟨r1, tr, TS, c4, c5, c6, c7, len', sl', InvA_x h (FrGx_m (fun a i x => by unfold XV XW at x; unfold XA XC XW; omega) g) W (fun a i x1 x2 x3 => f1 a i (by omega) (by omega) (by omega) (by omega)) (fun i => f2 _ _ (by omega) (by omega) (by omega)) s ?_, RmP_s p (fun k => (g.2.1 20 (by omega)).2.1 k (by omega))⟩
  rw [e7]
  exact CrI_c (fun a i x y => fr a i (by omega) (by unfold XV XW; omega) (by omega) (by omega) (by omega)) h.2.2.1.1
end LIFT
