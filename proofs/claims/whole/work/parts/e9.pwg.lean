/-! THE INVARIANT: calls that change a few cells -/
section PG
variable {t tr : Nat} {TS : Nat → Prop} {z : Nat} {kd : KD} {R : RF} {J J1 M M1 : JI} {b4 b5 b6 b7 len sl : Nat}
theorem PlI_k (h : PlI z kd R J b4 b5 b6 b7 len sl) (fr : ∀ a i, a = 4 ∨ (a = 24 ∧ (i = 12 ∨ i = 14)) ∨ (26 ≤ a ∧ a ≤ 54) ∨ (58 ≤ a ∧ a ≤ 72) ∨ 144 ≤ a → J1 a i = J a i) : PlI z kd R J1 b4 b5 b6 b7 len sl := by
  obtain ⟨i1, i2, i3, i4, i5, i6⟩ := h
  have o7 := i1.2.2.2.1
  refine ⟨i1, fun p x y => by rw [fr _ _ (by omega)]; exact i2 p x y, by rw [fr _ _ (by omega)]; exact i3, fun w => ?_, fun s x y => by rw [fr _ _ (by omega), fr _ _ (by omega)]; exact i5 s x y, fun a b c hv e => ?_⟩
  · obtain ⟨rn, od, k1, k2⟩ := i4 (by rw [← fr 24 14 (by omega)]; exact w)
    exact ⟨rn, od, LdO_c (fun a i x => fr _ _ (by omega)) k1, LyK_c (fun i => fr _ _ (by omega)) (fr _ _ (by omega)) (fun a i x => fr _ _ (by omega)) k2⟩
  · rw [fr _ _ (by omega), fr _ _ (by omega)] at e
    exact BsO_c (fun i => fr _ _ (by omega)) (fun x i y w => fr _ _ (by omega)) (fr _ _ (by omega)) (fr _ _ (by omega)) (i6 a b c hv e)
/-- plans forgotten -/
theorem PlI_f (h : PlI z kd R J b4 b5 b6 b7 len sl) (o : (b4 = 47 ∨ 144 ≤ b4) ∧ (b5 = 48 ∨ 144 ≤ b5) ∧ (b6 = 49 ∨ 144 ≤ b6) ∧ (b7 = 50 ∨ 144 ≤ b7)) (fr : ∀ a i, a = 50 ∨ a = 53 ∨ 144 ≤ a → J1 a i = J a i) (h14 : J1 24 14 = 1) (h12 : J1 24 12 = J 24 12 + 1) : PlI z kd R J1 b4 b5 b6 b7 len sl := by
  obtain ⟨i1, i2, i3, i4, i5, i6⟩ := h
  refine ⟨i1, fun p x y => by rw [fr _ _ (by omega)]; exact i2 p x y, Or.inr h14, fun w => by omega, fun s x y => ?_, fun a b c hv e => ?_⟩
  · rw [fr _ _ (by omega), h12]
    have := i5 s x y
    omega
  · rw [fr _ _ (by omega), h12] at e
    have := i5 _ (spt_b hv).1 (spt_b hv).2
    omega
theorem PW_G (h : PW tr TS z kd R J b4 b5 b6 b7 len sl) (hT : ∀ T, TS T → ∀ a i, T ≤ a → a ≤ T + 10 → J1 a i = J a i) (h58 : ∀ a i, 58 ≤ a → a ≤ 72 → J1 a i = J a i) (h0 : J1 0 14 = J 0 14) (hH : HaC J1 tr) (h13 : J1 24 13 = 1 ∨ (J1 24 13 = J 24 13 ∧ rhE (J 107) (J1 107))) (hm : (∀ i, 0 ≤ i → i < 30 → J1 4 i = J1 107 (40 + i)) ∧ (∀ c, 0 ≤ c → c < 3 → J1 2 c = J1 107 c) ∧ rwO (J1 107)) (hI : PlI z kd R J1 b4 b5 b6 b7 len sl) (hF : FiK J1) (h32 : J1 105 32 = 0) (h51 : J1 105 51 = 0) : PW tr TS z kd R J1 b4 b5 b6 b7 len sl := by
  obtain ⟨⟨hS, hTS, hQ, h56, hz, ow, sr⟩, ⟨hH0, hC⟩, _, _, _, _, _⟩ := h
  obtain ⟨k1, k2, k3, k4⟩ := hC
  refine ⟨⟨hS, hTS, hQ, h56, hz, ow, SrI_c h0 (fun c hc => h58 _ _ (by omega) (by omega)) (fun T hT' => hT T hT' T 13 (Nat.le_refl _) (by omega)) sr⟩, ⟨hH, ⟨fun T hT' c hc => CuT_c (hT T hT' _ _ (by omega) (by omega)) (hT T hT') (fun a i x y => h58 a i (by omega) (by omega)) (k1 T hT' c hc), fun w c hc => ?_, fun w => by omega, fun T hT' e W nw hW => ?_⟩⟩, hm, hI, hF, fun w => by omega, Or.inl h51⟩
  · rcases h13 with y | ⟨y1, y2⟩
    · omega
    · have a1 : AskO J1 tr (J 107) := ⟨TrT_j (fun a i x y => hT tr hTS.1 a i (by omega) y) hH0.1.1, hH0.1.2⟩
      exact CuN_r y2 a1 hc (CuN_c (hT tr hTS.1) (fun a i x y => h58 a i (by omega) (by omega)) (k2 (by rw [← y1]; exact w) c hc))
  · rw [hT T hT' _ _ (by omega) (by omega), hT tr hTS.1 _ _ (by omega) (by omega)] at e
    exact TrW_c (hT tr hTS.1) (k4 T hT' e W nw (TrW_c (fun a i x y => (hT T hT' a i x y).symm) hW))
/-- the row changed where neither trees nor plans look -/
def ySm (i : Int) : Prop := i = 3 ∨ i = 5 ∨ i = 6 ∨ i = 7 ∨ (70 ≤ i ∧ i < 290)
def XS1 (a : Nat) (i : Int) : Prop := (a = 0 ∧ ¬ i = 14) ∨ (a = 1 ∧ ¬ i = 11) ∨ (5 ≤ a ∧ a ≤ 8) ∨ (a = 73 ∧ (i = 15 ∨ i = 16)) ∨ (a = 81 ∧ 6 ≤ i ∧ i ≤ 14) ∨ (82 ≤ a ∧ a ≤ 86) ∨ a = 88 ∨ a = 89 ∨ a = 92 ∨ (a = 105 ∧ ¬ (i = 0 ∨ (51 ≤ i ∧ i ≤ 54) ∨ i = 32)) ∨ a = 106 ∨ a = 110 ∨ a = 141
theorem PW_s (h : PW tr TS z kd R J b4 b5 b6 b7 len sl) (hn : ∀ a i, ¬ XS1 a i → ¬ (a = 105 ∧ (i = 32 ∨ i = 51)) → ¬ (a = 107 ∧ ySm i) → J1 a i = J a i) (h5 : ((J1 105 32 = J 105 32 ∧ J1 105 51 = J 105 51) ∧ ∀ i, J1 107 i = J 107 i) ∨ (J1 105 32 = 0 ∧ J1 105 51 = 0)) (hr : rwO (J1 107)) : PW tr TS z kd R J1 b4 b5 b6 b7 len sl := by
  rcases h5 with ⟨h5, h7⟩ | ⟨h32, h51⟩
  · refine PW_z h (fun a i y w => ?_) (Or.inl h5)
    by_cases c : a = 107
    · subst c; exact h7 i
    · exact hn a i (fun x => y (by unfold XS1 at x; unfold XZ; omega)) w (fun x => c x.1)
  · have htr := h.1.1.1
    have hTS := h.1.2.1
    obtain ⟨hA, ⟨c1, c2, c3, c4, c5⟩, hE, h00, _⟩ := h.2.1.1
    obtain ⟨m1, m2, _⟩ := h.2.2.1
    have f : ∀ a i, ¬ XS1 a i → ¬ a = 105 → ¬ a = 107 → J1 a i = J a i := fun a i x y w => hn a i x (by omega) (by omega)
    have ρs : ∀ i, ¬ ySm i → J1 107 i = J 107 i := fun i x => hn 107 i (by unfold XS1; omega) (by omega) (fun y => x y.2)
    have hρ : rhE (J 107) (J1 107) := fun i x => ρs i (by unfold ySm; omega)
    have fT : ∀ T, TS T → ∀ a i, T ≤ a → a ≤ T + 10 → J1 a i = J a i := fun T hT a i x y => by
      rcases hTS.2 T hT with rfl | rfl | u <;> exact f a i (by unfold XS1; omega) (by omega) (by omega)
    have e4 : J1 4 = J 4 := funext fun i => f _ _ (by unfold XS1; omega) (by omega) (by omega)
    have e2 : J1 2 = J 2 := funext fun i => f _ _ (by unfold XS1; omega) (by omega) (by omega)
    have a1 : AskO J1 tr (J 107) := ⟨TrT_j (fun a i x y => fT tr hTS.1 a i (by omega) y) hA.1, hA.2⟩
    have g1 : ClsO J1 tr (J 107) := ⟨fun w a b => by rw [fT tr hTS.1 _ _ (by omega) (by omega)]; exact c1 w a b, by rw [f _ _ (by unfold XS1; omega) (by omega) (by omega)]; exact c2, fun i a b => by rw [f _ _ (by unfold XS1; omega) (by omega) (by omega)]; exact c3 i a b, by rw [fT tr hTS.1 _ _ (by omega) (by omega)]; exact c4, by rw [fT tr hTS.1 _ _ (by omega) (by omega)]; exact c5⟩
    refine PW_G h fT (fun a i x y => f a i (by unfold XS1; omega) (by omega) (by omega)) (f _ _ (by unfold XS1; omega) (by omega) (by omega)) ⟨AskO_r hρ a1, ClsO_r hρ g1, by rw [f _ _ (by unfold XS1; omega) (by omega) (by omega)]; exact hE, by rw [hn _ _ (by unfold XS1; omega) (by omega) (by omega)]; exact h00, Or.inl h32⟩ (Or.inr ⟨f _ _ (by unfold XS1; omega) (by omega) (by omega), hρ⟩) ⟨fun i a b => by rw [e4, ρs _ (by unfold ySm; omega)]; exact m1 i a b, fun c a b => by rw [e2, ρs _ (by unfold ySm; omega)]; exact m2 c a b, hr⟩ (PlI_k h.2.2.2.1 (fun a i x => f a i (by unfold XS1; omega) (by omega) (by omega))) (FiK_c (f _ _ (by unfold XS1; omega) (by omega) (by omega)) e4 e2 (fun x i y w => f _ _ (by unfold XS1; omega) (by omega) (by omega)) h.2.2.2.2.1) h32 h51
/-- boxes alike: the mixer's tables stand -/
theorem MxI_r {K K' : JI} {ρ ρ' : Int → Int} (hr : rwO ρ) (h : ∀ a i, 81 ≤ a → a ≤ 86 → K' a i = K a i) (hρ : ∀ i, (i = 6 ∨ (90 ≤ i ∧ i < 202)) → ρ' i = ρ i) (q : MxI K ρ) : MxI K' ρ' := by
  have n16 := bxN hr
  have e6 := hρ 6 (Or.inl rfl)
  have eH : ∀ b, b < 16 → bxH ρ' b = bxH ρ b := fun b hb => by unfold bxH; rw [hρ _ (by omega)]
  have eW : ∀ b, b < 16 → bxW ρ' b = bxW ρ b := fun b hb => by unfold bxW; rw [hρ _ (by omega)]
  have eL : ∀ b, b < 16 → bxL ρ' b = bxL ρ b := fun b hb => by unfold bxL; rw [hρ _ (by omega), hρ _ (by omega)]
  have eN : ∀ b, b ≤ 16 → mxN (bxH ρ') b = mxN (bxH ρ) b := fun b => by
    induction b with
    | zero => intro _; rfl
    | succ b ih =>
      intro hb
      show mxN (bxH ρ') b + (if bxH ρ' b then 1 else 0) = mxN (bxH ρ) b + (if bxH ρ b then 1 else 0)
      rw [ih (by omega), eH b (by omega)]
  have eHH : ∀ b, b ≤ 16 → mxH (bxH ρ') b = mxH (bxH ρ) b := fun b => by
    induction b with
    | zero => intro _; rfl
    | succ b ih =>
      intro hb
      show mxH (bxH ρ') b ||| (if bxH ρ' b then 2 ^ b else 0) = mxH (bxH ρ) b ||| (if bxH ρ b then 2 ^ b else 0)
      rw [ih (by omega), eH b (by omega)]
  have eE : ∀ f t a, mxE ρ' f t a = mxE ρ f t a := fun f t a => by
    funext s
    unfold mxE
    rw [e6, eHH _ n16, mxW_c (w := bxW ρ') (v := bxW ρ) (s := s) (s' := s) _ (fun j hj => ⟨rfl, eW j (by omega)⟩), mxW_c (w := bxL ρ') (v := bxL ρ) (s := s) (s' := s) _ (fun j hj => ⟨rfl, eL j (by omega)⟩)]
  obtain ⟨q1, q2⟩ := MxI_c h q
  refine ⟨q1, fun w => ?_⟩
  obtain ⟨⟨nu, lo, hi, a1, ⟨a2, a2a, a2b⟩, a3, a4, a5, a6, a7, a8, a9⟩, b⟩ := q2 w
  have lt := mxU_lt a1 _ (Nat.le_refl _)
  refine ⟨⟨nu, lo, hi, ?_, ⟨by rw [e6, eN _ n16]; exact a2, a2a, a2b⟩, a3, a4, a5, ?_, ?_, ?_, ?_⟩, by rw [eE, e6]; exact b⟩
  · rw [e6]
    intro b hb hh
    rw [eN b (by omega)]
    exact a1 b hb (by rw [← eH b (by omega)]; exact hh)
  · intro x hx
    rw [a6 x hx]
    exact mxW_c _ (fun j hj => ⟨rfl, by have := lt j (by omega); exact (eW _ (by omega)).symm⟩)
  · intro x hx
    rw [a7 x hx]
    exact mxW_c _ (fun j hj => ⟨rfl, by have := lt j (by omega); exact (eL _ (by omega)).symm⟩)
  · intro x hx
    rw [a8 x hx]
    exact mxW_c _ (fun j hj => ⟨rfl, by have := lt (lo + j) (by omega); exact (eW _ (by omega)).symm⟩)
  · intro x hx
    rw [a9 x hx]
    exact mxW_c _ (fun j hj => ⟨rfl, by have := lt (lo + j) (by omega); exact (eL _ (by omega)).symm⟩)
/-- the crew's tables stand where the row is alike for them -/
theorem CrI_r {K K' : JI} {ρ ρ' : Int → Int} (hr : rwO ρ) (hA : AskO J tr ρ) (h11 : J tr 11 = ρ 9) (h : ∀ a i, 73 ≤ a → a ≤ 80 → K' a i = K a i) (hρ : rhB ρ ρ') (q : CrI K ρ) : CrI K' ρ' := by
  obtain ⟨q1, q2, q3, q4⟩ := CrI_c h q
  refine ⟨q1, q2, q3, fun w => ?_⟩
  obtain ⟨B, n, f, lf, a, b, c⟩ := q4 w
  have e0 := hρ 0 (by omega)
  have e1 := hρ 1 (by omega)
  have e2 := hρ 2 (by omega)
  have r3 := hr.2.2.1
  refine ⟨B, n, f, lf, ?_, PlR_r hρ hA b, ?_⟩
  · rw [e0, e1, e2]; exact PlN_r (rhB_E hρ) hA a
  · rw [e0, e1, e2]; exact TkI_r hρ hA h11 r3.2 c
/-- the whole invariant, piece by piece -/
theorem InvA_G (h : InvA t tr TS z kd R J M b4 b5 b6 b7 len sl) (hB : InvB (t + 1) tr z kd R J1) (W : PW tr TS z kd R J1 b4 b5 b6 b7 len sl) (cr : CrI J1 (J1 107)) (mx : MxI J1 (J1 107)) (h0 : J1 0 14 = J 0 14) (fT : ∀ T, TS T → ∀ a i, T ≤ a → a ≤ T + 10 → J1 a i = J a i) (h8 : ∀ i, J1 108 i = J 108 i) (hM : ∀ i, M1 116 i = M 116 i) : InvA (t + 1) tr TS z kd R J1 M1 b4 b5 b6 b7 len sl := by
  obtain ⟨h1, h2, ⟨h3, h4⟩, h5', ⟨⟨h6, hkb⟩, h7, h8'⟩, h9⟩ := h
  have htr := h2.1.1.1
  have hTS := h2.1.2.1
  have e8 : J1 107 8 = J 107 8 := by
    have k1 := hB.2.2.2.2.2.1.2.2.2.2.2.2.2.2.2.2.2.2.1
    have k2 := h1.2.2.2.2.2.1.2.2.2.2.2.2.2.2.2.2.2.2.1
    have k3 := fT tr hTS.1 tr 10 (by omega) (by omega)
    omega
  refine ⟨hB, W, ⟨cr, mx⟩, by rw [h0]; omega, ⟨⟨fun T T' hT hT' e W' nw hW => ?_, TkB_c (fun i => fT tr hTS.1 _ _ (by omega) (by omega)) (fT tr hTS.1 _ _ (by omega) (by omega)) e8 hkb⟩, fun k a hk e => ?_, h8'⟩, fun i hi => by rw [hM]; exact h9 i hi⟩
  · rw [fT T hT _ _ (by omega) (by omega), fT T' hT' _ _ (by omega) (by omega)] at e
    exact TrW_c (fT T' hT') (h6 T T' hT hT' e W' nw (TrW_c (fun a i x y => (fT T hT a i x y).symm) hW))
  · obtain ⟨a1, a2, a3⟩ := h7 k a hk e
    refine ⟨a1, ?_, TkB_c (fun i => fT _ a1 _ _ (by omega) (by omega)) (fT _ a1 _ _ (by omega) (by omega)) (h8 _) a3⟩
    rw [show (fun i => J1 108 (1570 * (k : Int) + i)) = (fun i => J 108 (1570 * (k : Int) + i)) from funext fun i => h8 _]
    exact TrT_j (fun b i x y => fT _ a1 b i (by omega) y) a2
theorem CrI_1 {ρ : Int → Int} (h : J1 73 15 = 1 ∧ J1 73 16 = 1) : CrI J1 ρ := ⟨Or.inr h.1, Or.inr h.2, fun w => by omega, fun w => by omega⟩
theorem MxI_1 {ρ : Int → Int} (h : J1 81 11 = 1) : MxI J1 ρ := ⟨Or.inr h, fun w => by omega⟩
/-- the whole invariant behind such a call; what of it the plain part says is given -/
theorem InvA_s (h : InvA t tr TS z kd R J M b4 b5 b6 b7 len sl) (hB : InvB (t + 1) tr z kd R J1) (hn : ∀ a i, ¬ XS1 a i → ¬ (a = 105 ∧ (i = 32 ∨ i = 51)) → ¬ (a = 107 ∧ ySm i) → J1 a i = J a i) (h5 : ((J1 105 32 = J 105 32 ∧ J1 105 51 = J 105 51) ∧ ∀ i, J1 107 i = J 107 i) ∨ (J1 105 32 = 0 ∧ J1 105 51 = 0)) (cr : CrI J1 (J1 107)) (mx : MxI J1 (J1 107)) (hM : ∀ i, M1 116 i = M 116 i) : InvA (t + 1) tr TS z kd R J1 M1 b4 b5 b6 b7 len sl := by
  have hTS := h.2.1.1.2.1
  have f : ∀ a i, ¬ XS1 a i → ¬ a = 105 → ¬ a = 107 → J1 a i = J a i := fun a i x y w => hn a i x (by omega) (by omega)
  exact InvA_G h hB (PW_s h.2.1 hn h5 hB.2.2.2.2.1) cr mx (f _ _ (by unfold XS1; omega) (by omega) (by omega)) (fun T hT a i x y => by
    rcases hTS.2 T hT with rfl | rfl | u <;> exact f a i (by unfold XS1; omega) (by omega) (by omega)) (fun i => f _ _ (by unfold XS1; omega) (by omega) (by omega)) hM
/-- the crew's tables, where the row changes in the boxes, the yields or what was told -/
theorem CrI_s (h : InvA t tr TS z kd R J M b4 b5 b6 b7 len sl) (h73 : ∀ a i, 73 ≤ a → a ≤ 80 → J1 a i = J a i) (hρ : rhB (J 107) (J1 107)) : CrI J1 (J1 107) :=
  CrI_r h.2.1.2.2.1.2.2 h.2.1.2.1.1.1 h.2.1.2.1.1.2.1.2.2.2.2 h73 hρ h.2.2.1.1
theorem MxI_s (h : InvA t tr TS z kd R J M b4 b5 b6 b7 len sl) (h81 : ∀ a i, 81 ≤ a → a ≤ 86 → J1 a i = J a i) (hρ : ∀ i, (i = 6 ∨ (90 ≤ i ∧ i < 202)) → J1 107 i = J 107 i) : MxI J1 (J1 107) :=
  MxI_r h.2.1.2.2.1.2.2 h81 hρ h.2.2.1.2
theorem InvA_up (h : InvA t tr TS z kd R J M b4 b5 b6 b7 len sl) : InvA (t + 1) tr TS z kd R J M b4 b5 b6 b7 len sl :=
  InvA_s h (InvB_up h.1) (fun _ _ _ _ _ => rfl) (Or.inl ⟨⟨rfl, rfl⟩, fun _ => rfl⟩) h.2.2.1.1 h.2.2.1.2 (fun _ => rfl)
theorem InvA_rf {b j i : Int} (hb : (b = -1 ∧ j = 0 ∧ i = 1) ∨ (b = -2 ∧ j = 1 ∧ i = 2) ∨ (b = -3 ∧ j = 2 ∧ i = 3) ∨ (b = -5 ∧ j = 3 ∧ i = 5) ∨ (b = -6 ∧ j = 4 ∧ i = 6)) (h : InvA t tr TS z kd R J M b4 b5 b6 b7 len sl) : InvA (t + 1) tr TS z kd R (rfJ J b j i) M b4 b5 b6 b7 len sl := by
  have n : ∀ a q, ¬ (a = 0 ∧ q = 18) → ¬ a = 92 → ¬ (a = 105 ∧ q = 1) → ¬ a = 106 → rfJ J b j i a q = J a q := fun a q x y w v => by
    unfold rfJ
    rw [w2_n (by omega), w2_n (by omega), w2_n (by omega), w2_n (by omega)]
  have e7 : rfJ J b j i 107 = J 107 := funext fun q => n _ _ (by omega) (by omega) (by omega) (by omega)
  refine InvA_s h (InvB_rf hb h.1) (fun a q x y w => n a q (fun s => x (by unfold XS1; omega)) (fun s => x (by unfold XS1; omega)) (fun s => x (by unfold XS1; omega)) (fun s => x (by unfold XS1; omega))) (Or.inl ⟨⟨n _ _ (by omega) (by omega) (by omega) (by omega), n _ _ (by omega) (by omega) (by omega) (by omega)⟩, fun q => n _ _ (by omega) (by omega) (by omega) (by omega)⟩) ?_ ?_ (fun _ => rfl)
  · rw [e7]
    exact CrI_c (fun a q x y => n a q (by omega) (by omega) (by omega) (by omega)) h.2.2.1.1
  · rw [e7]
    exact MxI_c (fun a q x y => n a q (by omega) (by omega) (by omega) (by omega)) h.2.2.1.2
theorem w2_p {f : JI} {a : Nat} {k v : Int} {b : Nat} {j : Int} (h : b = a ∧ j = k) : w2 f a k v b j = v := by rw [w2_ap, if_pos h]
/-- from the plain part and the tree's meaning -/
theorem AC_i {ρ : Int → Int} (hT : TrT J1 tr ρ) (hr : rwO ρ) (hl : hlC J1 1 tr ρ) : AskO J1 tr ρ ∧ ClsO J1 tr ρ := by
  obtain ⟨u1, u2, u3, u4, u5, u6, u7, u8, u9, u10, u11, u12, u13, u14, u15, u16, u17⟩ := hr
  obtain ⟨v1, v2, v3, v4, v5, v6, v7, v8, v9, v10, v11, v12, v13, v14, v15, v16, v17⟩ := hl
  exact ⟨⟨hT, u8, u9, u4, u10⟩, v15, v11, v2, v13, v14⟩
theorem rwO_g {ρ ρ' : Int → Int} (h : rwO ρ) (h0 : ∀ i, 0 ≤ i → i < 3 → ρ' i = ρ i) (h3 : 0 ≤ ρ' 3 ∧ ρ' 3 ≤ 4) (h4 : 0 ≤ ρ' 4 ∧ ρ' 4 ≤ 99) (h5 : 0 ≤ ρ' 5 ∧ ρ' 5 ≤ 100) (h6 : 0 ≤ ρ' 6 ∧ ρ' 6 ≤ 16) (h7 : 0 ≤ ρ' 7 ∧ ρ' 7 ≤ 40) (h8 : ρ' 8 = ρ 8 ∧ ρ' 9 = ρ 9) (h10 : ∀ i, 10 ≤ i → i < 40 → 0 ≤ ρ' i ∧ ρ' i ≤ 9999) (h40 : ∀ i, 40 ≤ i → i < 70 → ρ' i = ρ i) (h70 : ∀ i, 70 ≤ i → i < 74 → 0 ≤ ρ' i ∧ ρ' i ≤ 15) (h74 : ∀ i, 74 ≤ i → i < 82 → ρ' i = ρ i) (hb : ∀ b, 0 ≤ b → b < ρ' 6 → bxok (ρ' (90 + 7 * b)) (ρ' (90 + 7 * b + 1)) (ρ' (90 + 7 * b + 2)) (ρ' (90 + 7 * b + 3)) (ρ' (90 + 7 * b + 4)) (ρ' (90 + 7 * b + 5)) ∧ 0 ≤ ρ' (90 + 7 * b + 6) ∧ ρ' (90 + 7 * b + 6) ≤ 1) (hy : ∀ i, 0 ≤ i → i < ρ' 7 → (0 ≤ ρ' (202 + 2 * i) ∧ ρ' (202 + 2 * i) ≤ 999) ∧ 0 ≤ ρ' (202 + 2 * i + 1) ∧ ρ' (202 + 2 * i + 1) ≤ 999) : rwO ρ' := by
  obtain ⟨u1, u2, u3, u4, u5, u6, u7, u8, u9, u10, u11, u12, u13, u14, u15, u16, u17⟩ := h
  refine ⟨fun c a b => by rw [h0 c a b]; exact u1 c a b, by rw [h0 0 (by omega) (by omega), h0 1 (by omega) (by omega), h0 2 (by omega) (by omega)]; exact u2, h3, h4, h5, h6, h7, by rw [h8.1]; exact u8, by rw [h8.2]; exact u9, h10, fun i a b => by rw [h40 i (by omega) (by omega)]; exact u11 i a b, fun i a b => by rw [h40 i (by omega) (by omega)]; exact u12 i a b, ?_, h70, fun i a b => by rw [h74 i a b]; exact u15 i a b, hb, hy⟩
  refine Int.le_trans (Int.le_of_eq (sm_congr 10 (fun i a b => ?_))) u13
  rw [h40 (60 + i) (by omega) (by omega)]
end PG
