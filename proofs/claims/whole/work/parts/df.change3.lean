/-! PLANS: findChange in the world of plans -/
theorem vT_z {wn bn : Int → Int} {t : Int} : vT wn bn t (fun _ => 0) ((0 : Int), fun _ : Int => (0 : Int)) = 0 := by
  unfold vT
  dsimp only
  have : ∀ n : Nat, sm (fun p => if 0 < wn p then min (wn p) (0 + 0) * bn p else 0) n = 0 := by
    intro n
    induction n with
    | zero => rfl
    | succ n ih =>
      rw [sm_s, ih]
      split
      · rw [show min (wn n) (0 + 0) = 0 by omega, Int.zero_mul]; rfl
      · rfl
  rw [this]
  omega
theorem MxB_0 {wn bn : Int → Int} {t : Int} : MxB (Sq []) (vT wn bn t (fun _ => 0)) 0 := by
  refine ⟨fun x hx => ?_, (0, fun _ => 0), by simp [Sq], vT_z⟩
  have hx : x = (0, fun _ => 0) := by simpa [Sq] using hx
  subst hx
  rw [vT_z]
  exact Int.le_refl _
section CH
variable {tr : Nat} {TS : Nat → Prop} {z : Nat} {kd : KD} {R : RF} {J M : JI} {b4 b5 b6 b7 len sl : Nat}
/-- what findChange leaves in the world of plans -/
def FdQ (tr : Nat) (TS : Nat → Prop) (b4 b5 b6 b7 len sl z : Nat) (kd : KD) (J M : JI) (R : RF) (c : Nat) (q : (Nat × KD × JI × JI × RF) × Nat × Nat) : Prop := ∃ (z' : Nat) (kd' : KD) (J' M' : JI) (R' : RF) (c4 c5 c6 c7 len' sl' : Nat), q.1 = (z', kd', J', M', R') ∧ PW tr TS z' kd' R' J' c4 c5 c6 c7 len' sl' ∧ FrGx XP b4 b5 b6 b7 z kd J M R c4 c5 c6 c7 z' kd' J' M' R' ∧ LsC J' (cuS (J' 107)) ∧ (J' 53 (spt (J' 2 0) (J' 2 1) (J' 2 2)) = J' 24 12 ∧ J' 24 15 = 0) ∧ (J' 107 = J 107 ∧ (∀ i, J' 2 i = J 2 i) ∧ J' 24 12 = J 24 12) ∧ ChO J' c ∧ PotS len sl len' sl' q.2.1 q.2.2
set_option maxHeartbeats 2000000 in
theorem R134a {dp : Nat} {c N g fr : Nat} {J5 : JI} (hd : 7 ≤ dp) (h : PW tr TS z kd R J b4 b5 b6 b7 len sl) (hL : LsC J (cuS (J 107))) (h53 : J 53 (spt (J 2 0) (J 2 1) (J 2 2)) = J 24 12) (h15 : J 24 15 = 0) (hc : c < 3) (hc0 : 0 < J 2 c) (hN : J 2 0 + J 2 1 + J 2 2 = N) (hN2 : 2 ≤ N) (hg : goI J c = g) (hgN : g < N) (hfr : fr = if g = 0 then 1 else 0) (n5 : ∀ a i, ¬ ((a = 56 ∨ a = 57) ∧ i = (c : Int)) → J5 a i = J a i) (Q : (Nat × KD × JI × JI × RF) × Nat × Nat → Prop) (hQ : ∀ q, FdQ tr TS b4 b5 b6 b7 len sl z kd J M R c q → Q q) : ∀ k : Nat → Nat × KD × JI × JI × RF → Option ((Nat × KD × JI × JI × RF) × Nat × Nat), (∀ n s, k n s = (kf_103 n (dp - 1) 0 s.1 s.2.1 s.2.2.1 s.2.2.2.1 s.2.2.2.2).bind (fun ⟨⟨z_105, kd_105, I_105, L_105, R_105⟩, ck_105, cm_105⟩ => (adk ck_105 cm_105 (kf_134 n dp 1 z_105 kd_105 I_105 L_105 R_105 c N g fr ((N : Int) - 1))))) → Ev (fun n => (kf_95 n (dp - 1) 0 z kd J5 M R).bind (fun ⟨s, ck_98, cm_98⟩ => adk ck_98 cm_98 (k n s))) Q := by
  intro k hk
  have hv := PW_v h
  have hv0 := hv
  unfold vlP at hv0
  have mk := PW_mk h
  have ct := PW_ct h hL
  have hB := h.2.2.2.1.2.2.2.2.2 _ _ _ hv h53
  have z144 := h.1.2.2.2.2.1
  obtain ⟨i1, i2, i3, i4, i5, i6⟩ := h.2.2.2.1
  have o7 := i1.2.2.2.1
  obtain ⟨f1, f2, f3⟩ := h.2.2.2.2.1 h15
  have fo := PW_fo h h15 hN
  have e54 : J5 4 = J 4 := funext fun i => n5 _ _ (by omega)
  have mk5 : mkO J5 := by unfold mkO wnC at *; rw [e54]; exact mk
  have ct5 : ∀ c : Nat, c < 3 → ctK J5 c := fun c' hc' => by
    have := ct c' hc'
    unfold ctK at *
    rw [show J5 (58 + 5 * c') = J (58 + 5 * c') from funext fun i => n5 _ _ (by omega), show J5 (58 + 5 * c' + 2) = J (58 + 5 * c' + 2) from funext fun i => n5 _ _ (by omega)]
    exact this
  have h14 : J5 24 14 = 0 → ∃ rn od, LdO J5 rn od ∧ LyK J5 rn od b4 b5 b6 b7 len sl := fun q => by
    obtain ⟨rn, od, k1, k2⟩ := i4 (by rw [← n5 24 14 (by omega)]; exact q)
    exact ⟨rn, od, LdO_c (fun a i x => n5 _ _ (by omega)) k1, LyK_c (fun i => n5 _ _ (by omega)) (n5 _ _ (by omega)) (fun a i x => n5 _ _ (by omega)) k2⟩
  refine Ev_bind (K95 (M := M) (by omega) z144 h.1.2.2.1 i1 mk5 ct5 h14 (fun q x y => by rw [n5 _ _ (by omega)]; exact i2 q x y)) ?_
  rintro ⟨⟨z1, kd1, J1, M1, R1⟩, ck, cm⟩ ⟨z', kd', J', M', R', c7, sl1, rn, od, x1, x2, x3, x4, x5, x6, x7, x8⟩
  dsimp only at x1 x8 ⊢
  obtain ⟨rfl, rfl, rfl, rfl, rfl⟩ : z1 = z' ∧ kd1 = kd' ∧ J1 = J' ∧ M1 = M' ∧ R1 = R' := by simpa using x1
  have fr1 : ∀ x i, (1 ≤ x ∧ x < 24) ∨ (x = 24 ∧ ¬ i = 14) ∨ (51 ≤ x ∧ x ≤ 72) ∨ (105 ≤ x ∧ x < 144) → J1 x i = J5 x i := fun x i y => (x3.2.1 x (by omega)).2.2.1 i (by unfold XL X0; omega) (by omega)
  have zz := x3.1
  simp only [hk]
  refine Ev_adk (Ev_bind (K103 (M := M1) (rn := rn) (od := od) (wn := wnC J1) (o := fun D => ofC J1 (clX J1 c D) (J1 31 ((clX J1 c D : Int) * 64 + kX J1 c D))) (by omega) (by omega) x2 (RtO_o x4.1.1) x4.1.2.1 x4.1.1.2.2.2.2 x6) ?_)
  rintro ⟨⟨z2, kd2, J2, M2, R2⟩, ck2, cm2⟩ ⟨z', kd', J', M', R', d7, sl2, y1, y2, y3, y4, y5, y6, y7, y8⟩
  dsimp only at y1 y8 ⊢
  obtain ⟨rfl, rfl, rfl, rfl, rfl⟩ : z2 = z' ∧ kd2 = kd' ∧ J2 = J' ∧ M2 = M' ∧ R2 = R' := by simpa using y1
  have o71 := x2.2.2.2.1
  have o72 := y2.2.2.2.1
  have zz2 := y3.1
  have fr2 : ∀ x i, (1 ≤ x ∧ x < 44) ∨ (51 ≤ x ∧ x ≤ 72) ∨ (105 ≤ x ∧ x < 144) → J2 x i = J1 x i := fun x i y => (y3.2.1 x (by omega)).2.2.1 i (by omega) (by omega) (by omega)
  have g2 : ∀ x i, ((1 ≤ x ∧ x < 24) ∨ (x = 24 ∧ ¬ i = 14) ∨ (51 ≤ x ∧ x ≤ 72) ∨ (105 ≤ x ∧ x < 144)) → ¬ ((x = 56 ∨ x = 57) ∧ i = (c : Int)) → J2 x i = J x i := fun x i y w => by rw [fr2 _ _ (by omega), fr1 _ _ (by omega), n5 _ _ w]
  have hP2 : OfP J2 rn od := OfP_c (fun a i y => fr2 _ _ (by omega)) x4
  have e2 : J2 2 = J 2 := funext fun i => g2 _ _ (by omega) (by omega)
  have e4 : J2 4 = J 4 := funext fun i => g2 _ _ (by omega) (by omega)
  have ew : wnC J2 = wnC J := by unfold wnC; rw [e4]
  have ew1 : wnC J1 = wnC J2 := by unfold wnC; rw [show J2 4 = J1 4 from funext fun i => fr2 _ _ (by omega)]
  have eb : bnC J2 = bnC J := by unfold bnC; rw [e4]
  have e55 : ∀ i, J2 55 i = J 55 i := fun i => g2 _ _ (by omega) (by omega)
  have e58 : ∀ x i, 58 ≤ x → x ≤ 72 → J2 x i = J x i := fun x i y w => g2 _ _ (by omega) (by omega)
  have hK2 : PlK J2 (J2 2 0) (J2 2 1) (J2 2 2) := by
    unfold PlK at *
    rw [e2, e58 58 _ (by omega) (by omega), e58 63 _ (by omega) (by omega), e58 68 _ (by omega) (by omega)]; exact f1
  have fo2 : fOk J2 (fun i => J2 55 i) N := fun i hi => by
    have := fo i hi
    have c3 := clR_3 (b := J 2 1) (c := J 2 2) (i := N - 1 - i)
    dsimp only at this ⊢
    rw [e2, e55, e58 _ _ (by omega) (by omega)]
    exact this
  have hg2 : goI J2 c = g := by unfold goI at *; rw [e2]; exact hg
  have st := K134l (M := M2) (kd := kd2) (R := R2) (z := z2) (sl := sl2) (dp := dp) (rn := rn) (od := od) (b4 := b4) (b5 := b5) (b6 := b6) (b7 := d7) (fr := fr) (by omega) (by omega) hP2 (by rw [← ew1]; exact y5) (by rw [e2]; exact hv) (by rw [e2]; exact hN) hN2 hc (by rw [e2]; exact hc0) hg2 hgN hK2 fo2 o72 hfr (N - 1 - fr) (N - 1) (by rw [hfr]; split <;> omega) (by omega) z2 kd2 J2 M2 R2 b4 b5 b6 len y2 LyT_r (by
    have : dpX N g (N - 1) = 0 := by unfold dpX; split <;> omega
    rw [this, ← ew1]
    exact LyA_o (fun k hk => absurd hk (by omega)) y4) y6
  rw [show ((N - 1 : Nat) : Int) = (N : Int) - 1 by omega] at st
  refine Ev_adk (Ev_mono st ?_)
  rintro ⟨⟨z3, kd3, J3, M3, R3⟩, ck3, cm3⟩ ⟨z', kd', J', M', R', f4, f5, f6, f7, len3, sl3, w1, w2', w3, w4, w5, w6, w7, w8, w9, w10⟩
  dsimp only at w1 w10 ⊢
  obtain ⟨rfl, rfl, rfl, rfl, rfl⟩ : z3 = z' ∧ kd3 = kd' ∧ J3 = J' ∧ M3 = M' ∧ R3 = R' := by simpa using w1
  refine hQ _ ?_
  have fr3 : ∀ x i, ((1 ≤ x ∧ x < 44) ∨ (51 ≤ x ∧ x ≤ 72) ∨ (105 ≤ x ∧ x < 144)) → ¬ ((x = 56 ∨ x = 57) ∧ i = (c : Int)) → J3 x i = J2 x i := fun x i y w => (w3.2.1 x (by omega)).2.2.1 i (by unfold X0; omega) (by omega)
  have g3 : ∀ x i, ((1 ≤ x ∧ x < 24) ∨ (x = 24 ∧ ¬ i = 14) ∨ (51 ≤ x ∧ x ≤ 72) ∨ (105 ≤ x ∧ x < 144)) → ¬ ((x = 56 ∨ x = 57) ∧ i = (c : Int)) → J3 x i = J x i := fun x i y w => by rw [fr3 _ _ (by omega) w, g2 _ _ y w]
  have e34 : J3 4 = J 4 := funext fun i => g3 _ _ (by omega) (by omega)
  have e342 : J3 4 = J2 4 := funext fun i => fr3 _ _ (by omega) (by omega)
  have e32 : J3 2 = J 2 := funext fun i => g3 _ _ (by omega) (by omega)
  have e37 : J3 107 = J 107 := funext fun i => g3 _ _ (by omega) (by omega)
  have e358 : ∀ x i, 58 ≤ x → x ≤ 72 → J3 x i = J x i := fun x i y w => g3 _ _ (by omega) (by omega)
  have o73 := w2'.2.2.2.1
  have ch3 : ChO J3 c := by
    intro _
    refine ⟨?_, by omega, w9⟩
    have q := ch_m hP2 (cl := clX J2 c) (kx := kX J2 c) (n := N - 1) (fun D hD => ?_) w7
    · rw [show 16 * J3 57 c + ((N : Int) - 1 - J3 56 c) - ((N - 1 : Nat) : Int) = 16 * J3 57 c - J3 56 c by omega] at q
      have ew3 : wnC J3 = wnC J2 := by unfold wnC; rw [e342]
      have eb3 : bnC J3 = bnC J2 := by unfold bnC; rw [e342]
      rw [ew3, eb3]
      have el : lyX J3 c = lyL (fun D => okK J2 (clX J2 c D) (kX J2 c D)) (N - 1) := by
        unfold lyX
        rw [e32, hN, show ((N : Int) - 1).toNat = N - 1 by omega]
        refine lyL_c _ (fun D hD => ?_)
        unfold kX clX
        rw [e2, hN, show goI J3 c = goI J2 c by unfold goI; rw [e32, e2], fr3 55 _ (by omega) (by omega)]
        have c3 := clR_3 (b := J 2 1 - oneL c 1) (c := J 2 2 - oneL c 2) (i := D)
        exact okK_c e342 (fr3 _ _ (by omega) (by omega)) (funext fun i => fr3 _ _ (by omega) (by omega))
      rw [el]
      exact q
    · obtain ⟨i, i1, i2, i3⟩ : ∃ i, i < N ∧ ¬ i = g ∧ dpX N g i = D := by
        unfold dpX
        by_cases q : N - 2 - D < g
        · exact ⟨N - 2 - D, by omega, by omega, by rw [if_pos q]; omega⟩
        · exact ⟨N - 1 - D, by omega, by omega, by rw [if_neg (by omega)]; omega⟩
      obtain ⟨e1, e2', e3⟩ := clX_e (J := J2) (by rw [e2]; exact hv) (by rw [e2]; exact hN) hc (by rw [e2]; exact hc0) hg2 i1 i2
      rw [i3] at e1 e2'
      have f0 := fo2 i i1
      dsimp only at f0
      rw [e1] at f0
      have c3 : clX J2 c D < 3 := by rw [← e1]; exact clR_3
      rw [e2']
      refine ⟨⟨c3, f0.2.2⟩, ⟨f0.1, f0.2.1⟩, fun k hk hf => ?_⟩
      have f2' : FsO (wnC J2) (bnC J2) 16 (lyL (fun i => of0 J2 (clR (J2 2 1) (J2 2 2) i)) N) (fun _ => 0) (fun l => J2 55 l) := by
        have := FiI_c e4 e2 e58 e55 f2
        unfold FiI lyC at this
        rw [show J2 2 0 + J2 2 1 + J2 2 2 = N by rw [e2]; exact hN, show ((N : Int)).toNat = N by omega] at this
        exact this
      have q := FsO_g hP2 N (fun _ => 0) (fun l => J2 55 l) (fun i hi => PlK_c hK2 (by rw [e2]; omega) (by rw [e2]; exact hv0.1) (by rw [e2]; exact hv0.2.1) (by rw [e2]; exact hv0.2.2.1)) (fun _ => Int.le_refl _) f2' i (N - 1 - i) (by omega) k
      rw [e1] at q
      exact q hk hf
  have hF3 : FiK J3 := fun _ => by
    refine ⟨?_, FiI_c e34 e32 e358 (fun i => g3 _ _ (by omega) (by omega)) f2, fun c' hc' => ?_⟩
    · unfold PlK at *
      rw [e32, e358 58 _ (by omega) (by omega), e358 63 _ (by omega) (by omega), e358 68 _ (by omega) (by omega)]; exact f1
    · by_cases e : c' = c
      · subst e; exact Or.inr ch3
      · rcases f3 c' hc' with q | q
        · exact Or.inl (by rw [g3 _ _ (by omega) (by omega)]; exact q)
        · exact Or.inr (ChO_c e34 e32 e358 (fun i _ => g3 _ _ (by omega) (by omega)) (g3 _ _ (by omega) (by omega)) (g3 _ _ (by omega) (by omega)) q)
  have hI3 : PlI z3 kd3 R3 J3 f4 f5 f6 f7 len3 sl3 := by
    refine ⟨w2', w6, Or.inl ?_, fun _ => ⟨rn, od, (OfP_c (fun a i y => fr3 _ _ (by omega) (by omega)) hP2).1, ?_, 0, by omega, fun i hi => absurd hi (by omega), ?_⟩, fun s x y => ?_, fun a b c' hv e => ?_⟩
    · rw [fr3 _ _ (by omega) (by omega), fr2 _ _ (by omega)]; exact x7
    · rw [show wnC J3 = wnC J2 by unfold wnC; rw [e342]]; exact w5
    · rw [show wnC J3 = wnC J2 by unfold wnC; rw [e342]]
      exact LyA_o (fun k hk => absurd hk (by omega)) w4
    · rw [g3 53 _ (by omega) (by omega), g3 24 12 (by omega) (by omega)]; exact i5 s x y
    · rw [g3 53 _ (by omega) (by omega), g3 24 12 (by omega) (by omega)] at e
      exact BsO_c (fun i => by rw [e34]) e358 (g3 _ _ (by omega) (by omega)) (g3 _ _ (by omega) (by omega)) (i6 a b c' hv e)
  have fg : FrGx XP b4 b5 b6 b7 z kd J M R f4 f5 f6 f7 z3 kd3 J3 M3 R3 := FrGx_t (FrGx_J (J1 := J5) (fun a i x => n5 a i (fun y => x (by unfold XP; omega)))) (FrGx_t (FrGx_m (fun a i q => by unfold XL X0 at q; unfold XP; omega) x3) (FrGx_t (FrGx_m (fun a i q => by unfold X0 at q; unfold XP; omega) (LyT_Gx y3)) (FrGx_m (fun a i q => by unfold X0 at q; unfold XP; omega) w3)))
  refine ⟨z3, kd3, J3, M3, R3, f4, f5, f6, f7, len3, sl3, rfl, PW_x h fg hI3 hF3, fg, fun c' hc' => ?_, ⟨?_, ?_⟩, ⟨e37, fun i => by rw [e32], g3 _ _ (by omega) (by omega)⟩, ch3, ?_⟩
  · rw [e37, e358 _ _ (by omega) (by omega)]
    exact LsO_c (fun i _ _ => ⟨e358 _ _ (by omega) (by omega), e358 _ _ (by omega) (by omega)⟩) (hL c' hc')
  · rw [e32, g3 53 _ (by omega) (by omega), g3 24 12 (by omega) (by omega)]; exact h53
  · rw [g3 _ _ (by omega) (by omega)]; exact h15
  · show PotS len sl len3 sl3 (ck3 + ck2 + ck) (cm3 + cm2 + cm)
    have := PotS_t x8 (PotS_t y8 w10)
    rw [show ck3 + ck2 + ck = ck3 + ck2 + ck from rfl] at this
    exact this
end CH
