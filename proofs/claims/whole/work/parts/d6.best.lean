section
set_option maxRecDepth 100000 in
theorem ev_90_0 {dp : Nat} {z : Nat} {kd : (Nat → Nat × Nat)} {I : JI} {L : JI} {R : (Nat → Nat → Option Nat)} {i1 : Int} {P_ : ((Int × PSi) × Nat × Nat) → Prop} (h : Ev (fun n => (if 1 ≤ dp then ((kf_14 n (dp - 1) (z, kd, R) 0 I L i1 0 1).bind (fun ⟨x_3, I_3, L_3⟩ => (if x_3 = 0 then (some ((((-1) : Int), z, kd, I_3, L_3, R), 0, 0)) else (if 1 ≤ dp then ((kf_91 n (dp - 1) 0 z kd I_3 L_3 R).bind (fun ⟨⟨x_10, z_10, kd_10, I_10, L_10, R_10⟩, ck_10, cm_10⟩ => (adk ck_10 cm_10 (if x_10 = 0 then (some ((((-1) : Int), z_10, kd_10, I_10, L_10, R_10), 0, 0)) else (if i1 = 0 then (if 1 ≤ dp then ((kf_117 n (dp - 1) (z_10, kd_10, R_10) 0 I_10 L_10).bind (fun ⟨x_26, I_26, L_26⟩ => (some (((x_26 : Int), z_10, kd_10, I_26, L_26, R_10), 0, 0)))) else none) else (if 1 ≤ dp then ((kf_118 n (dp - 1) (z_10, kd_10, R_10) 0 I_10 L_10).bind (fun ⟨x_36, I_36, L_36⟩ => (some (((x_36 : Int), z_10, kd_10, I_36, L_36, R_10), 0, 0)))) else none)))))) else none)))) else none)) P_) : Ev (fun n => kf_90 n dp 0 z kd I L R i1) P_ := Ev_step (fun n => ke_90_0 n dp z kd I L R i1) h
set_option maxRecDepth 100000 in
theorem ev_260_0 {dp : Nat} {e : EN} {I : JI} {L : JI} {i1 : Int} {P_ : (Int × JI × JI) → Prop} (h : Ev (fun n => (stI (w2 I 105 0 0) (fun I_2 => (if 1 ≤ dp then ((kf_193 n (dp - 1) e 0 I_2 L i1 0 1).bind (fun ⟨x0_9, I0_9, L0_9⟩ => (if x0_9 = 0 then (some (((-1) : Int), I0_9, L0_9)) else (if 1 ≤ dp then ((kf_261 n (dp - 1) e 0 I0_9 L0_9 0 0 0 0).bind (fun ⟨x1_16, I1_16, L1_16⟩ => (if x1_16 = 0 then (some (((-1) : Int), I1_16, L1_16)) else (if i1 = 0 then (some (((I1_16 105 53) : Int), I1_16, L1_16)) else (some (((I1_16 105 54) : Int), I1_16, L1_16)))))) else none)))) else none)))) P_) : Ev (fun n => kf_260 n dp e 0 I L i1) P_ := Ev_step (fun n => ke_260_0 n dp e I L i1) h
end
/-! PLANS: best, plan, made -/
/-- what a call of the class leaves, and what the reference answers then -/
def PoQ (tr : Nat) (TS : Nat → Prop) (b4 b5 b6 b7 len sl z : Nat) (kd : KD) (J M : JI) (R : RF) (kM : Nat → EN → JI → JI → Option (Int × JI × JI)) (q : (Int × Nat × KD × JI × JI × RF) × Nat × Nat) : Prop := ∃ (z' : Nat) (kd' : KD) (J' M' : JI) (R' : RF) (c4 c5 c6 c7 len' sl' : Nat), q.1.2 = (z', kd', J', M', R') ∧ PotS len sl len' sl' q.2.1 q.2.2 ∧ FrGx XW b4 b5 b6 b7 z kd J M R c4 c5 c6 c7 z' kd' J' M' R' ∧ J' 24 12 ≤ J 24 12 + 1 ∧ Ev (fun n => kM n (z', kd', R') J' M') (fun r => r.1 = q.1.1 ∧ PW tr TS z' kd' R' r.2.1 c4 c5 c6 c7 len' sl' ∧ FrMp J' r.2.1 M' r.2.2)
theorem FrMp_r {J M : JI} : FrMp J J M M := ⟨fun _ _ _ _ => rfl, fun _ _ _ _ _ => rfl⟩
section PO
variable {tr : Nat} {TS : Nat → Prop} {z : Nat} {kd : KD} {R : RF} {J M : JI} {b4 b5 b6 b7 len sl : Nat}
/-- refused by both before anything is reckoned -/
theorem PoQ_r {kM : Nat → EN → JI → JI → Option (Int × JI × JI)} {v : Int} (h : PW tr TS z kd R J b4 b5 b6 b7 len sl) (g : Ev (fun n => kM n (z, kd, R) J M) (fun r => r = (v, J, M))) : PoQ tr TS b4 b5 b6 b7 len sl z kd J M R kM ((v, z, kd, J, M, R), 0, 0) := by
  refine ⟨z, kd, J, M, R, b4, b5, b6, b7, len, sl, rfl, PotS_r, FrGx_J (fun _ _ _ => rfl), by omega, Ev_mono g ?_⟩
  rintro _ rfl
  exact ⟨rfl, h, FrMp_r⟩
theorem M261 {dp : Nat} (hd : 8 ≤ dp) (h : PW tr TS z kd R J b4 b5 b6 b7 len sl) : Ev (fun n => kf_261 n dp (z, kd, R) 0 J M 0 0 0 0) (fun r => PW tr TS z kd R r.2.1 b4 b5 b6 b7 len sl ∧ FrMp J r.2.1 M r.2.2 ∧ r.2.1 105 51 = 1 ∧ r.1 = r.2.1 105 52) := by
  have h' := h
  obtain ⟨⟨hS, hTS, hQ, h56, hz, ow⟩, ⟨hH, hC⟩, ⟨m1, m2, m3⟩, hI, hF, hM, h51⟩ := h
  refine Ev_mono (R261 (M := M) hS hTS hd hH hC m3 h51 hM) ?_
  rintro ⟨v, J1, M1⟩ ⟨r1, r2, r3, r4, r5, r6⟩
  dsimp only at r1 r2 r3 r4 r5 r6 ⊢
  exact ⟨PW_m h' r1 r2 (Or.inr (r4 r5).1) r4 (Or.inr r5), r1, r5, r6⟩
/-- the plan that the class has is the reference's -/
theorem plR_e {J' M' : JI} (h : PW tr TS z kd R J b4 b5 b6 b7 len sl) (hL : LsC J (cuS (J 107))) (h' : PW tr TS z kd R J' b4 b5 b6 b7 len sl) (hf : FrMp J J' M M') (h51 : J' 105 51 = 1) : (J' 105 52 = 0 ∧ ¬ PlK J (J 2 0) (J 2 1) (J 2 2)) ∨ (J' 105 52 = 1 ∧ PlK J (J 2 0) (J 2 1) (J 2 2) ∧ PlR (cuS (J 107)) (J 107) (J' 105 53) (J' 105 54) (fun i => J' 134 i) (J' 135)) := by
  obtain ⟨_, _, ⟨m1, m2, m3⟩, _⟩ := h
  have e7 : J' 107 = J 107 := funext fun i => hf.1 _ _ (by omega) (by omega)
  have hM := (h'.2.2.2.2.2.1 h51).2
  rw [e7] at hM
  have pk := PlK_N (a := J 2 0) (b := J 2 1) (c := J 2 2) hL
  rw [m2 0 (by omega) (by omega), m2 1 (by omega) (by omega), m2 2 (by omega) (by omega)] at pk ⊢
  rcases hM with ⟨q1, q2⟩ | ⟨q1, q2, q3⟩
  · exact Or.inl ⟨q1, fun z => q2 (pk.1 z)⟩
  · exact Or.inr ⟨q1, pk.2 q2, q3⟩
theorem plR_b {B n : Int} {f : Nat → Int} {lf : Int → Int} (h : PW tr TS z kd R J b4 b5 b6 b7 len sl) (hL : LsC J (cuS (J 107))) (hP : PlR (cuS (J 107)) (J 107) B n f lf) (h53 : J 53 (spt (J 2 0) (J 2 1) (J 2 2)) = J 24 12) : J 51 (spt (J 2 0) (J 2 1) (J 2 2)) = B ∧ J 52 (spt (J 2 0) (J 2 1) (J 2 2)) = n := by
  have hv := PW_v h
  have hB := h.2.2.2.1.2.2.2.2.2 _ _ _ hv h53
  obtain ⟨w1, w2⟩ := PW_wn h
  obtain ⟨_, _, ⟨m1, m2, m3⟩, _⟩ := h
  have pk := (PlK_N (a := J 2 0) (b := J 2 1) (c := J 2 2) hL).1 hB.1
  have p1 := hP.1
  rw [← m2 0 (by omega) (by omega), ← m2 1 (by omega) (by omega), ← m2 2 (by omega) (by omega)] at p1
  obtain ⟨a, b⟩ := bs_e hL hv pk w1 w2 hB p1
  exact ⟨a, b hP.2.1⟩
theorem plR_f {B n : Int} {f : Nat → Int} {lf : Int → Int} (h : PW tr TS z kd R J b4 b5 b6 b7 len sl) (hL : LsC J (cuS (J 107))) (hP : PlR (cuS (J 107)) (J 107) B n f lf) (hk : PlK J (J 2 0) (J 2 1) (J 2 2)) (hF : FiI J) : ∀ i : Nat, (i : Int) < J 2 0 + J 2 1 + J 2 2 → J 55 i = f i := by
  have hv := PW_v h
  obtain ⟨w1, w2⟩ := PW_wn h
  obtain ⟨_, _, ⟨m1, m2, m3⟩, _⟩ := h
  have pk := (PlK_N (a := J 2 0) (b := J 2 1) (c := J 2 2) hL).1 hk
  have p1 := hP.2.2.2.1
  rw [← m2 0 (by omega) (by omega), ← m2 1 (by omega) (by omega), ← m2 2 (by omega) (by omega)] at p1
  exact fi_e hL hv pk w1 w2 hF p1
/-- the class has its plan; the reference goes on -/
theorem PoQ_p {kM : Nat → EN → JI → JI → Option (Int × JI × JI)} {J1 M1 : JI} {z1 : Nat} {kd1 : KD} {R1 : RF} {c4 c5 c6 c7 len1 sl1 : Nat} {v : Int} {ck cm : Nat} (hP : PotS len sl len1 sl1 ck cm) (hf : FrGx XW b4 b5 b6 b7 z kd J M R c4 c5 c6 c7 z1 kd1 J1 M1 R1) (h12 : J1 24 12 ≤ J 24 12 + 1) (g : Ev (fun n => kM n (z1, kd1, R1) J1 M1) (fun r => r.1 = v ∧ PW tr TS z1 kd1 R1 r.2.1 c4 c5 c6 c7 len1 sl1 ∧ FrMp J1 r.2.1 M1 r.2.2)) : PoQ tr TS b4 b5 b6 b7 len sl z kd J M R kM ((v, z1, kd1, J1, M1, R1), ck, cm) := ⟨z1, kd1, J1, M1, R1, c4, c5, c6, c7, len1, sl1, rfl, hP, hf, h12, g⟩
theorem o_best {dp : Nat} {x : Int} (hd : 20 ≤ dp) (hE : J 24 12 ≤ 999999) (h : PW tr TS z kd R J b4 b5 b6 b7 len sl) : Ev (fun n => kf_90 n dp 0 z kd J M R x) (PoQ tr TS b4 b5 b6 b7 len sl z kd J M R (fun n e J M => kf_260 n dp e 0 J M x)) := by
  refine ev_90_0 ?_
  refine Ev_t (by omega) (Ev14 (fun hx => ?_) (fun hx => ?_))
  case' refine_2 =>
    refine Ev_t rfl (Ev_ret (PoQ_r h ?_))
    refine ev_260_0 ?_
    exact Ev_th h.2.1.1.2.2.2.1 (Ev_t (by omega) (Ev193f hx (Ev_t rfl (Ev_ret rfl))))
  dsimp only
  refine Ev_f (by omega) (Ev_t (by omega) (Ev_bind (R91 (by omega) hE h) ?_))
  rintro ⟨⟨v, z1, kd1, J1, M1, R1⟩, ck, cm⟩ ⟨z', kd', J', M', R', c4, c5, c6, c7, len1, sl1, w1, w2', w3, w4, w5, w6, w7⟩
  dsimp only at w1 w6 w7 ⊢
  obtain ⟨rfl, rfl, rfl, rfl, rfl⟩ : z1 = z' ∧ kd1 = kd' ∧ J1 = J' ∧ M1 = M' ∧ R1 = R' := by simpa using w1
  refine Ev_adk ?_
  have md : ∀ u : Int, (∀ J2 : JI, J2 105 52 = 0 → ¬ PlK J1 (J1 2 0) (J1 2 1) (J1 2 2) → u = -1) → (∀ J2 : JI, J2 105 52 = 1 → PlK J1 (J1 2 0) (J1 2 1) (J1 2 2) → PlR (cuS (J1 107)) (J1 107) (J2 105 53) (J2 105 54) (fun i => J2 134 i) (J2 135) → u = if x = 0 then J2 105 53 else J2 105 54) → Ev (fun n => kf_260 n dp (z1, kd1, R1) 0 J1 M1 x) (fun r => r.1 = u ∧ PW tr TS z1 kd1 R1 r.2.1 c4 c5 c6 c7 len1 sl1 ∧ FrMp J1 r.2.1 M1 r.2.2) := fun u u0 u1 => by
    refine ev_260_0 ?_
    refine Ev_th w2'.2.1.1.2.2.2.1 (Ev_t (by omega) (Ev193t hx (Ev_f (by omega) (Ev_t (by omega) (Ev_bind (M261 (by omega) w2') ?_)))))
    rintro ⟨a, J2, M2⟩ ⟨r1, r2, r3, r4⟩
    dsimp only at r1 r2 r3 r4 ⊢
    subst r4
    rcases plR_e w2' w5 r1 r2 r3 with ⟨p1, p2⟩ | ⟨p1, p2, p3⟩
    · exact Ev_t p1 (Ev_ret ⟨(u0 J2 p1 p2).symm, r1, r2⟩)
    · have e := u1 J2 p1 p2 p3
      refine Ev_f (by omega) ?_
      by_cases c : x = 0
      · rw [if_pos c] at e
        exact Ev_t c (Ev_ret ⟨e.symm, r1, r2⟩)
      · rw [if_neg c] at e
        exact Ev_f c (Ev_ret ⟨e.symm, r1, r2⟩)
  have w7' : PotS len sl len1 sl1 (0 + ck) (0 + cm) := by rw [Nat.zero_add, Nat.zero_add]; exact w7
  rcases w6 with ⟨rfl, w6⟩ | ⟨rfl, w6⟩
  · refine Ev_t rfl (Ev_ret (PoQ_p w7' w3 w4.1 (md (-1) (fun _ _ _ => rfl) (fun J2 _ y => absurd y w6))))
  · have hv := PW_v w2'
    have hB := w2'.2.2.2.1.2.2.2.2.2 _ _ _ hv w6
    refine Ev_f (by omega) ?_
    by_cases c : x = 0
    · refine Ev_t c (Ev_t (by omega) (Ev_bind (K117 (by omega) hv) ?_))
      rintro _ rfl
      refine Ev_ret (PoQ_p w7' w3 w4.1 (md _ (fun _ _ y => absurd hB.1 y) (fun J2 _ _ y => ?_)))
      rw [if_pos c]
      exact (plR_b w2' w5 y w6).1
    · refine Ev_f c (Ev_t (by omega) (Ev_bind (K118 (by omega) hv) ?_))
      rintro _ rfl
      refine Ev_ret (PoQ_p w7' w3 w4.1 (md _ (fun _ _ y => absurd hB.1 y) (fun J2 _ _ y => ?_)))
      rw [if_neg c]
      exact (plR_b w2' w5 y w6).2
/-- the first is looked for -/
theorem R120 {dp : Nat} (hd : 6 ≤ dp) (h : PW tr TS z kd R J b4 b5 b6 b7 len sl) (hL : LsC J (cuS (J 107))) (h53 : J 53 (spt (J 2 0) (J 2 1) (J 2 2)) = J 24 12) : Ev (fun n => kf_120 n dp 0 z kd J M R 0 0 0 0) (fun q => ∃ (z' : Nat) (kd' : KD) (J' M' : JI) (R' : RF) (c4 c5 c6 c7 len' sl' : Nat), q.1 = (z', kd', J', M', R') ∧ PW tr TS z' kd' R' J' c4 c5 c6 c7 len' sl' ∧ FrGx XP b4 b5 b6 b7 z kd J M R c4 c5 c6 c7 z' kd' J' M' R' ∧ LsC J' (cuS (J' 107)) ∧ (J' 53 (spt (J' 2 0) (J' 2 1) (J' 2 2)) = J' 24 12 ∧ J' 24 15 = 0) ∧ (J' 107 = J 107 ∧ (∀ i, J' 2 i = J 2 i) ∧ J' 24 12 = J 24 12) ∧ PotS len sl len' sl' q.2.1 q.2.2) := by
  have hv := PW_v h
  have hB := h.2.2.2.1.2.2.2.2.2 _ _ _ hv h53
  refine Ev_mono (K120 (M := M) hd h.1.2.2.2.2.1 h.1.2.2.1 h.1.2.2.2.1 h.2.2.2.1 (PW_mk h) (PW_ct h hL) hv h53 (fun c => (h.2.2.2.2.1 c).2.1)) ?_
  rintro ⟨⟨z1, kd1, J1, M1, R1⟩, ck, cm⟩ ⟨z', kd', J', M', R', c4, c5, c6, c7, len1, sl1, w1, w2', w3, w4, w5, w6, w7⟩
  dsimp only at w1 w7 ⊢
  obtain ⟨rfl, rfl, rfl, rfl, rfl⟩ : z1 = z' ∧ kd1 = kd' ∧ J1 = J' ∧ M1 = M' ∧ R1 = R' := by simpa using w1
  have o7 := h.2.2.2.1.1.2.2.2.1
  have z144 := h.1.2.2.2.2.1
  have fr : ∀ a i, a < 144 → ¬ XF a i → ¬ (47 ≤ a ∧ a ≤ 50) → J1 a i = J a i := fun a i x y w => (w3.2.1 a (by omega)).2.2.1 i y (by omega)
  have e2 : ∀ i, J1 2 i = J 2 i := fun i => fr _ _ (by omega) (by unfold XF XS XL X0; omega) (by omega)
  have e7 : J1 107 = J 107 := funext fun i => fr _ _ (by omega) (by unfold XF XS XL X0; omega) (by omega)
  have e58 : ∀ a i, 57 ≤ a → a ≤ 72 → J1 a i = J a i := fun a i x y => fr _ _ (by omega) (by unfold XF XS XL X0; omega) (by omega)
  have e12 : J1 24 12 = J 24 12 := fr _ _ (by omega) (by unfold XF XS XL X0; omega) (by omega)
  have hF1 : FiK J1 := fun _ => by
    refine ⟨?_, w4, ?_⟩
    · have := hB.1
      unfold PlK at *
      rw [e2, e2, e2, e58 58 _ (by omega) (by omega), e58 63 _ (by omega) (by omega), e58 68 _ (by omega) (by omega)]
      exact this
    · rcases w6 with ⟨y1, y2⟩ | y
      · rw [y2]; exact (h.2.2.2.2.1 y1).2.2
      · exact fun c hc => Or.inl (y c (by omega) (by omega))
  refine ⟨z1, kd1, J1, M1, R1, c4, c5, c6, c7, len1, sl1, rfl, PW_x h (FrGx_m XF_P w3) w2' hF1, FrGx_m XF_P w3, fun c hc => ?_, ⟨?_, w5⟩, ⟨e7, e2, e12⟩, w7⟩
  · rw [e7, e58 _ _ (by omega) (by omega)]
    exact LsO_c (fun i _ _ => ⟨e58 _ _ (by omega) (by omega), e58 _ _ (by omega) (by omega)⟩) (hL c hc)
  · rw [e2, e2, e2, e12, fr _ _ (by omega) (by unfold XF XS XL X0; omega) (by omega)]; exact h53
end PO
