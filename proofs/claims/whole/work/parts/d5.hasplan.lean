section
set_option maxRecDepth 100000 in
theorem ev_91_0 {dp : Nat} {z : Nat} {kd : (Nat → Nat × Nat)} {I : JI} {L : JI} {R : (Nat → Nat → Option Nat)} {P_ : ((Int × PSi) × Nat × Nat) → Prop} (h : Ev (fun n => (if 1 ≤ dp then ((kf_81 n (dp - 1) (z, kd, R) 0 I L 0 0 0 0).bind (fun ⟨I_4, L_4⟩ => (if 1 ≤ dp then ((kf_92 n (dp - 1) 0 z kd I_4 L_4 R (I_4 2 0) (I_4 2 1) (I_4 2 2) 0).bind (fun ⟨⟨x_38, z_38, kd_38, I_38, L_38, R_38⟩, ck_38, cm_38⟩ => (adk ck_38 cm_38 (if x_38 = (-1) then (some (((0 : Int), z_38, kd_38, I_38, L_38, R_38), 0, 0)) else (some (((1 : Int), z_38, kd_38, I_38, L_38, R_38), 0, 0)))))) else none))) else none)) P_) : Ev (fun n => kf_91 n dp 0 z kd I L R) P_ := Ev_step (fun n => ke_91_0 n dp z kd I L R) h
end
/-! PLANS: hasPlan, the first, findPlan over the world of plans -/
theorem ctK_l {J : JI} {c : Nat} {l : List CT} (h : LsO (J (58 + 5 * c) 4) (J (58 + 5 * c + 1)) (J (58 + 5 * c + 2)) l) (hb : lsB l) : ctK J c := by
  obtain ⟨h1, h2⟩ := h
  refine ⟨by have := hb.1; omega, fun h64 k hk p x y => ?_⟩
  have hk' : k < l.length := by omega
  have := (h2 k (by omega) l[k] (by simp [hk']) p x y).2
  rw [this]
  exact hb.2 _ (List.getElem_mem hk') p x y
section HP
variable {tr : Nat} {TS : Nat → Prop} {z : Nat} {kd : KD} {R : RF} {J M : JI} {b4 b5 b6 b7 len sl : Nat}
theorem PW_mk (h : PW tr TS z kd R J b4 b5 b6 b7 len sl) : mkO J := by
  obtain ⟨_, _, ⟨m1, m2, m3⟩, _⟩ := h
  obtain ⟨u1, u2, u3, u4, u5, u6, u7, u8, u9, u10, u11, u12, u13, u14⟩ := m3
  refine ⟨fun p x y => ?_, ?_⟩
  · have e1 := m1 (20 + p) (by omega) (by omega)
    have e2 := m1 p (by omega) (by omega)
    have e3 := m1 (10 + p) (by omega) (by omega)
    have a1 := u12 (60 + p) (by omega) (by omega)
    have a2 := u11 (40 + p) (by omega) (by omega)
    have a3 := u11 (50 + p) (by omega) (by omega)
    rw [show (40 : Int) + (20 + p) = 60 + p by omega] at e1
    rw [show (40 : Int) + (10 + p) = 50 + p by omega] at e3
    unfold wnC
    rw [e1, e2, e3]
    exact ⟨a1, a2, a3⟩
  · refine Int.le_trans (Int.le_of_eq (sm_congr 10 (fun p x y => ?_))) u13
    have e1 := m1 (20 + p) (by omega) (by omega)
    rw [show (40 : Int) + (20 + p) = 60 + p by omega] at e1
    unfold wnC
    rw [e1]
    by_cases q : 0 < J 107 (60 + p)
    · rw [if_pos q, if_neg (by omega)]
    · rw [if_neg q, if_pos (by omega)]
theorem PW_v (h : PW tr TS z kd R J b4 b5 b6 b7 len sl) : vlP (J 2 0) (J 2 1) (J 2 2) := by
  obtain ⟨_, _, ⟨m1, m2, m3⟩, _⟩ := h
  rw [m2 0 (by omega) (by omega), m2 1 (by omega) (by omega), m2 2 (by omega) (by omega)]
  exact ⟨(m3.1 0 (by omega) (by omega)).1, (m3.1 1 (by omega) (by omega)).1, (m3.1 2 (by omega) (by omega)).1, m3.2.1⟩
theorem PW_ct (h : PW tr TS z kd R J b4 b5 b6 b7 len sl) (hL : LsC J (cuS (J 107))) : ∀ c : Nat, c < 3 → ctK J c := fun c hc => ctK_l (hL c hc) (cuS_b h.2.1.1.1 h.2.1.1.2.1.2.2.2.2 _)
theorem PW_wn (h : PW tr TS z kd R J b4 b5 b6 b7 len sl) : (∀ p : Int, 0 ≤ p → p < 10 → J 4 (10 + p) = (fun p => J 107 (50 + p)) p) ∧ ∀ p : Int, 0 ≤ p → p < 10 → wnC J p = (fun p => J 107 (60 + p)) p ∧ bnC J p = bnR (J 107) p := by
  obtain ⟨_, _, ⟨m1, m2, m3⟩, _⟩ := h
  refine ⟨fun p x y => ?_, fun p x y => ?_⟩
  · rw [m1 _ (by omega) (by omega)]; dsimp only; congr 1; omega
  · unfold wnC bnC bnR
    rw [m1 (20 + p) (by omega) (by omega), m1 p (by omega) (by omega), m1 (10 + p) (by omega) (by omega)]
    refine ⟨by congr 1; omega, ?_⟩
    rw [show (40 : Int) + (10 + p) = 50 + p by omega]
/-- cuttings renewed -/
theorem PW_u' {J1 : JI} (h : PW tr TS z kd R J b4 b5 b6 b7 len sl) (hE : J 24 12 ≤ 999999) (hU : CuP tr TS J J1 M M) (h32 : J1 105 32 = J 105 32) (h120 : ∀ a i, 120 ≤ a → a ≤ 125 → J1 a i = J a i) : PW tr TS z kd R J1 b4 b5 b6 b7 len sl ∧ (J1 24 12 ≤ J 24 12 + 1 ∧ J 24 12 ≤ J1 24 12) := by
  have hH1 := HaC_P h.1.1.1 hE h.2.1.1 hU
  obtain ⟨⟨k1, hTS, k2, k3, k4, k5, sr⟩, ⟨hH, _⟩, ⟨m1, m2, m3⟩, ⟨i1, i2, i3, i4, i5, i6⟩, hF0, hM, h51⟩ := h
  obtain ⟨hC1, ⟨fr, _⟩, ⟨qu, _⟩, _, _⟩ := hU
  have o7 := i1.2.2.2.1
  have f : ∀ a i, ¬ (21 ≤ a ∧ a ≤ 24) → ¬ (58 ≤ a ∧ a ≤ 72) → ¬ a = 105 → ¬ (120 ≤ a ∧ a ≤ 125) → J1 a i = J a i := fun a i x y w v => fr a i (by omega) (by omega) (by omega) (by omega) (by omega) (by omega) (by omega)
  have e7 : J1 107 = J 107 := funext fun i => f _ _ (by omega) (by omega) (by omega) (by omega)
  have e4 : J1 4 = J 4 := funext fun i => f _ _ (by omega) (by omega) (by omega) (by omega)
  have e2 : J1 2 = J 2 := funext fun i => f _ _ (by omega) (by omega) (by omega) (by omega)
  have e105 : ∀ i, ¬ i = 29 → J1 105 i = J 105 i := fun i x => by
    by_cases y : i = 32
    · subst y; exact h32
    · exact fr 105 i (by omega) (by omega) (by omega) (by omega) (by omega) (by omega) (by omega)
  have e0 : J1 0 14 = J 0 14 := f _ _ (by omega) (by omega) (by omega) (by omega)
  have eT : ∀ T, TS T → J1 T 13 = J T 13 := fun T hT => by rcases hTS.2 T hT with rfl | rfl | u <;> exact f _ _ (by omega) (by omega) (by omega) (by omega)
  have sr1 : SrI TS J1 := by
    refine ⟨fun c hc => ?_, fun T hT => by rw [eT T hT, e0]; exact sr.2 T hT⟩
    rcases qu with qu | ⟨_, _, _, u4⟩
    · rw [qu _ _ (Or.inl ⟨by omega, by omega⟩), e0]; exact sr.1 c hc
    · rw [(hC1.2.1 u4 c hc).1, eT tr hTS.1, e0]; exact sr.2 tr hTS.1
  refine ⟨⟨⟨k1, hTS, k2, k3, k4, k5, sr1⟩, ⟨hH1, hC1⟩, ⟨by rw [e4, e7]; exact m1, by rw [e2, e7]; exact m2, by rw [e7]; exact m3⟩, ?_, ?_, PlM_c e7 (fun i x => e105 i (by omega)) (fun i => f _ _ (by omega) (by omega) (by omega) (by omega)) (fun i => f _ _ (by omega) (by omega) (by omega) (by omega)) hM, by rw [e105 _ (by omega)]; exact h51⟩, ?_⟩
  · rcases qu with qu | ⟨u1, u2, u3, u4⟩
    · refine ⟨i1, fun p x y => by rw [f _ _ (by omega) (by omega) (by omega) (by omega)]; exact i2 p x y, by rw [qu 24 14 (by omega)]; exact i3, fun w => ?_, fun s x y => by rw [f 53 _ (by omega) (by omega) (by omega) (by omega), qu 24 12 (by omega)]; exact i5 s x y, fun a b c hv e => ?_⟩
      · obtain ⟨rn, od, k1, k2⟩ := i4 (by rw [← qu 24 14 (by omega)]; exact w)
        refine ⟨rn, od, LdO_c (fun a i x => ?_) k1, LyK_c (fun i => by rw [e4]) (f _ _ (by omega) (by omega) (by omega) (by omega)) (fun a i x => ?_) k2⟩
        · rcases (show (58 ≤ a ∧ a ≤ 72) ∨ ¬ (58 ≤ a ∧ a ≤ 72) by omega) with y | y
          · exact qu a i (Or.inl y)
          · exact f a i (by omega) y (by omega) (by omega)
        · rcases (show (58 ≤ a ∧ a ≤ 72) ∨ ¬ (58 ≤ a ∧ a ≤ 72) by omega) with y | y
          · exact qu a i (Or.inl y)
          · exact f a i (by omega) y (by omega) (by omega)
      · rw [f 53 _ (by omega) (by omega) (by omega) (by omega), qu 24 12 (by omega)] at e
        exact BsO_c (fun i => by rw [e4]) (fun x i y w => qu x i (Or.inl ⟨y, w⟩)) (f _ _ (by omega) (by omega) (by omega) (by omega)) (f _ _ (by omega) (by omega) (by omega) (by omega)) (i6 a b c hv e)
    · refine ⟨i1, fun p x y => by rw [f _ _ (by omega) (by omega) (by omega) (by omega)]; exact i2 p x y, Or.inr u1, fun w => by omega, fun s x y => ?_, fun a b c hv e => ?_⟩
      · rw [f 53 _ (by omega) (by omega) (by omega) (by omega), u3]
        have := i5 s x y
        omega
      · rw [f 53 _ (by omega) (by omega) (by omega) (by omega), u3] at e
        have := i5 _ (spt_b hv).1 (spt_b hv).2
        omega
  · rcases qu with qu | ⟨u1, u2, u3, u4⟩
    · refine FiK_c (qu 24 15 (by omega)) e4 e2 (fun x i y w => ?_) hF0
      rcases (show (58 ≤ x ∧ x ≤ 72) ∨ ¬ (58 ≤ x ∧ x ≤ 72) by omega) with v | v
      · exact qu x i (Or.inl v)
      · exact f x i (by omega) v (by omega) (by omega)
    · intro w
      omega
  · rcases qu with qu | ⟨u1, u2, u3, u4⟩
    · rw [qu 24 12 (by omega)]; omega
    · omega
/-- what hasPlan leaves -/
def HpQ (tr : Nat) (TS : Nat → Prop) (b4 b5 b6 b7 len sl z : Nat) (kd : KD) (J M : JI) (R : RF) (q : (Int × Nat × KD × JI × JI × RF) × Nat × Nat) : Prop := ∃ (z' : Nat) (kd' : KD) (J' M' : JI) (R' : RF) (c4 c5 c6 c7 len' sl' : Nat), q.1.2 = (z', kd', J', M', R') ∧ PW tr TS z' kd' R' J' c4 c5 c6 c7 len' sl' ∧ FrGx XW b4 b5 b6 b7 z kd J M R c4 c5 c6 c7 z' kd' J' M' R' ∧ (J' 24 12 ≤ J 24 12 + 1 ∧ J' 107 = J 107 ∧ ∀ i, J' 2 i = J 2 i) ∧ LsC J' (cuS (J' 107)) ∧ ((q.1.1 = 0 ∧ ¬ PlK J' (J' 2 0) (J' 2 1) (J' 2 2)) ∨ (q.1.1 = 1 ∧ J' 53 (spt (J' 2 0) (J' 2 1) (J' 2 2)) = J' 24 12)) ∧ PotS len sl len' sl' q.2.1 q.2.2
theorem R91 {dp : Nat} (hd : 16 ≤ dp) (hE : J 24 12 ≤ 999999) (h : PW tr TS z kd R J b4 b5 b6 b7 len sl) : Ev (fun n => kf_91 n dp 0 z kd J M R) (HpQ tr TS b4 b5 b6 b7 len sl z kd J M R) := by
  refine ev_91_0 ?_
  refine Ev_t (by omega) (Ev_bind (R81 (M := M) h.1.1 h.1.2.1 (by omega) h.2.1.1 h.2.1.2) ?_)
  rintro ⟨J1, M1⟩ ⟨r1, r2, r3, r4, r5, r6⟩
  dsimp only at r1 r2 r3 r4 r5 r6 ⊢
  subst r1
  obtain ⟨hW, e12⟩ := PW_u' h hE r2 r3 r4
  have e7 : J1 107 = J 107 := funext fun i => r2.2.1.1 _ _ (by omega) (by omega) (by omega) (by omega) (by omega) (by omega) (by omega)
  have hL : LsC J1 (cuS (J1 107)) := by rw [e7]; exact r6
  refine Ev_t (by omega) (Ev_bind (K92 (M := M1) (a := J1 2 0) (b := J1 2 1) (c := J1 2 2) (by omega) hW.1.2.2.2.2.1 hW.1.2.2.1 hW.2.2.2.1 (PW_mk hW) (PW_ct hW hL)) ?_)
  rintro ⟨⟨x, z2, kd2, J2, M2, R2⟩, ck, cm⟩ ⟨z', kd', J', M', R', f4, f5, f6, f7, len', sl', w1, w2', w3, w4, w5, w6⟩
  dsimp only at w1 w4 w6 ⊢
  obtain ⟨rfl, rfl, rfl, rfl, rfl⟩ : z2 = z' ∧ kd2 = kd' ∧ J2 = J' ∧ M2 = M' ∧ R2 = R' := by simpa using w1
  have o7 := hW.2.2.2.1.1.2.2.2.1
  have z144 := hW.1.2.2.2.2.1
  have fr : ∀ a i, a < 144 → ¬ XB a i → ¬ (47 ≤ a ∧ a ≤ 50) → J2 a i = J1 a i := fun a i x y w => (w3.2.1 a (by omega)).2.2.1 i y (by omega)
  have e2 : ∀ i, J2 2 i = J1 2 i := fun i => fr _ _ (by omega) (by unfold XB XS XL X0; omega) (by omega)
  have e72 : J2 107 = J1 107 := funext fun i => fr _ _ (by omega) (by unfold XB XS XL X0; omega) (by omega)
  have e58 : ∀ a i, 58 ≤ a → a ≤ 72 → J2 a i = J1 a i := fun a i x y => fr _ _ (by omega) (by unfold XB XS XL X0; omega) (by omega)
  have hF2 : FiK J2 := FiK_c (fr _ _ (by omega) (by unfold XB XS XL X0; omega) (by omega)) (funext fun i => fr _ _ (by omega) (by unfold XB XS XL X0; omega) (by omega)) (funext e2) (fun a i x y => fr _ _ (by omega) (by unfold XB XS XL X0; omega) (by omega)) hW.2.2.2.2.1
  have hW2 := PW_x hW (FrGx_m XB_P w3) w2' hF2
  have e122 : J2 24 12 = J1 24 12 := fr _ _ (by omega) (by unfold XB XS XL X0; omega) (by omega)
  have hL2 : LsC J2 (cuS (J2 107)) := fun c hc => by
    rw [e72, e58 _ _ (by omega) (by omega)]
    exact LsO_c (fun i _ _ => ⟨e58 _ _ (by omega) (by omega), e58 _ _ (by omega) (by omega)⟩) (hL c hc)
  have fin : ∀ v : Int, ((v = 0 ∧ ¬ PlK J2 (J2 2 0) (J2 2 1) (J2 2 2)) ∨ (v = 1 ∧ J2 53 (spt (J2 2 0) (J2 2 1) (J2 2 2)) = J2 24 12)) → HpQ tr TS b4 b5 b6 b7 len sl z kd J M1 R ((v, z2, kd2, J2, M2, R2), 0 + ck, 0 + cm) := fun v hv => by
    refine ⟨z2, kd2, J2, M2, R2, f4, f5, f6, f7, len', sl', rfl, hW2, FrGx_t (FrGx_J (fun a i x => ?_)) (FrGx_m (fun a i x => XP_W a i (XB_P a i x)) w3), ⟨by omega, e72.trans e7, fun i => ?_⟩, hL2, hv, by rw [Nat.zero_add, Nat.zero_add]; exact w6⟩
    · unfold XW at x
      by_cases y : a = 105 ∧ (i = 29 ∨ i = 32)
      · obtain ⟨rfl, rfl | rfl⟩ := y
        · omega
        · exact r3
      · by_cases w : 120 ≤ a ∧ a ≤ 125
        · exact r4 a i w.1 w.2
        · exact r2.2.1.1 a i (by omega) (by omega) (by omega) (by omega) (by omega) y w
    · rw [e2]; exact r2.2.1.1 _ _ (by omega) (by omega) (by omega) (by omega) (by omega) (by omega) (by omega)
  have pk : PlK J2 (J2 2 0) (J2 2 1) (J2 2 2) ↔ PlK J1 (J1 2 0) (J1 2 1) (J1 2 2) := by
    unfold PlK
    rw [e2, e2, e2, e58 58 _ (by omega) (by omega), e58 63 _ (by omega) (by omega), e58 68 _ (by omega) (by omega)]
  refine Ev_adk ?_
  rcases w4 with ⟨rfl, w4⟩ | ⟨w4, w5', w6', w7⟩
  · refine Ev_t rfl (Ev_ret (fin 0 (Or.inl ⟨rfl, fun q => w4 ⟨PW_v hW, pk.1 q⟩⟩)))
  · have hb := (w2'.2.2.2.2.2 _ _ _ w4 w7).2.2.1
    refine Ev_f (by omega) (Ev_ret (fin 1 (Or.inr ⟨rfl, ?_⟩)))
    rw [e2, e2, e2]; exact w7
end HP
