/-! WEEK: both reckon the same -/
def XZ (a : Nat) (i : Int) : Prop := (a = 0 ∧ ¬ i = 14) ∨ (a = 1 ∧ ¬ i = 11) ∨ (5 ≤ a ∧ a ≤ 8) ∨ a = 20 ∨ (73 ≤ a ∧ a ≤ 92) ∨ a = 104 ∨ (a = 105 ∧ ¬ (i = 0 ∨ i = 32 ∨ (51 ≤ i ∧ i ≤ 54))) ∨ a = 106 ∨ (108 ≤ a ∧ a ≤ 119) ∨ (123 ≤ a ∧ a ≤ 133) ∨ (136 ≤ a ∧ a ≤ 143)
section WZ
variable {tr : Nat} {TS : Nat → Prop} {z : Nat} {kd : KD} {R : RF} {J J1 M : JI} {b4 b5 b6 b7 len sl : Nat}
/-- what the world of plans does not look at; the reference may forget -/
theorem PW_z (h : PW tr TS z kd R J b4 b5 b6 b7 len sl) (hn : ∀ a i, ¬ XZ a i → ¬ (a = 105 ∧ (i = 32 ∨ i = 51)) → J1 a i = J a i) (h5 : (J1 105 32 = J 105 32 ∧ J1 105 51 = J 105 51) ∨ (J1 105 32 = 0 ∧ J1 105 51 = 0)) : PW tr TS z kd R J1 b4 b5 b6 b7 len sl := by
  obtain ⟨⟨⟨htr, q1, q2, q3⟩, hTS, hQ, h56, hz, ow, sr⟩, ⟨hH, hC⟩, ⟨m1, m2, m3⟩, ⟨i1, i2, i3, i4, i5, i6⟩, hF0, hM, h51⟩ := h
  have o7 := i1.2.2.2.1
  have fr : ∀ a i, (a = 0 ∧ i = 14) ∨ (1 ≤ a ∧ a ≤ 4 ∧ (a = 1 → i = 11)) ∨ (9 ≤ a ∧ a ≤ 72 ∧ ¬ a = 20) ∨ (93 ≤ a ∧ a ≤ 103) ∨ (a = 105 ∧ (i = 0 ∨ (52 ≤ i ∧ i ≤ 54))) ∨ a = 107 ∨ (120 ≤ a ∧ a ≤ 122) ∨ a = 134 ∨ a = 135 ∨ 144 ≤ a → J1 a i = J a i := fun a i x => hn a i (by unfold XZ; omega) (by omega)
  have e7 : J1 107 = J 107 := funext fun i => fr _ _ (by omega)
  have e4 : J1 4 = J 4 := funext fun i => fr _ _ (by omega)
  have e2 : J1 2 = J 2 := funext fun i => fr _ _ (by omega)
  have h32 : J1 105 32 = 0 ∨ J1 105 32 = 1 := by
    rcases h5 with ⟨a, b⟩ | ⟨a, b⟩
    · rw [a]; exact hH.2.2.2.2
    · exact Or.inl a
  have fT : ∀ T, TS T → ∀ a i, T ≤ a → a ≤ T + 10 → J1 a i = J a i := fun T hT a i x y => by
    rcases hTS.2 T hT with rfl | rfl | u <;> exact fr _ _ (by omega)
  refine ⟨⟨⟨htr, q1, q2, q3⟩, hTS, hQ, h56, hz, ow, SrI_c (fr _ _ (by omega)) (fun c hc => fr _ _ (by omega)) (fun T hT => fT T hT T 13 (Nat.le_refl _) (by omega)) sr⟩, ⟨?_, ?_⟩, ⟨by rw [e4, e7]; exact m1, by rw [e2, e7]; exact m2, by rw [e7]; exact m3⟩, ?_, FiK_c (fr _ _ (by omega)) e4 e2 (fun x i y w => fr _ _ (by omega)) hF0, ?_, ?_⟩
  · exact HaC_x htr e7 (fT tr hTS.1) (fun a i x => fr _ _ (by omega)) (fr _ _ (by omega)) (fr _ _ (by omega)) h32 hH
  · rcases h5 with ⟨a, b⟩ | ⟨a, b⟩
    · exact CutI_x hTS e7 (fr _ _ (by omega)) a fT (fun a i x => fr _ _ (by omega)) (fun a i x y => fr _ _ (by omega)) hC
    · have C0 := CutI_x (J' := fun x i => if x = 105 ∧ i = 32 then J 105 32 else J1 x i) hTS (funext fun i => by (try dsimp only); rw [if_neg (by omega), e7]) (by (try dsimp only); rw [if_neg (by omega)]; exact fr _ _ (by omega)) (by (try dsimp only); rw [if_pos ⟨rfl, rfl⟩]) (fun T hT a i x y => by
        have := fT T hT a i x y
        try dsimp only
        rw [if_neg (fun w => by rcases hTS.2 T hT with rfl | rfl | u <;> omega)]; exact this) (fun a i x => by (try dsimp only); rw [if_neg (by omega)]; exact fr _ _ (by omega)) (fun a i x y => by (try dsimp only); rw [if_neg (by omega)]; exact fr _ _ (by omega)) hC
      obtain ⟨k1, k2, k3, k4⟩ := C0
      have cg : ∀ T, TS T → ∀ a i, T ≤ a → a ≤ T + 10 → J1 a i = (fun x i => if x = 105 ∧ i = 32 then J 105 32 else J1 x i) a i := fun T hT a i x y => by
        try dsimp only
        rw [if_neg (fun w => by rcases hTS.2 T hT with rfl | rfl | u <;> omega)]
      refine ⟨fun T hT c hc => CuT_c (cg T hT _ _ (by omega) (by omega)) (cg T hT) (fun a i d1 d2 => by (try dsimp only); rw [if_neg (by omega)]) (k1 T hT c hc), fun w c hc => ?_, fun w => by omega, fun T hT w W nw hW => ?_⟩
      · have := k2 (by (try dsimp only); rw [if_neg (by omega)]; exact w) c hc
        rw [show (fun x i => if x = 105 ∧ i = 32 then J 105 32 else J1 x i) 107 = J1 107 from funext fun i => by (try dsimp only); rw [if_neg (by omega)]] at this
        exact CuN_c (cg tr hTS.1) (fun a i d1 d2 => by (try dsimp only); rw [if_neg (by omega)]) this
      · refine TrW_c (cg tr hTS.1) (k4 T hT ?_ W nw (TrW_c (fun a i x y => (cg T hT a i x y).symm) hW))
        rw [← cg T hT _ _ (by omega) (by omega), ← cg tr hTS.1 _ _ (by omega) (by omega)]; exact w
  · refine ⟨i1, fun p x y => by rw [fr _ _ (by omega)]; exact i2 p x y, by rw [fr _ _ (by omega)]; exact i3, fun w => ?_, fun s x y => by rw [fr _ _ (by omega), fr _ _ (by omega)]; exact i5 s x y, fun a b c hv e => ?_⟩
    · obtain ⟨rn, od, k1, k2⟩ := i4 (by rw [← fr 24 14 (by omega)]; exact w)
      exact ⟨rn, od, LdO_c (fun a i x => fr _ _ (by omega)) k1, LyK_c (fun i => fr _ _ (by omega)) (fr _ _ (by omega)) (fun a i x => fr _ _ (by omega)) k2⟩
    · rw [fr _ _ (by omega), fr _ _ (by omega)] at e
      exact BsO_c (fun i => fr _ _ (by omega)) (fun x i y w => fr _ _ (by omega)) (fr _ _ (by omega)) (fr _ _ (by omega)) (i6 a b c hv e)
  · rcases h5 with ⟨a, b⟩ | ⟨a, b⟩
    · refine PlM_c e7 (fun i x => ?_) (fun i => fr _ _ (by omega)) (fun i => fr _ _ (by omega)) hM
      rcases (show i = 32 ∨ i = 51 ∨ (52 ≤ i ∧ i ≤ 54) by omega) with rfl | rfl | w
      · exact a
      · exact b
      · exact fr _ _ (by omega)
    · intro w; omega
  · rcases h5 with ⟨a, b⟩ | ⟨a, b⟩
    · rw [b]; exact h51
    · exact Or.inl b
/-- bestFor in the world of plans -/
theorem R92 {dp : Nat} {a b c : Int} (hd : 6 ≤ dp) (h : PW tr TS z kd R J b4 b5 b6 b7 len sl) (hL : LsC J (cuS (J 107))) : Ev (fun n => kf_92 n dp 0 z kd J M R a b c 0) (fun q => ∃ (z' : Nat) (kd' : KD) (J' M' : JI) (R' : RF) (c4 c5 c6 c7 len' sl' : Nat), q.1.2 = (z', kd', J', M', R') ∧ PW tr TS z' kd' R' J' c4 c5 c6 c7 len' sl' ∧ FrGx XP b4 b5 b6 b7 z kd J M R c4 c5 c6 c7 z' kd' J' M' R' ∧ LsC J' (cuS (J' 107)) ∧ (J' 107 = J 107 ∧ (∀ i, J' 2 i = J 2 i) ∧ J' 24 12 = J 24 12) ∧ ((q.1.1 = -1 ∧ ¬ (vlP a b c ∧ PlK J' a b c)) ∨ (vlP a b c ∧ q.1.1 = J' 51 (spt a b c) ∧ BsO J' a b c)) ∧ PotS len sl len' sl' q.2.1 q.2.2) := by
  refine Ev_mono (K92 (M := M) hd h.1.2.2.2.2.1 h.1.2.2.1 h.2.2.2.1 (PW_mk h) (PW_ct h hL)) ?_
  rintro ⟨⟨v, z1, kd1, J1, M1, R1⟩, ck, cm⟩ ⟨z', kd', J', M', R', c4, c5, c6, c7, len1, sl1, w1, w2', w3, w4, w5, w6⟩
  dsimp only at w1 w4 w6 ⊢
  obtain ⟨rfl, rfl, rfl, rfl, rfl⟩ : z1 = z' ∧ kd1 = kd' ∧ J1 = J' ∧ M1 = M' ∧ R1 = R' := by simpa using w1
  have o7 := h.2.2.2.1.1.2.2.2.1
  have z144 := h.1.2.2.2.2.1
  have fr : ∀ a i, a < 144 → ¬ XB a i → ¬ (47 ≤ a ∧ a ≤ 50) → J1 a i = J a i := fun a i x y w => (w3.2.1 a (by omega)).2.2.1 i y (by omega)
  have e2 : ∀ i, J1 2 i = J 2 i := fun i => fr _ _ (by omega) (by unfold XB XS XL X0; omega) (by omega)
  have e7 : J1 107 = J 107 := funext fun i => fr _ _ (by omega) (by unfold XB XS XL X0; omega) (by omega)
  have e58 : ∀ a i, 55 ≤ a → a ≤ 72 → J1 a i = J a i := fun a i x y => fr _ _ (by omega) (by unfold XB XS XL X0; omega) (by omega)
  have e12 : J1 24 12 = J 24 12 := fr _ _ (by omega) (by unfold XB XS XL X0; omega) (by omega)
  have hF1 : FiK J1 := FiK_c (fr _ _ (by omega) (by unfold XB XS XL X0; omega) (by omega)) (funext fun i => fr _ _ (by omega) (by unfold XB XS XL X0; omega) (by omega)) (funext e2) (fun a i x y => e58 a i x y) h.2.2.2.2.1
  have pk : ∀ a b c, PlK J1 a b c ↔ PlK J a b c := fun a b c => by unfold PlK; rw [e58 58 _ (by omega) (by omega), e58 63 _ (by omega) (by omega), e58 68 _ (by omega) (by omega)]
  refine ⟨z1, kd1, J1, M1, R1, c4, c5, c6, c7, len1, sl1, rfl, PW_x h (FrGx_m XB_P w3) w2' hF1, FrGx_m XB_P w3, fun c hc => ?_, ⟨e7, e2, e12⟩, ?_, w6⟩
  · rw [e7, e58 _ _ (by omega) (by omega)]
    exact LsO_c (fun i _ _ => ⟨e58 _ _ (by omega) (by omega), e58 _ _ (by omega) (by omega)⟩) (hL c hc)
  · rcases w4 with ⟨y1, y2⟩ | ⟨y1, y2, y3, y4⟩
    · exact Or.inl ⟨y1, fun q => y2 ⟨q.1, (pk _ _ _).1 q.2⟩⟩
    · exact Or.inr ⟨y1, y3, w2'.2.2.2.2.2 _ _ _ y1 y4⟩
end WZ
/-- a day that can be planned, and what it brings -/
def dyP (ρ : Int → Int) (s : Int) (d : Nat) : Prop := PlN (cuS ρ) (wkD s ρ (3 * d)) (wkD s ρ (3 * d + 1)) (wkD s ρ (3 * d + 2))
def dyV (ρ : Int → Int) (s : Int) (d : Nat) (v : Int) : Prop := MxB (Sq (ofLs (cuS ρ) (fun p => ρ (50 + p)) 1 (fun _ _ => 0) (fun i => clA (wkD s ρ (3 * d)) (wkD s ρ (3 * d + 1)) i) 0 (wkD s ρ (3 * d) + wkD s ρ (3 * d + 1) + wkD s ρ (3 * d + 2)).toNat)) (vT (fun p => ρ (60 + p)) (bnR ρ) 1 (fun _ => 0)) v
theorem dyV_u {ρ : Int → Int} {s : Int} : ∀ d v v', dyV ρ s d v → dyV ρ s d v' → v = v' := fun _ _ _ h h' => MxB_u h h'
theorem dy_v {ρ : Int → Int} {s : Int} (hs : 0 ≤ s ∧ s ≤ 1000000) (hr : rwO ρ) (d : Nat) : vlP (wkD s ρ (3 * d)) (wkD s ρ (3 * d + 1)) (wkD s ρ (3 * d + 2)) := by
  have hm : ∀ c : Int, 0 ≤ c → c < 3 → 0 ≤ ρ c ∧ ρ c ≤ 8 := hr.1
  have a := wkD_b hs hm (3 * d)
  have b := wkD_b hs hm (3 * d + 1)
  have c := wkD_b hs hm (3 * d + 2)
  rw [show (3 * d) % 3 = 0 by omega] at a
  rw [show (3 * d + 1) % 3 = 1 by omega] at b
  rw [show (3 * d + 2) % 3 = 2 by omega] at c
  have := hr.2.1
  simp only [Int.natCast_zero, Int.natCast_one, Int.cast_ofNat_Int] at a b c
  unfold vlP
  omega
