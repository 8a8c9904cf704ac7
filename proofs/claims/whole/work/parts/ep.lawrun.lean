/-! THE LAW'S WALK: two calls, their answers alike -/
abbrev IG : Type := Nat → Nat → Int32
abbrev LG : Type := Nat → Nat → Int64
/-- what stands between two calls; u: how many turns of the loop there were -/
def LSt (u : Nat) (σ : PS) (k n : Nat) : Prop := ∃ (t tr : Nat) (TS : Nat → Prop) (J M : JI) (b4 b5 b6 b7 len sl CK CM : Nat), t ≤ u ∧ InvA t tr TS σ.1 σ.2.1 σ.2.2.2.2 J M b4 b5 b6 b7 len sl ∧ Rli σ.2.2.1 J ∧ Rll σ.2.2.2.1 M ∧ RmP σ.2.2.2.2 len sl CK CM ∧ k ≤ 300 + CK ∧ n ≤ 2000000 + CM
theorem LSt_le {u v : Nat} {σ : PS} {k n : Nat} (h : LSt u σ k n) (huv : u ≤ v) : LSt v σ k n := by
  obtain ⟨t, tr, TS, J, M, b4, b5, b6, b7, len, sl, CK, CM, h1, h2⟩ := h
  exact ⟨t, tr, TS, J, M, b4, b5, b6, b7, len, sl, CK, CM, by omega, h2⟩
theorem Pot_le {len sl CK CM : Nat} (h : Pot len sl CK CM) (h1 : len ≤ 524288) (h2 : sl ≤ 118098) : CK ≤ 60 ∧ CM ≤ 3500000 := by
  obtain ⟨i, j, p1, p2, p3, p4⟩ := h
  have hi : i ≤ 11 := by
    rcases Nat.lt_or_ge 11 i with q | q
    · have := Nat.pow_le_pow_right (show 0 < 2 by decide) (show 12 ≤ i from q)
      have e : 2 ^ 12 = 4096 := by decide
      omega
    · exact q
  have hj : j ≤ 16 := by
    rcases Nat.lt_or_ge 16 j with q | q
    · have := Nat.pow_le_pow_right (show 0 < 2 by decide) (show 17 ≤ j from q)
      have e : 2 ^ 17 = 131072 := by decide
      omega
    · exact q
  omega
theorem imN_le (R : RF) : imN R ≤ 2 := by
  unfold imN
  split <;> split <;> omega
theorem LSt_room {u : Nat} {σ : PS} {k n : Nat} (h : LSt u σ k n) : k ≤ 60000 ∧ n ≤ 8922250 := by
  obtain ⟨t, tr, TS, J, M, b4, b5, b6, b7, len, sl, CK, CM, h1, h2, h3, h4, ⟨a, b, h5, h6, h7⟩, h8, h9⟩ := h
  have hE := h2.2.1.2.2.2.1.1
  have q := Pot_le h5 hE.2.2.2.2.1.1.2 hE.2.2.2.2.2.2
  have i2 := imN_le σ.2.2.2.2
  omega
/-- the class's call, then the reference's one, from σ: both answer r -/
def Two (X : GX) (u mc mm : Nat) (args : List Value) (σ : PS) (k n : Nat) : Prop := ∃ (r : Int32) (τ τ2 : PS) (k1 m1 : Nat), Ct X 2000 mc k1 m1 (.ref 0 :: args) σ (AI (fun x s => x = r ∧ s = τ)) ∧ Ct X 2000 mm 0 0 (.ref 105 :: args) τ (AI (fun x s => x = r ∧ s = τ2)) ∧ (0 < σ.1 ∧ (σ.2.1 0).1 = 11) ∧ (105 < τ.1 ∧ (τ.2.1 105).1 = 12) ∧ LSt u τ2 (k + k1) (n + m1)
theorem Sh_0 {z : Nat} {kd : KD} {R : RF} (h : Sh z kd R) : 0 < z ∧ (kd 0).1 = 11 := ⟨zl h 0 (by decide), congrArg Prod.fst (sk h 0 (v := (11, 0)) (by decide) rfl)⟩
theorem Sh_105 {z : Nat} {kd : KD} {R : RF} (h : Sh z kd R) : 105 < z ∧ (kd 105).1 = 12 := ⟨zl h 105 (by decide), congrArg Prod.fst (sk h 105 (v := (12, 0)) (by decide) rfl)⟩
theorem Ui_inj {x y : Int32} {v : Int} (h1 : Ui x v) (h2 : Ui y v) : y = x := Int32.toInt_inj.mp (h2.trans h1.symm)
section TWO
variable {X : GX} {u mc mm t tr : Nat} {TS : Nat → Prop} {z : Nat} {kd : KD} {R : RF} {J M : JI} {b4 b5 b6 b7 len sl CK CM k n : Nat} {args : List Value} {I : IG} {L : LG}
theorem two_A {gC : Nat → Option (Int32 × IG × LG)} {kC : Nat → Option (Int × JI × JI)} {gM : Nat → IG → LG → Option (Int32 × IG × LG)} {kM : Nat → JI → JI → Option (Int × JI × JI)}
    (hC : ∀ n, Sim R3 (gC n) (kC n)) (hM : ∀ n I' J' L' M', Rli I' J' → Rll L' M' → Sim R3 (gM n I' L') (kM n J' M'))
    (aC : ∀ n r I1 L1, gC n = some (r, I1, L1) → Ct X 2000 mc 0 0 (.ref 0 :: args) (z, kd, I, L, R) (AI (fun x τ => x = r ∧ τ = (z, kd, I1, L1, R))))
    (aM : ∀ n I' L' r I1 L1, gM n I' L' = some (r, I1, L1) → Ct X 2000 mm 0 0 (.ref 105 :: args) (z, kd, I', L', R) (AI (fun x τ => x = r ∧ τ = (z, kd, I1, L1, R))))
    (h : Ev kC (fun r => Ev (fun n => kM n r.2.1 r.2.2) (fun q => ∃ a, r.1 = a ∧ q.1 = a ∧ InvA (t + 1) tr TS z kd R q.2.1 q.2.2 b4 b5 b6 b7 len sl)))
    (ht : t < u) (hr : RmP R len sl CK CM) (hk : k ≤ 300 + CK) (hn : n ≤ 2000000 + CM) : Two X u mc mm args (z, kd, I, L, R) k n := by
  obtain ⟨n1, ⟨v, J1, M1⟩, e1, h⟩ := Ev_run h
  obtain ⟨n2, ⟨w, J2, M2⟩, e2, a, h1, h2, hI⟩ := Ev_run h
  try dsimp only at e2
  try dsimp only at h1
  try dsimp only at h2
  try dsimp only at hI
  obtain ⟨⟨r1, I1, L1⟩, f1, g1, g2, g3⟩ := hC n1 _ e1
  try dsimp only at g1
  try dsimp only at g2
  try dsimp only at g3
  obtain ⟨⟨r2, I2, L2⟩, f2, g4, g5, g6⟩ := hM n2 I1 J1 L1 M1 g2 g3 _ e2
  try dsimp only at g4
  try dsimp only at g5
  try dsimp only at g6
  have hS : Sh z kd R := hI.1.2.1
  have er : r2 = r1 := Ui_inj (by rw [h1] at g1; exact g1) (by rw [h2] at g4; exact g4)
  subst er
  exact ⟨r2, _, _, 0, 0, aC n1 _ _ _ f1, aM n2 _ _ _ _ _ f2, Sh_0 hS, Sh_105 hS, t + 1, tr, TS, J2, M2, b4, b5, b6, b7, len, sl, CK, CM, ht, hI, g5, g6, hr, by omega, by omega⟩
theorem two_P {gC : Nat → Option ((Int32 × PS) × Nat × Nat)} {kC : Nat → Option ((Int × PSi) × Nat × Nat)} {gM : Nat → EN → IG → LG → Option (Int32 × IG × LG)} {kM : Nat → EN → JI → JI → Option (Int × JI × JI)}
    (hC : ∀ n, Sim RPi (gC n) (kC n)) (hM : ∀ n e I' J' L' M', Rli I' J' → Rll L' M' → Sim R3 (gM n e I' L') (kM n e J' M'))
    (aC : ∀ n r z1 kd1 I1 L1 R1 k1 m1, gC n = some ((r, z1, kd1, I1, L1, R1), k1, m1) → Ct X 2000 mc k1 m1 (.ref 0 :: args) (z, kd, I, L, R) (AI (fun x τ => x = r ∧ τ = (z1, kd1, I1, L1, R1))))
    (aM : ∀ n z' kd' R' I' L' r I1 L1, Sh z' kd' R' → gM n (z', kd', R') I' L' = some (r, I1, L1) → Ct X 2000 mm 0 0 (.ref 105 :: args) (z', kd', I', L', R') (AI (fun x τ => x = r ∧ τ = (z', kd', I1, L1, R'))))
    (h : Ev kC (PostA t R len sl kM)) (hS : Sh z kd R)
    (ht : t < u) (hr : RmP R len sl CK CM) (hk : k ≤ 300 + CK) (hn : n ≤ 2000000 + CM) : Two X u mc mm args (z, kd, I, L, R) k n := by
  obtain ⟨n1, ⟨⟨v, σ1⟩, k1, m1⟩, e1, z', kd', J1, M1, R', hq, h⟩ := Ev_run h
  try dsimp only at hq
  subst hq
  obtain ⟨n2, ⟨w, J2, M2⟩, e2, h1, tr', TS', c4, c5, c6, c7, len', sl', hI, hrm⟩ := Ev_run h
  try dsimp only at e2
  try dsimp only at h1
  try dsimp only at hI
  try dsimp only at hrm
  obtain ⟨⟨⟨r1, zz, kk, I1, L1, RR⟩, kk1, mm1⟩, f1, g1, ⟨g2, g3, g4, g5, g6⟩, g7⟩ := hC n1 _ e1
  try dsimp only at g1
  try dsimp only at g2
  try dsimp only at g3
  try dsimp only at g4
  try dsimp only at g5
  try dsimp only at g6
  try dsimp only at g7
  subst g2; subst g3; subst g6; cases g7
  obtain ⟨⟨r2, I2, L2⟩, f2, j4, j5, j6⟩ := hM n2 _ I1 J1 L1 M1 g4 g5 _ e2
  try dsimp only at j4
  try dsimp only at j5
  try dsimp only at j6
  have hS' := hI.1.2.1
  have er : r2 = r1 := Ui_inj g1 (by rw [h1] at j4; exact j4)
  subst er
  exact ⟨r2, _, _, k1, m1, aC n1 _ _ _ _ _ _ _ _ f1, aM n2 _ _ _ _ _ _ _ _ hS' f2, Sh_0 hS, Sh_105 hS', t + 1, tr', TS', J2, M2, c4, c5, c6, c7, len', sl', CK + k1, CM + m1, ht, hI, j5, j6, hrm CK CM hr, by omega, by omega⟩
end TWO
/-! recall: its answers by the rounds of both -/
theorem tch_c {f g : Nat → Int32} {a b : Nat} (ha : a < 16) (hb : b < 16) (h : ∀ j, j < 112 → f j = g j) : tch f a b ↔ tch g a b := by
  unfold tch
  rw [h (7 * a + 5) (by omega), h (7 * b + 5) (by omega), h (7 * a + 2) (by omega), h (7 * b + 2) (by omega), h (7 * a + 3) (by omega), h (7 * b + 3) (by omega), h (7 * a + 4) (by omega), h (7 * b + 4) (by omega)]
theorem pif_c {α : Type} {p q : Prop} {a b c d : α} (h : p ↔ q) (h1 : a = c) (h2 : b = d) : pif p a b = pif q c d := by
  subst h1; subst h2
  by_cases hq : q
  · rw [pif_t hq, pif_t (h.mpr hq)]
  · rw [pif_f hq, pif_f (fun z => hq (h.mp z))]
theorem rnd_c {f g : Nat → Int32} {N : Nat} {cs : Int32} (hN : N ≤ 16) (h : ∀ j, j < 112 → f j = g j) : ∀ (r b : Nat), b < N → rnd f N cs r b = rnd g N cs r b
  | 0, b, hb => by
    unfold rnd
    rw [h (7 * b + 5) (by omega)]
  | r + 1, b, hb => by
    unfold rnd
    refine pif_c ⟨fun ⟨h1, o, h2, h3, h4⟩ => ⟨?_, o, h2, ?_, ?_⟩, fun ⟨h1, o, h2, h3, h4⟩ => ⟨?_, o, h2, ?_, ?_⟩⟩ rfl (rnd_c hN h r b hb)
    · rw [← rnd_c hN h r b hb]; exact h1
    · rw [← rnd_c hN h r o h2]; exact h3
    · exact (tch_c (by omega) (by omega) h).mp h4
    · rw [rnd_c hN h r b hb]; exact h1
    · rw [rnd_c hN h r o h2]; exact h3
    · exact (tch_c (by omega) (by omega) h).mpr h4
theorem rcl_c {f g : Nat → Int32} {N : Nat} {cs b : Int32} (hN : N ≤ 16) (h : ∀ j, j < 112 → f j = g j) : rcl f N cs b = rcl g N cs b := by
  unfold rcl
  by_cases hp : (0 ≤ cs ∧ cs ≤ 255) ∧ -1 ≤ b ∧ b ≤ nI N - 1
  · rw [pif_t hp, pif_t hp]
    by_cases hb : b = -1
    · rw [pif_t hb, pif_t hb]
      exact bts_congr N (fun q hq => by rw [rnd_c hN h N q hq])
    · rw [pif_f hb, pif_f hb]
      have h0 : 0 ≤ b := by
        have h1 := hp.2.1
        rw [Int32.le_iff_toInt_le] at h1 ⊢
        have e1 : (-1 : Int32).toInt = -1 := by decide
        have e0 : (0 : Int32).toInt = 0 := by decide
        have h3 : ¬ b.toInt = -1 := fun z => hb (Int32.toInt_inj.mp (z.trans e1.symm))
        omega
      obtain ⟨q, hq, rfl⟩ := le_pred (by omega) h0 hp.2.2
      rw [nI_clamp (by omega)]
      exact rnd_c hN h N q hq
  · rw [pif_f hp, pif_f hp]
section RCT
variable {X : GX} {u t tr : Nat} {TS : Nat → Prop} {z : Nat} {kd : KD} {R : RF} {J M : JI} {b4 b5 b6 b7 len sl CK CM k n : Nat} {I : IG} {L : LG}
theorem two_recall {cs b : Int32} (hI : Rli I J) (hL : Rll L M) (h : InvA t tr TS z kd R J M b4 b5 b6 b7 len sl) (ht : t < u) (hr : RmP R len sl CK CM) (hk : k ≤ 300 + CK) (hn : n ≤ 2000000 + CM) : Two X u 173 298 [.int cs, .int b] (z, kd, I, L, R) k n := by
  have hS : Sh z kd R := h.1.2.1
  have hc : hlC J 1 tr (J 107) := h.1.2.2.2.2.2.1
  have h6 : 0 ≤ J 107 6 ∧ J 107 6 ≤ 16 := h.1.2.2.2.2.1.2.2.2.2.2.1
  obtain ⟨N, hN⟩ : ∃ N : Nat, J 107 6 = N := ⟨(J 107 6).toNat, by omega⟩
  have hN2 : N ≤ 16 := by omega
  have i6 : I 107 6 = nI N := Ui_inj (ui_nI (by omega)) (by have := hI 107 6; rw [show ((6 : Nat) : Int) = 6 from rfl, hN] at this; exact this)
  have e19 : J 1 9 = J 107 6 := hc.2.2.2.2.2.2.2.2.1
  have i9 : I 1 9 = nI N := Ui_inj (ui_nI (by omega)) (by have := hI 1 9; rw [show ((9 : Nat) : Int) = 9 from rfl, e19, hN] at this; exact this)
  obtain ⟨n1, r1, f1, g, hg⟩ := Ev_run (E173 (dp := 2000) (e := (z, kd, R)) (I := I) (L := L) (cs := cs) (b := b) (by decide) i9 hN2)
  subst hg
  obtain ⟨n2, r2, f2, g', hg'⟩ := Ev_run (E298 (dp := 2000) (e := (z, kd, R)) (I := va_up I 88 g) (L := L) (cs := cs) (b := b) (by decide) (N := N) (by rw [vu_ne (by decide)]; exact i6) hN2)
  subst hg'
  have er : rcl (mbx (va_up I 88 g)) N cs b = rcl (I 7) N cs b := rcl_c hN2 (fun j hj => by
    show va_up I 88 g 107 (90 + j) = I 7 j
    rw [vu_ne (by decide)]
    refine Ui_inj (v := J 7 (j : Int)) (hI 7 j) ?_
    rw [show J 7 (j : Int) = J 107 (90 + (j : Int)) from hc.2.2.2.2.2.1 j (by omega) (by omega)]
    have := hI 107 (90 + j)
    rw [show ((90 + j : Nat) : Int) = 90 + (j : Int) by omega] at this
    exact this)
  rw [er] at f2
  refine ⟨_, _, _, 0, 0, a_173 X hS (Nat.le_refl _) f1, a_298 X hS (Nat.le_refl _) f2, Sh_0 hS, Sh_105 hS, t + 1, tr, TS, fun a i => if a = 88 then (g i.toNat).toInt else if a = 141 then (g' i.toNat).toInt else J a i, M, b4, b5, b6, b7, len, sl, CK, CM, ht, ?_, ?_, hL, hr, by omega, by omega⟩
  · refine InvA_rc h (fun a i x y => ?_)
    show (if a = 88 then (g i.toNat).toInt else if a = 141 then (g' i.toNat).toInt else J a i) = J a i
    rw [if_neg x, if_neg y]
  · intro a i
    show Ui (va_up (u2 (va_up I 88 g) 105 0 0) 141 g' a i) (if a = 88 then (g (i : Int).toNat).toInt else if a = 141 then (g' (i : Int).toNat).toInt else J a i)
    by_cases h1 : a = 141
    · subst h1
      rw [vu_same, if_neg (by decide), if_pos rfl]
      rfl
    · rw [vu_ne h1]
      by_cases h2 : a = 88
      · subst h2
        rw [u2_ne _ _ _ (by decide), vu_same, if_pos rfl]
        rfl
      · rw [if_neg h2, if_neg h1]
        by_cases h3 : a = 105
        · subst h3
          rw [u2_eq, vu_ne (show (105 : Nat) ≠ 88 by decide)]
          have h0 : J 105 0 = 0 := h.1.2.2.2.2.2.2.1.1
          by_cases h4 : i = 0
          · subst h4
            rw [vu_same]
            show Ui 0 (J 105 0)
            rw [h0]
            rfl
          · rw [vu_ne h4]
            exact hI 105 i
        · rw [u2_ne _ _ _ h3, vu_ne h2]
          exact hI a i
end RCT
