/-! THE INVARIANT: back -/
theorem bkM_n {J : JI} {k t : Int} {b : Nat} {j : Int} (h : ¬ b = 107) : bkM J k t b j = J b j := if_neg (fun z => h z.1)
theorem bkM_t {J : JI} {k t : Int} {j : Int} (a : 0 ≤ j) (b : j < t) : bkM J k t 107 j = J 108 (1570 * k + j) := if_pos ⟨rfl, a, b⟩
theorem TcE_c {J J1 J2 : JI} {T0 T1 : Nat} (hj : ∀ a i, T0 ≤ a → a ≤ T0 + 10 → J2 a i = J1 a i) (q : TcE J J1 T0 T1) : TcE J J2 T0 T1 := by
  obtain ⟨q1, q6, q8, q9, q10, q11, q12, q13⟩ := q
  refine ⟨fun c a b => ?_, fun w a b => ?_, fun i a b => ?_, fun i a b => ?_, ?_, ?_, ?_, ?_⟩
  · rw [hj _ _ (by omega) (by omega), hj _ _ (by omega) (by omega), hj _ _ (by omega) (by omega), hj _ _ (by omega) (by omega), hj _ _ (by omega) (by omega)]; exact q1 c a b
  · rw [hj _ _ (by omega) (by omega), hj _ _ (by omega) (by omega)]; exact q6 w a b
  · rw [hj _ _ (by omega) (by omega)]; exact q8 i a b
  · rw [hj _ _ (by omega) (by omega), hj _ _ (by omega) (by omega)]; exact q9 i a b
  · rw [hj _ _ (by omega) (by omega)]; exact q10
  · rw [hj _ _ (by omega) (by omega)]; exact q11
  · rw [hj _ _ (by omega) (by omega)]; exact q12
  · rw [hj _ _ (by omega) (by omega)]; exact q13
theorem TcE_k {J J1 : JI} {T0 T1 : Nat} {n n' : Int} (q : TcE J J1 T0 T1) (e8 : J T1 10 = n) (hn : n' = n) (k : TkB J T1 n) : TkB J1 T0 n' := fun c a b => by
  obtain ⟨q1, q6, q8, q9, q10, q11, q12, q13⟩ := q
  rw [(q1 c a (by omega)).2.2.2.2, q12]
  exact k c a (by omega)
theorem TrT_rb {J : JI} {tr : Nat} {ρ ρ' : Int → Int} (h : ∀ i, 0 ≤ i → i < 1570 → ρ' i = ρ i) (b8 : ρ 8 ≤ 24) (b9 : ρ 9 ≤ 16) (q : TrT J tr ρ) : TrT J tr ρ' := by
  obtain ⟨⟨q1, q2⟩, q3⟩ := q
  have h8 := h 8 (by omega) (by omega)
  have h9 := h 9 (by omega) (by omega)
  have hC : ∀ i, 0 ≤ i → i < 400 → cR ρ' i = cR ρ i := fun i hi hj => by unfold cR; rw [h _ (by omega) (by omega), h _ (by omega) (by omega)]
  refine ⟨⟨fun w a b => ?_, fun c a b => ?_⟩, by rw [h _ (by omega) (by omega), h8]; exact q3⟩
  · rw [h9] at b
    rw [h8]
    exact WyO_c (J := J) rfl rfl (fun _ _ _ => rfl) (fun k x y => h (290 + (11 * w + k)) (by omega) (by omega)) (fun i x y => h (472 + i) (by omega) (by omega)) (Int.le_refl _) (q1 w a b)
  · rw [h8] at b
    rw [h9]
    exact ClO_c (J := J) ⟨rfl, rfl, rfl, rfl, rfl⟩ (fun _ _ => rfl) (fun k x y => h (472 + (8 * c + k)) (by omega) (by omega)) (fun i x y => hC i x y) (fun _ _ _ => rfl) (Int.le_refl _) ⟨Int.le_refl _, Int.le_refl _⟩ (q2 c a b)
section BK
variable {dp t tr : Nat} {TS : Nat → Prop} {z : Nat} {kd : KD} {R : RF} {J J1 M : JI} {b4 b5 b6 b7 len sl : Nat}
/-- trees that stand for trees: serials and ways -/
theorem TsE_m {TS' : Nat → Prop} (h6 : TsE TS J) (key : ∀ T, TS' T → ∃ S, TS S ∧ J1 T 13 = J S 13 ∧ ∀ W nw, TrW J1 T W nw ↔ TrW J S W nw) : TsE TS' J1 := fun T T' hT hT' e W nw hW => by
  obtain ⟨S, s1, s2, s3⟩ := key T hT
  obtain ⟨S', r1, r2, r3⟩ := key T' hT'
  exact (r3 W nw).2 (h6 S S' s1 r1 (by rw [← s2, ← r2, e]) W nw ((s3 W nw).1 hW))
theorem CuT_m {c S T : Nat} (hc : c < 3) (fC : ∀ a, 58 ≤ a → a ≤ 72 → J1 a = J a) (s2 : J1 T 13 = J S 13) (s3 : ∀ W nw, TrW J1 T W nw ↔ TrW J S W nw) (q : CuT J (58 + 5 * c) S) : CuT J1 (58 + 5 * c) T := fun y W nw hW => by
  have y' : J S 13 = J (58 + 5 * c) 5 := by rw [← s2, y, fC _ (by omega) (by omega)]
  rw [fC _ (by omega) (by omega), fC _ (by omega) (by omega), fC _ (by omega) (by omega)]
  exact q y' W nw ((s3 W nw).1 hW)
theorem backA {k : Int} {a : Nat} (ht : t < 512) (h : InvA t tr TS z kd R J M b4 b5 b6 b7 len sl) (hk : 0 ≤ k ∧ k ≤ 1) (e : R 20 k.toNat = some a) : InvA (t + 1) tr TS z kd R (okM (bkM (okC (w2 (fpC (fgC (w2 (hcp J 1 a tr (a + 8)) 24 13 1))) 81 11 1)) k 1570)) M b4 b5 b6 b7 len sl := by
  have ek : ((k.toNat : Nat) : Int) = k := by omega
  obtain ⟨h1, h2, ⟨h3, h4⟩, h5, ⟨⟨h6, hkb⟩, h7, h8⟩, h9⟩ := h
  obtain ⟨⟨hS, hTS, hQ, h56, hz, ow, sr⟩, ⟨hH, hC⟩, ⟨m1, m2, m3⟩, hI, hF, hM, h51⟩ := h2
  have o7 := hI.1.2.2.2.1
  have htr := hS.1
  have hs := h1.2.2.2.2.2.2.1
  have s16 := hs.2.2.2.2.2.2.2.2.2.2.2.2.2.2.2
  obtain ⟨i2, i3, i4, i5, i6, i7, i8⟩ : J 109 (k.toNat : Nat) = 1 ∧ 144 ≤ a ∧ a + 18 < z ∧ HlO (z, kd, R) a (a + 8) ∧ TrO (z, kd, R) (a + 8) ∧ rwO (fun i => J 108 (1570 * (k.toNat : Nat) + i)) ∧ hlC J a (a + 8) (fun i => J 108 (1570 * (k.toNat : Nat) + i)) := by
    rcases h1.2.2.2.2.2.2.2.1 k.toNat (by omega) with ⟨y, _⟩ | ⟨h', y1, y2⟩
    · rw [e] at y; cases y
    · rw [e] at y1; cases y1; exact y2
  obtain ⟨tS, tT, tK⟩ := h7 k.toNat a (by omega) e
  obtain ⟨gH, gT, gF⟩ := hcp_E (J := J) (h0 := 1) (h1 := a) (u0 := tr) (u1 := a + 8) (by omega) (by omega) (by omega) (by omega)
  obtain ⟨J1, hJ1⟩ : ∃ J1, J1 = okM (bkM (okC (w2 (fpC (fgC (w2 (hcp J 1 a tr (a + 8)) 24 13 1))) 81 11 1)) k 1570) := ⟨_, rfl⟩
  rw [← hJ1]
  generalize hcp J 1 a tr (a + 8) = G at gH gT gF hJ1
  have n : ∀ (b : Nat) (i : Int), ¬ (b = 0 ∧ i = 18) → ¬ (b = 24 ∧ 12 ≤ i ∧ i ≤ 15) → ¬ (b = 73 ∧ (i = 15 ∨ i = 16)) → ¬ (b = 81 ∧ i = 11) → ¬ (b = 105 ∧ (i = 1 ∨ i = 32 ∨ i = 51)) → ¬ b = 107 → J1 b i = G b i := fun b i x1 x2 x3 x4 x5 x6 => by
    rw [hJ1]
    unfold okM okC fpC fgC
    simp (disch := omega) only [w2_n, bkM_n]
  have n7 : ∀ i : Int, 0 ≤ i → i < 1570 → J1 107 i = J 108 (1570 * (k.toNat : Nat) + i) := fun i x y => by
    rw [hJ1, ek, ← gF 108 (1570 * k + i) (by omega) (by omega)]
    unfold okM
    rw [w2_n (by omega), w2_n (by omega), w2_n (by omega), bkM_t x y]
    unfold okC fpC fgC
    simp (disch := omega) only [w2_n]
  have v18 : J1 0 18 = 0 := by
    rw [hJ1]
    unfold okM okC fpC fgC
    simp (disch := omega) only [w2_n, w2_p, bkM_n]
  have v13 : J1 24 13 = 1 := by
    rw [hJ1]
    unfold okM okC fpC fgC
    simp (disch := omega) only [w2_n, w2_p, bkM_n]
  have v14 : J1 24 14 = 1 := by
    rw [hJ1]
    unfold okM okC fpC fgC
    simp (disch := omega) only [w2_n, w2_p, bkM_n]
  have v15 : J1 24 15 = 1 := by
    rw [hJ1]
    unfold okM okC fpC fgC
    simp (disch := omega) only [w2_n, w2_p, bkM_n]
  have v12 : J1 24 12 = J 24 12 + 1 := by
    rw [hJ1, ← gF 24 12 (by omega) (by omega)]
    unfold okM okC fpC fgC
    simp (disch := omega) only [w2_n, w2_p, bkM_n]
  have v7315 : J1 73 15 = 1 := by
    rw [hJ1]
    unfold okM okC fpC fgC
    simp (disch := omega) only [w2_n, w2_p, bkM_n]
  have v7316 : J1 73 16 = 1 := by
    rw [hJ1]
    unfold okM okC fpC fgC
    simp (disch := omega) only [w2_n, w2_p, bkM_n]
  have v81 : J1 81 11 = 1 := by
    rw [hJ1]
    unfold okM okC fpC fgC
    simp (disch := omega) only [w2_n, w2_p, bkM_n]
  have v1 : J1 105 1 = 0 := by
    rw [hJ1]
    unfold okM
    simp (disch := omega) only [w2_n, w2_p]
  have v32 : J1 105 32 = 0 := by
    rw [hJ1]
    unfold okM
    simp (disch := omega) only [w2_n, w2_p]
  have v51 : J1 105 51 = 0 := by
    rw [hJ1]
    unfold okM
    simp (disch := omega) only [w2_n, w2_p]
  clear hJ1
  have f : ∀ (b : Nat) (i : Int), ¬ (b = 0 ∧ i = 18) → ¬ (b = 24 ∧ 12 ≤ i ∧ i ≤ 15) → ¬ (b = 73 ∧ (i = 15 ∨ i = 16)) → ¬ (b = 81 ∧ i = 11) → ¬ (b = 105 ∧ (i = 1 ∨ i = 32 ∨ i = 51)) → ¬ b = 107 → ¬ (1 ≤ b ∧ b ≤ 8) → ¬ (tr ≤ b ∧ b ≤ tr + 10) → J1 b i = J b i := fun b i x1 x2 x3 x4 x5 x6 x7 x8 => by
    rw [n b i x1 x2 x3 x4 x5 x6]; exact gF b i (by omega) x8
  have f2 : ∀ (b : Nat) (i : Int), (20 ≤ b ∧ b ≤ 23) ∨ (25 ≤ b ∧ b ≤ 72) ∨ (74 ≤ b ∧ b ≤ 80) ∨ (82 ≤ b ∧ b ≤ 92) ∨ b = 104 ∨ b = 106 ∨ 108 ≤ b → J1 b i = J b i := fun b i x => f b i (by omega) (by omega) (by omega) (by omega) (by omega) (by omega) (by omega) (by omega)
  have gt : ∀ (b : Nat) (i : Int), (1 ≤ b ∧ b ≤ 8) ∨ (tr ≤ b ∧ b ≤ tr + 10) → J1 b i = G b i := fun b i x => n b i (by omega) (by omega) (by omega) (by omega) (by omega) (by omega)
  have gT1 : TcE J J1 tr (a + 8) := TcE_c (fun b i x y => gt b i (by omega)) gT
  have e10 : J (a + 8) 10 = J 108 (1570 * (k.toNat : Nat) + 8) := i8.2.2.2.2.2.2.2.2.2.2.2.2.1
  have e11 : J (a + 8) 11 = J 108 (1570 * (k.toNat : Nat) + 9) := i8.2.2.2.2.2.2.2.2.2.2.2.2.2.1
  have hr1 : rwO (J1 107) := rwO_congr n7 i7
  have hl1 : hlC J1 1 tr (J1 107) := hlC_congr (J := G) n7 i7.2.2.2.2.2.2.1.2 i7.2.2.2.2.2.2.2.2.1.2 (fun b i x => gt b i (by omega)) (hlC_cp gH gT i7.2.2.2.2.2.2.1.2 i7.2.2.2.2.2.2.2.2.1.2 i8)
  have hT1 : TrT J1 tr (J1 107) := TrT_rb n7 i7.2.2.2.2.2.2.2.1.2 i7.2.2.2.2.2.2.2.2.1.2 (TrT_cp gT1 e10 e11 i7.2.2.2.2.2.2.2.2.1.2 tK tT)
  have ac := AC_i hT1 hr1 hl1
  have e14 : J1 0 14 = J 0 14 := f 0 14 (by omega) (by omega) (by omega) (by omega) (by omega) (by omega) (by omega) (by omega)
  have fC : ∀ a, 58 ≤ a → a ≤ 72 → J1 a = J a := fun a x y => funext fun i => f2 a i (by omega)
  have key : ∀ T, TS T → ∃ S, TS S ∧ J1 T 13 = J S 13 ∧ ∀ W nw, TrW J1 T W nw ↔ TrW J S W nw := fun T hT => by
    by_cases c : T = tr
    · subst c
      exact ⟨a + 8, tS, gT1.2.2.2.2.2.2.2, fun W nw => TcE_W gT1 W nw⟩
    · have fT : ∀ b i, T ≤ b → b ≤ T + 10 → J1 b i = J b i := fun b i x y => by
        rcases hTS.2 T hT with rfl | rfl | u
        · exact f b i (by omega) (by omega) (by omega) (by omega) (by omega) (by omega) (by omega) (by omega)
        · exact f b i (by omega) (by omega) (by omega) (by omega) (by omega) (by omega) (by omega) (by omega)
        · exact f2 b i (by omega)
      exact ⟨T, hT, fT T 13 (by omega) (by omega), fun W nw => ⟨fun q => TrW_c (fun b i x y => (fT b i x y).symm) q, fun q => TrW_c fT q⟩⟩
  have tsE : TsE TS J1 := TsE_m h6 key
  have smO1 : smO (t + 1) J1 := smO_k hs (fun b i x => f b i (by omega) (by omega) (by omega) (by omega) (by omega) (by omega) (by omega) (by omega)) v18 v1 v32 v51 (by omega)
  refine ⟨InvB_hall h1 (fun j => f2 _ _ (by omega)) (fun j => f2 _ _ (by omega)) (fun b hb j => f2 _ _ (by omega)) hr1 hl1 smO1, ⟨⟨hS, hTS, hQ, h56, hz, ow, ⟨fun c hc => by rw [f2 _ _ (by omega), e14]; exact sr.1 c hc, fun T hT => ?_⟩⟩, ⟨⟨ac.1, ac.2, by omega, smO1.1, Or.inl v32⟩, ⟨fun T hT c hc => ?_, fun w => by omega, fun w => by omega, fun T hT y W nw hW => tsE T tr hT hTS.1 y W nw hW⟩⟩, ⟨hl1.2.2.1, hl1.1, hr1⟩, PlI_f hI o7 (fun b i x => f2 b i (by omega)) v14 v12, fun w => by omega, fun w => by omega, Or.inl v51⟩, ⟨CrI_1 ⟨v7315, v7316⟩, MxI_1 v81⟩, by rw [e14]; omega, ⟨⟨tsE, TcE_k gT1 e10 (n7 8 (by omega) (by omega)) tK⟩, fun k' b hk' e' => ?_, h8⟩, h9⟩
  · obtain ⟨S, s1, s2, s3⟩ := key T hT
    rw [s2, e14]; exact sr.2 S s1
  · obtain ⟨S, s1, s2, s3⟩ := key T hT
    exact CuT_m hc fC s2 s3 (hC.1 S s1 c hc)
  · obtain ⟨a1, a2, a3⟩ := h7 k' b hk' e'
    have b144 : 144 ≤ b := by
      rcases h1.2.2.2.2.2.2.2.1 k' hk' with ⟨y, _⟩ | ⟨h', y1, y2, y3, _⟩
      · rw [e'] at y; cases y
      · rw [e'] at y1; cases y1; exact y3
    refine ⟨a1, ?_, TkB_c (fun i => f2 _ _ (by omega)) (f2 _ _ (by omega)) (f2 _ _ (by omega)) a3⟩
    rw [show (fun i => J1 108 (1570 * (k' : Int) + i)) = (fun i => J 108 (1570 * (k' : Int) + i)) from funext fun i => f2 _ _ (by omega)]
    exact TrT_j (fun c i x y => f2 _ _ (by omega)) a2
theorem ia_back {k : Int} (hd : 30 ≤ dp) (ht : t < 512) (h : InvA t tr TS z kd R J M b4 b5 b6 b7 len sl) : Ev (fun n => kf_187 n dp (z, kd, R) 0 J M k) (fun r => Ev (fun n => kf_195 n dp (z, kd, R) 0 r.2.1 r.2.2 k 0) (fun q => ∃ a, r.1 = a ∧ q.1 = a ∧ InvA (t + 1) tr TS z kd R q.2.1 q.2.2 b4 b5 b6 b7 len sl)) := by
  have hI := h.1
  have hI' := hI
  obtain ⟨q1, q2, q3, q4, q5, q6, q7, q8, q9⟩ := hI
  obtain ⟨u1, u2, u3, u4, u5, u6, u7, u8, u9, u10, u11, u12, u13, u14, u15, u16, u17⟩ := q5
  obtain ⟨v1, v2, v3, v4, v5, v6, v7, v8, v9, v10, v11, v12, v13, v14, v15, v16, v17⟩ := q6
  simp only [Nat.reduceAdd] at v1 v2 v3 v4 v5 v6 v7
  have s16 := q7.2.2.2.2.2.2.2.2.2.2.2.2.2.2.2
  refine o_back (P := fun _ J' M' => InvA (t + 1) tr TS z kd R J' M' b4 b5 b6 b7 len sl) (by omega) (smO_Bs (by omega) q7) q3 (TrO_sh q2 q1) q1 (by omega) (fun hk => ?_) (fun _ => InvA_rf (by omega) h) (fun _ _ => InvA_rf (by omega) h) (fun hk a e => backA ht h hk e)
  have ek : ((k.toNat : Nat) : Int) = k := by omega
  rcases q8 k.toNat (by omega) with ⟨y1, y2⟩ | ⟨a, i1, i2, i3, i4, i5, i6, i7, i8⟩
  · exact Or.inl ⟨y1, by rw [← ek]; exact y2⟩
  · refine Or.inr ⟨by rw [← ek]; exact i2, a, i1, i3, i5, i6, ?_, ?_, i8.2.2.2.2.2.2.2.2.2.2.2.2.2.2.2.2⟩
    · rw [i8.2.2.2.2.2.2.2.2.2.2.2.2.1]; exact i7.2.2.2.2.2.2.2.1
    · rw [i8.2.2.2.2.2.2.2.2.2.2.2.2.2.1]; exact i7.2.2.2.2.2.2.2.2.1
end BK
