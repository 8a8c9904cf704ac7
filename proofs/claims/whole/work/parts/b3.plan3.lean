section
set_option maxRecDepth 100000 in
theorem ev_267_0 {dp : Nat} {e : EN} {I : JI} {L : JI} {i1 : Int} {i2 : Int} {i3 : Int} {i6 : Int} {i7 : Int} {i8 : Int} {j4 : Int} {P_ : (JI × JI) → Prop} (h : Ev (fun n => (if 1 ≤ dp then ((kf_265 n (dp - 1) e 0 I L i2 0 0).bind (fun ⟨I0_2, L0_2⟩ => (kf_267 n dp e 1 I0_2 L0_2 i1 i2 0 0 0 0 0))) else none)) P_) : Ev (fun n => kf_267 n dp e 0 I L i1 i2 i3 i6 i7 i8 j4) P_ := Ev_step (fun n => ke_267_0 n dp e I L i1 i2 i3 i6 i7 i8 j4) h
set_option maxRecDepth 100000 in
theorem ev_267_1 {dp : Nat} {e : EN} {I : JI} {L : JI} {i1 : Int} {i2 : Int} {i3 : Int} {i6 : Int} {i7 : Int} {i8 : Int} {j4 : Int} {P_ : (JI × JI) → Prop} (h : Ev (fun n => (if 0 ≤ i1 ∧ i1 < 8 then (if 0 ≤ (I 126 i1) ∧ (I 126 i1) < 3 then (if (I 120 (I 126 i1)) ≤ i6 then (if (-2147483648 ≤ 59049 * i1 ∧ 59049 * i1 ≤ 2147483647) ∧ (-2147483648 ≤ (59049 * i1) + i2 ∧ (59049 * i1) + i2 ≤ 2147483647) then (if 0 ≤ ((59049 * i1) + i2) ∧ ((59049 * i1) + i2) < 531441 then (stI (w2 I 129 ((59049 * i1) + i2) i3) (fun I_126 => (if j4 ≤ 1000000000 then (if 0 ≤ ((59049 * i1) + i2) ∧ ((59049 * i1) + i2) < 531441 then (if -2147483648 ≤ j4 ∧ j4 ≤ 2147483647 then (stI (w2 I_126 130 ((59049 * i1) + i2) j4) (fun I_156 => (some (I_156, L)))) else none) else none) else (if 0 ≤ ((59049 * i1) + i2) ∧ ((59049 * i1) + i2) < 531441 then (stI (w2 I_126 130 ((59049 * i1) + i2) 1000000000) (fun I_156 => (some (I_156, L)))) else none)))) else none) else none) else (if 0 ≤ i1 ∧ i1 < 8 then (if 1 ≤ dp then ((kf_266 n (dp - 1) e 0 I L (I 126 i1) i6 0 0 0).bind (fun ⟨x0_45, I0_45, L0_45⟩ => (if (-2147483648 ≤ i1 + 1 ∧ i1 + 1 ≤ 2147483647) ∧ (-2147483648 ≤ 59049 * (i1 + 1) ∧ 59049 * (i1 + 1) ≤ 2147483647) ∧ (-2147483648 ≤ (59049 * (i1 + 1)) + x0_45 ∧ (59049 * (i1 + 1)) + x0_45 ≤ 2147483647) then (stI ((59049 * (i1 + 1)) + x0_45) (fun v_49 => (if 1 ≤ dp then ((kf_268 n (dp - 1) e 0 I0_45 L0_45 i1 i6).bind (fun ⟨x1_55, I1_55, L1_55⟩ => (if 0 ≤ v_49 ∧ v_49 < 531441 then (if -2147483648 ≤ x1_55 + (I1_55 129 v_49) ∧ x1_55 + (I1_55 129 v_49) ≤ 2147483647 then (stI (x1_55 + (I1_55 129 v_49)) (fun v_66 => (if i6 = 0 then (kf_267 n dp e 2 I1_55 L1_55 i1 i2 i3 i6 v_49 v_66 j4) else (if v_66 ≤ i3 then (kf_267 n dp e 3 I1_55 L1_55 i1 i2 i3 i6 v_49 v_66 j4) else (kf_267 n dp e 2 I1_55 L1_55 i1 i2 i3 i6 v_49 v_66 j4))))) else none) else none))) else none))) else none))) else none) else none)) else none) else none)) P_) : Ev (fun n => kf_267 n dp e 1 I L i1 i2 i3 i6 i7 i8 j4) P_ := Ev_step (fun n => ke_267_1 n dp e I L i1 i2 i3 i6 i7 i8 j4) h
set_option maxRecDepth 100000 in
theorem ev_267_2 {dp : Nat} {e : EN} {I : JI} {L : JI} {i1 : Int} {i2 : Int} {i3 : Int} {i6 : Int} {i7 : Int} {i8 : Int} {j4 : Int} {P_ : (JI × JI) → Prop} (h : Ev (fun n => (kf_267 n dp e 3 I L i1 i2 i8 i6 i7 i8 0)) P_) : Ev (fun n => kf_267 n dp e 2 I L i1 i2 i3 i6 i7 i8 j4) P_ := Ev_step (fun n => ke_267_2 n dp e I L i1 i2 i3 i6 i7 i8 j4) h
set_option maxRecDepth 100000 in
theorem ev_267_3 {dp : Nat} {e : EN} {I : JI} {L : JI} {i1 : Int} {i2 : Int} {i3 : Int} {i6 : Int} {i7 : Int} {i8 : Int} {j4 : Int} {P_ : (JI × JI) → Prop} (h : Ev (fun n => (if i8 = i3 then (if 0 ≤ i7 ∧ i7 < 531441 then (if -9223372036854775808 ≤ j4 + (I 130 i7) ∧ j4 + (I 130 i7) ≤ 9223372036854775807 then (stI (j4 + (I 130 i7)) (fun v_106 => (if -2147483648 ≤ i6 + 1 ∧ i6 + 1 ≤ 2147483647 then (kf_267 n dp e 1 I L i1 i2 i3 (i6 + 1) 0 0 v_106) else none))) else none) else none) else (if (-2147483648 ≤ i6 + 1 ∧ i6 + 1 ≤ 2147483647) ∧ (-9223372036854775808 ≤ j4 + 0 ∧ j4 + 0 ≤ 9223372036854775807) then (kf_267 n dp e 1 I L i1 i2 i3 (i6 + 1) 0 0 (j4 + 0)) else none))) P_) : Ev (fun n => kf_267 n dp e 3 I L i1 i2 i3 i6 i7 i8 j4) P_ := Ev_step (fun n => ke_267_3 n dp e I L i1 i2 i3 i6 i7 i8 j4) h
end
/-! PLANS: a state reckoned -/
theorem pw9 {m : Nat} (h : m ≤ 5) : (9 : Int) ^ m ≤ 59049 := by
  have : m = 0 ∨ m = 1 ∨ m = 2 ∨ m = 3 ∨ m = 4 ∨ m = 5 := by omega
  rcases this with h | h | h | h | h | h <;> rw [h] <;> decide
section PM
variable {e : EN} {L : JI} {m : Nat} {od : Nat → Int} {wn : Int → Int}
theorem OrM_B {K : JI} (hO : OrM K m od wn) : ∀ k, k < m → 1 ≤ (fun k => wn (od k) + 1) k ∧ (fun k => wn (od k) + 1) k ≤ 9 := fun k hk => by
  have q1 := hO.2.2.1 k hk
  have q2 := hO.2.2.2.1 (od k) q1.2.1 q1.2.2
  dsimp only
  omega
theorem OrM_p {K : JI} (hO : OrM K m od wn) : 1 ≤ prL (fun k => wn (od k) + 1) m ∧ prL (fun k => wn (od k) + 1) m ≤ 59049 := by
  have h := prL_b m (OrM_B hO)
  have := pw9 hO.2.1
  omega
theorem bhM_b {K : JI} {N i k : Nat} {s : Int} (hO : OrM K m od wn) (hP : PlH K N) (hi : i < N) (hk : k < (K 120 (K 126 i)).toNat) : 0 ≤ bhM K m od wn i k s ∧ bhM K m od wn i k s < prL (fun k => wn (od k) + 1) m := by
  obtain ⟨q1, q2, q3⟩ := hP.2.2.1 i hi
  have h := csE_b (B := fun k => wn (od k) + 1) (D := fun j => min (wn (od j)) (dgS (fun k => wn (od k) + 1) s j + K 122 (640 * K 126 i + 10 * k + od j))) m 0 (fun j a b => by
    have z := hO.2.2.1 j (by omega)
    have y := hO.2.2.2.1 (od j) z.2.1 z.2.2
    have w := dg_b (B := fun k => wn (od k) + 1) (s := s) (k := j) (by omega)
    have l := q3 k hk (od j) z.2.1 z.2.2
    omega)
  have pe := prE_L (B := fun k => wn (od k) + 1) m 0
  rw [prL, Int.one_mul, Nat.zero_add] at pe
  rw [← pe]
  exact h
theorem PlH_c {K0 K : JI} {N : Nat} (hF : FrPl K0 K) (h : PlH K0 N) : PlH K N := by
  obtain ⟨p1, p2, p3, p4, p5⟩ := h
  have f : ∀ a i, a = 105 ∨ a = 126 ∨ a = 120 ∨ a = 122 ∨ a = 107 → K a i = K0 a i := fun a i h => hF a i (by omega) (by omega)
  refine ⟨p1, by rw [f _ _ (by omega)]; exact p2, fun i hi => ?_, by rw [f _ _ (by omega)]; exact p4, fun i a b => by rw [f _ _ (by omega)]; exact p5 i a b⟩
  rw [f 126 _ (by omega), f 120 _ (by omega)]
  refine ⟨(p3 i hi).1, (p3 i hi).2.1, fun k hk p a b => ?_⟩
  rw [f 122 _ (by omega)]
  exact (p3 i hi).2.2 k hk p a b
theorem gnM_c {K0 K : JI} {i k : Nat} (hF : FrPl K0 K) : gnM K i k = gnM K0 i k := by
  have f : ∀ a i, a = 105 ∨ a = 126 ∨ a = 132 ∨ a = 122 ∨ a = 107 → K a i = K0 a i := fun a i h => hF a i (by omega) (by omega)
  have o : ovM K (K 126 i) k = ovM K0 (K0 126 i) k := by
    unfold ovM
    rw [f 126 _ (by omega)]
    exact sm_congr 10 (fun p _ _ => by rw [f 107 _ (by omega), f 122 _ (by omega)])
  unfold gnM
  rw [o, f 105 _ (by omega), f 132 _ (by omega)]
theorem OrM_f {K0 K : JI} (hF : FrPl K0 K) (h : OrM K0 m od wn) : OrM K m od wn := OrM_c (hF _ _ (by omega) (by omega)) (hF _ _ (by omega) (by omega)) (fun i => hF _ _ (by omega) (by omega)) (fun i => hF _ _ (by omega) (by omega)) h
/-- behind, of the state s that is split -/
theorem K266s {dp : Nat} {K0 K : JI} {N i k : Nat} {s x1 x2 x3 : Int} (hF : FrPl K0 K) (hO : OrM K0 m od wn) (hP : PlH K0 N) (hi : i < N) (hk : k < (K0 120 (K0 126 i)).toNat) (hS : ∀ k : Nat, k < m → K 133 k = dgS (fun k => wn (od k) + 1) s k) : Ev (fun n => kf_266 n dp e 0 K L (K0 126 i) k x1 x2 x3) (fun r => r = (bhM K0 m od wn i k s, K, L)) := by
  obtain ⟨q1, q2, q3⟩ := hP.2.2.1 i hi
  refine K266 (OrM_f hF hO) q1 (by omega) (fun j hj => ?_) (fun j hj => ?_)
  · have z := hO.2.2.1 j hj
    have y := hO.2.2.2.1 (od j) z.2.1 z.2.2
    have w := dg_b (B := fun k => wn (od k) + 1) (s := s) (k := j) (by omega)
    exact ⟨hS j hj, w.1, by omega⟩
  · have z := hO.2.2.1 j hj
    exact ⟨hF _ _ (by omega) (by omega), q3 k hk (od j) z.2.1 z.2.2⟩
theorem K267 {dp : Nat} {K0 K : JI} {N i : Nat} {s x1 x2 x3 x4 x5 : Int} (hd : 2 ≤ dp) (hF : FrPl K0 K) (hO : OrM K0 m od wn) (hP : PlH K0 N) (hi : i < N) (hs : 0 ≤ s ∧ s < prL (fun k => wn (od k) + 1) m) (hB : ∀ k : Nat, k < (K0 120 (K0 126 i)).toNat → RkO K0 K m od wn N (i + 1) (bhM K0 m od wn i k s)) : Ev (fun n => kf_267 n dp e 0 K L i s x1 x2 x3 x4 x5) (fun r => r.2 = L ∧ (∀ a j, ¬ a = 133 → ¬ ((a = 129 ∨ a = 130) ∧ j = 59049 * i + s) → r.1 a j = K a j) ∧ RkO K0 r.1 m od wn N i s) := by
  have pp := OrM_p hO
  have N8 := hP.1
  obtain ⟨q1, q2, q3⟩ := hP.2.2.1 i hi
  obtain ⟨mm, hmm⟩ : ∃ mm : Nat, (mm : Int) = K0 120 (K0 126 i) := ⟨(K0 120 (K0 126 i)).toNat, by omega⟩
  have hmn : (K0 120 (K0 126 i)).toNat = mm := by omega
  rw [hmn] at hB
  refine ev_267_0 ?_
  refine Ev_t (by omega) (Ev_bind (K265 (OrM_f hF hO) (by omega)) ?_)
  rintro ⟨K1, L1⟩ ⟨r1, r2, r3⟩
  dsimp only at r1 r2 r3 ⊢
  subst r1
  have hF1 : FrPl K0 K1 := fun a j h1 h2 => (r2 a j h2).trans (hF a j h1 h2)
  have hP1 := PlH_c hF1 hP
  have hmm1 : K1 120 (K1 126 i) = mm := by rw [hF1 126 _ (by omega) (by omega), hF1 120 _ (by omega) (by omega), hmm]
  have h126 : K1 126 i = K0 126 i := hF1 126 _ (by omega) (by omega)
  have hnn := Sq_n (osL_n hP (N - (i + 1)) (i + 1) (by omega))
  have blk : ∀ k : Nat, k < mm → MxH (pr mm (Sq (osL K0 (i + 1) (N - (i + 1))))) (fun y => vlM K0 m od wn s (adX (OfC K0 i) y)) (fun y => y.1 = k) (gnM K0 i k + K 129 (59049 * ((i + 1 : Nat) : Int) + bhM K0 m od wn i k s)) (K 130 (59049 * ((i + 1 : Nat) : Int) + bhM K0 m od wn i k s)) := fun k hk => by
    have b := (hB k hk).1
    refine MxH_c (fun y _ => ⟨fun z => ⟨z, trivial⟩, fun z => z.1⟩) (fun y hy z => ?_) (MxH_p (MxH_1 (v := gnM K0 i) hk) b b.2.2.1 (by rw [Int.one_mul]))
    obtain ⟨y1, y2⟩ := y
    have : y1 = k := z.1
    subst this
    exact vlM_s hO hP hi (by omega) (hnn y2 (pr_i.1 hy).2)
  have fin : ∀ b a : Int, MxH (pr mm (Sq (osL K0 (i + 1) (N - (i + 1))))) (fun y => vlM K0 m od wn s (adX (OfC K0 i) y)) (fun y => y.1 < mm) b a → (0 ≤ a ∧ a ≤ 64000000000) → (-(1000000 + 40000000 * ((N : Int) - i)) ≤ b ∧ b ≤ 1000000 + 40000000 * ((N : Int) - i)) → Ev (fun n => kf_267 n dp e 1 K1 L1 i s b mm 0 0 a) (fun r => r.2 = L1 ∧ (∀ a j, ¬ a = 133 → ¬ ((a = 129 ∨ a = 130) ∧ j = 59049 * i + s) → r.1 a j = K a j) ∧ RkO K0 r.1 m od wn N i s) := by
    intro b a hM ha hb
    have hM2 : MxH (Sq (osL K0 i (N - i))) (vlM K0 m od wn s) (fun _ => True) b a := by
      rw [show N - i = N - (i + 1) + 1 by omega, osL, Sq]
      refine MxH_m (MxH_c (fun y hy => ?_) (fun _ _ _ => rfl) ?_ (H := fun y => y.1 < mm))
      · refine ⟨fun _ => ?_, fun _ => trivial⟩
        have := (pr_i.1 hy).1
        show y.1 < mm
        rw [← hmn]
        exact this
      · show MxH (pr (K0 120 (K0 126 i)).toNat _) _ _ b a
        rw [hmn]
        exact hM
    refine ev_267_1 ?_
    simp only [h126, hF1 120 (K0 126 i) (by omega) (by omega)]
    refine Ev_t (by omega) (Ev_t q1 (Ev_t (by omega) (Ev_t (by omega) (Ev_t (by omega) (Ev_st ?_)))))
    have wrp : ∀ c : Int, (0 ≤ c ∧ c ≤ 1000000000) → min 1000000000 c = min 1000000000 a → (fun r : JI × JI => r.2 = L1 ∧ (∀ a j, ¬ a = 133 → ¬ ((a = 129 ∨ a = 130) ∧ j = 59049 * i + s) → r.1 a j = K a j) ∧ RkO K0 r.1 m od wn N i s) (w2 (w2 K1 129 (59049 * i + s) b) 130 (59049 * i + s) c, L1) := by
      intro c hc hn
      refine ⟨rfl, fun x j z1 z2 => ?_, ?_⟩
      · dsimp only
        rw [w2_n (by omega), w2_n (by omega)]
        exact r2 x j z1
      · unfold RkO
        dsimp only
        rw [w2_n (by omega), w2_ap, if_pos ⟨rfl, rfl⟩, w2_ap, if_pos ⟨rfl, rfl⟩]
        exact ⟨MxH_n hM2 hc.1 hn, hc.2, hb⟩
    refine Ev_c (fun z => Ev_t (by omega) (Ev_t (by omega) (Ev_st (Ev_ret (wrp a ⟨ha.1, z⟩ rfl))))) (fun z => Ev_t (by omega) (Ev_st (Ev_ret (wrp _ ⟨by decide, by decide⟩ (by omega)))))
  have stp : ∀ k : Nat, k < mm → ∀ b a : Int, (0 < k → MxH (pr mm (Sq (osL K0 (i + 1) (N - (i + 1))))) (fun y => vlM K0 m od wn s (adX (OfC K0 i) y)) (fun y => y.1 < k) b a) → (0 ≤ a ∧ a ≤ 1000000000 * k) → (∀ b' a' : Int, MxH (pr mm (Sq (osL K0 (i + 1) (N - (i + 1))))) (fun y => vlM K0 m od wn s (adX (OfC K0 i) y)) (fun y => y.1 < k + 1) b' a' → (0 ≤ a' ∧ a' ≤ 1000000000 * (k + 1)) → (b' = b ∧ 0 < k ∨ (-(1000000 + 40000000 * ((N : Int) - i)) ≤ b' ∧ b' ≤ 1000000 + 40000000 * ((N : Int) - i))) → Ev (fun n => kf_267 n dp e 1 K1 L1 i s b' (k + 1) 0 0 a') (fun r => r.2 = L1 ∧ (∀ a j, ¬ a = 133 → ¬ ((a = 129 ∨ a = 130) ∧ j = 59049 * i + s) → r.1 a j = K a j) ∧ RkO K0 r.1 m od wn N i s)) → Ev (fun n => kf_267 n dp e 1 K1 L1 i s b k 0 0 a) (fun r => r.2 = L1 ∧ (∀ a j, ¬ a = 133 → ¬ ((a = 129 ∨ a = 130) ∧ j = 59049 * i + s) → r.1 a j = K a j) ∧ RkO K0 r.1 m od wn N i s) := by
    intro k hk b a hM ha g
    obtain ⟨_, t2, t3, t4⟩ := hB k hk
    have hbl := blk k hk
    have t0 := hbl.2.2.1
    have bb := bhM_b (s := s) hO hP hi (k := k) (by omega)
    have gb := gnM_b hP hi (k := k) (by omega)
    have e29 : ∀ j, K1 129 j = K 129 j := fun j => r2 _ _ (by omega)
    have e30 : ∀ j, K1 130 j = K 130 j := fun j => r2 _ _ (by omega)
    rw [show 59049 * ((i + 1 : Nat) : Int) = 59049 * ((i : Int) + 1) by omega] at hbl t2 t3 t4 t0
    generalize hv : gnM K0 i k + K 129 (59049 * ((i : Int) + 1) + bhM K0 m od wn i k s) = v at hbl
    generalize hc : K 130 (59049 * ((i : Int) + 1) + bhM K0 m od wn i k s) = c at hbl t2 t0
    have vb : -(1000000 + 40000000 * ((N : Int) - i)) ≤ v ∧ v ≤ 1000000 + 40000000 * ((N : Int) - i) := by omega
    have vb2 : -2147483648 ≤ v ∧ v ≤ 2147483647 := by omega
    refine ev_267_1 ?_
    simp only [h126, hF1 120 (K0 126 i) (by omega) (by omega)]
    refine Ev_t (by omega) (Ev_t q1 (Ev_f (by omega) (Ev_t (by omega) (Ev_t (by omega) (Ev_call (K266s hF1 hO hP hi (by omega) r3) ?_)))))
    dsimp only
    refine Ev_t (by omega) (Ev_st (Ev_t (by omega) (Ev_call (K268 (by omega) hP1 hi (by rw [hmm1]; omega)) ?_)))
    dsimp only
    rw [gnM_c hF1]
    simp only [e29, hv]
    refine Ev_t (by omega) (Ev_t vb2 (Ev_st ?_))
    have two : (k = 0 ∨ b < v) → Ev (fun n => kf_267 n dp e 2 K1 L1 i s b k (59049 * ((i : Int) + 1) + bhM K0 m od wn i k s) v a) (fun r => r.2 = L1 ∧ (∀ a j, ¬ a = 133 → ¬ ((a = 129 ∨ a = 130) ∧ j = 59049 * i + s) → r.1 a j = K a j) ∧ RkO K0 r.1 m od wn N i s) := by
      intro hkb
      refine ev_267_2 ?_
      refine ev_267_3 ?_
      simp only [e30, hc]
      refine Ev_t (by first | trivial | rfl) (Ev_t (by omega) (Ev_t (by omega) (Ev_st (Ev_t (by omega) ?_))))
      rw [Int.zero_add]
      refine g v c ?_ (by omega) (Or.inr vb)
      rcases hkb with hkb | hkb
      · subst hkb
        exact MxH_c (fun y _ => ⟨fun z => by omega, fun z => by omega⟩) (fun _ _ _ => rfl) hbl
      · by_cases k0 : 0 < k
        · exact MxH_g (H2 := fun y => y.1 < k) hbl (fun y _ => ⟨fun z => by omega, fun z => by omega⟩) (fun y hy z => by have := (hM k0).1 y hy z; dsimp only at this ⊢; omega) rfl rfl
        · exact MxH_c (fun y _ => ⟨fun z => by omega, fun z => by omega⟩) (fun _ _ _ => rfl) hbl
    refine Ev_c (fun z => two (Or.inl (by omega))) (fun z => Ev_c (fun y => ?_) (fun y => two (Or.inr (by omega))))
    have k0 : 0 < k := by omega
    have hM := hM k0
    refine ev_267_3 ?_
    simp only [e30, hc]
    refine Ev_c (fun x => Ev_t (by omega) (Ev_t (by omega) (Ev_st (Ev_t (by omega) ?_)))) (fun x => Ev_t (by omega) ?_)
    · subst x
      exact g v (a + c) (MxH_e hM hbl (fun y _ z => by omega) (fun y _ => ⟨fun z => by omega, fun z => by omega⟩) (by omega) rfl) (by omega) (Or.inr vb)
    · rw [Int.add_zero]
      exact g b a (MxH_g (H2 := fun y => y.1 = k) hM (fun y _ => ⟨fun z => by omega, fun z => by omega⟩) (fun y hy z => by have := hbl.1 y hy z; dsimp only at this ⊢; omega) rfl rfl) (by omega) (Or.inl ⟨rfl, k0⟩)
  have key : ∀ k : Nat, k ≤ mm → ∀ b a : Int, (0 < k → MxH (pr mm (Sq (osL K0 (i + 1) (N - (i + 1))))) (fun y => vlM K0 m od wn s (adX (OfC K0 i) y)) (fun y => y.1 < k) b a) → (0 ≤ a ∧ a ≤ 1000000000 * k) → (0 < k → -(1000000 + 40000000 * ((N : Int) - i)) ≤ b ∧ b ≤ 1000000 + 40000000 * ((N : Int) - i)) → Ev (fun n => kf_267 n dp e 1 K1 L1 i s b k 0 0 a) (fun r => r.2 = L1 ∧ (∀ a j, ¬ a = 133 → ¬ ((a = 129 ∨ a = 130) ∧ j = 59049 * i + s) → r.1 a j = K a j) ∧ RkO K0 r.1 m od wn N i s) := by
    refine dec_ind mm (fun k hk ih => ?_)
    intro b a h1 h2 h3
    by_cases c : k < mm
    · refine stp k c b a h1 h2 (fun b' a' g1 g2 g3 => ih c b' a' (fun _ => g1) (by omega) (fun _ => ?_))
      rcases g3 with ⟨g3, g4⟩ | g3
      · rw [g3]; exact h3 g4
      · exact g3
    · have : k = mm := by omega
      subst this
      exact fin b a (h1 (by omega)) (by omega) (h3 (by omega))
  exact key 0 (by omega) 0 0 (fun z => by omega) (by omega) (fun z => by omega)
end PM
