section
set_option maxRecDepth 100000 in
theorem ev_261_2 {dp : Nat} {e : EN} {I : JI} {L : JI} {i1 : Int} {i2 : Int} {i3 : Int} {i4 : Int} {P_ : (Int × JI × JI) → Prop} (h : Ev (fun n => (if (I 105 40) ≤ i2 then (some ((1 : Int), I, L)) else (if 1 ≤ dp then ((kf_265 n (dp - 1) e 0 I L i1 0 0).bind (fun ⟨I0_105, L0_105⟩ => (kf_261 n dp e 3 I0_105 L0_105 i1 i2 0 0))) else none))) P_) : Ev (fun n => kf_261 n dp e 2 I L i1 i2 i3 i4) P_ := Ev_step (fun n => ke_261_2 n dp e I L i1 i2 i3 i4) h
set_option maxRecDepth 100000 in
theorem ev_261_4 {dp : Nat} {e : EN} {I : JI} {L : JI} {i1 : Int} {i2 : Int} {i3 : Int} {i4 : Int} {P_ : (Int × JI × JI) → Prop} (h : Ev (fun n => (if 10 ≤ i4 then (if -2147483648 ≤ i2 + 1 ∧ i2 + 1 ≤ 2147483647 then (kf_261 n dp e 2 I L i1 (i2 + 1) 0 0) else none) else (if 0 ≤ i4 ∧ i4 < 10 then (if 0 ≤ i2 ∧ i2 < 8 then (if (-2147483648 ≤ 640 * (I 126 i2) ∧ 640 * (I 126 i2) ≤ 2147483647) ∧ (-2147483648 ≤ 10 * i3 ∧ 10 * i3 ≤ 2147483647) ∧ (-2147483648 ≤ (640 * (I 126 i2)) + (10 * i3) ∧ (640 * (I 126 i2)) + (10 * i3) ≤ 2147483647) ∧ (-2147483648 ≤ ((640 * (I 126 i2)) + (10 * i3)) + i4 ∧ ((640 * (I 126 i2)) + (10 * i3)) + i4 ≤ 2147483647) then (if 0 ≤ (((640 * (I 126 i2)) + (10 * i3)) + i4) ∧ (((640 * (I 126 i2)) + (10 * i3)) + i4) < 1920 then (if 0 ≤ i4 ∧ i4 < 10 then (if -2147483648 ≤ (I 135 i4) + (I 122 (((640 * (I 126 i2)) + (10 * i3)) + i4)) ∧ (I 135 i4) + (I 122 (((640 * (I 126 i2)) + (10 * i3)) + i4)) ≤ 2147483647 then (stI (w2 I 135 i4 ((I 135 i4) + (I 122 (((640 * (I 126 i2)) + (10 * i3)) + i4)))) (fun I_223 => (if -2147483648 ≤ i4 + 1 ∧ i4 + 1 ≤ 2147483647 then (kf_261 n dp e 4 I_223 L i1 i2 i3 (i4 + 1)) else none))) else none) else none) else none) else none) else none) else none))) P_) : Ev (fun n => kf_261 n dp e 4 I L i1 i2 i3 i4) P_ := Ev_step (fun n => ke_261_4 n dp e I L i1 i2 i3 i4) h
set_option maxRecDepth 100000 in
theorem ev_261_3 {dp : Nat} {e : EN} {I : JI} {L : JI} {i1 : Int} {i2 : Int} {i3 : Int} {i4 : Int} {P_ : (Int × JI × JI) → Prop} (h : Ev (fun n => (if 1 ≤ dp then ((kf_268 n (dp - 1) e 0 I L i2 i3).bind (fun ⟨x0_113, I0_113, L0_113⟩ => (if 0 ≤ i2 ∧ i2 < 8 then (if 1 ≤ dp then ((kf_266 n (dp - 1) e 0 I0_113 L0_113 (I0_113 126 i2) i3 0 0 0).bind (fun ⟨x1_135, I1_135, L1_135⟩ => (if (-2147483648 ≤ i2 + 1 ∧ i2 + 1 ≤ 2147483647) ∧ (-2147483648 ≤ 59049 * (i2 + 1) ∧ 59049 * (i2 + 1) ≤ 2147483647) ∧ (-2147483648 ≤ (59049 * (i2 + 1)) + x1_135 ∧ (59049 * (i2 + 1)) + x1_135 ≤ 2147483647) then (if 0 ≤ ((59049 * (i2 + 1)) + x1_135) ∧ ((59049 * (i2 + 1)) + x1_135) < 531441 then (if (-2147483648 ≤ 59049 * i2 ∧ 59049 * i2 ≤ 2147483647) ∧ (-2147483648 ≤ (59049 * i2) + i1 ∧ (59049 * i2) + i1 ≤ 2147483647) then (if 0 ≤ ((59049 * i2) + i1) ∧ ((59049 * i2) + i1) < 531441 then (if -2147483648 ≤ x0_113 + (I1_135 129 ((59049 * (i2 + 1)) + x1_135)) ∧ x0_113 + (I1_135 129 ((59049 * (i2 + 1)) + x1_135)) ≤ 2147483647 then (if (x0_113 + (I1_135 129 ((59049 * (i2 + 1)) + x1_135))) = (I1_135 129 ((59049 * i2) + i1)) then (if 0 ≤ i2 ∧ i2 < 8 then (stI (w2 I1_135 134 i2 i3) (fun I_168 => (if 0 ≤ i2 ∧ i2 < 8 then (if 1 ≤ dp then ((kf_266 n (dp - 1) e 0 I_168 L1_135 (I_168 126 i2) i3 0 0 0).bind (fun ⟨x2_177, I2_177, L2_177⟩ => (kf_261 n dp e 4 I2_177 L2_177 x2_177 i2 i3 0))) else none) else none))) else none) else (if -2147483648 ≤ i3 + 1 ∧ i3 + 1 ≤ 2147483647 then (kf_261 n dp e 3 I1_135 L1_135 i1 i2 (i3 + 1) 0) else none)) else none) else none) else none) else none) else none))) else none) else none))) else none)) P_) : Ev (fun n => kf_261 n dp e 3 I L i1 i2 i3 i4) P_ := Ev_step (fun n => ke_261_3 n dp e I L i1 i2 i3 i4) h
end
/-! PLANS: the reference finds the best and the first -/
/-- what the reckoning looks at -/
def FrQ (K0 K : JI) : Prop := ∀ a i, (a = 107 ∨ a = 120 ∨ a = 122 ∨ (126 ≤ a ∧ a ≤ 128) ∨ a = 132 ∨ (a = 105 ∧ (i = 40 ∨ i = 43 ∨ i = 44 ∨ i = 48))) → K a i = K0 a i
section PM
variable {e : EN} {L : JI} {m : Nat} {od : Nat → Int} {wn : Int → Int}
theorem OrM_q {K0 K : JI} (hF : FrQ K0 K) (h : OrM K0 m od wn) : OrM K m od wn := OrM_c (hF _ _ (by omega)) (hF _ _ (by omega)) (fun i => hF _ _ (by omega)) (fun i => hF _ _ (by omega)) h
theorem PlH_q {K0 K : JI} {N : Nat} (hF : FrQ K0 K) (h : PlH K0 N) : PlH K N := by
  obtain ⟨p1, p2, p3, p4, p5⟩ := h
  refine ⟨p1, by rw [hF _ _ (by omega)]; exact p2, fun i hi => ?_, by rw [hF _ _ (by omega)]; exact p4, fun i a b => by rw [hF _ _ (by omega)]; exact p5 i a b⟩
  rw [hF 126 _ (by omega), hF 120 _ (by omega)]
  refine ⟨(p3 i hi).1, (p3 i hi).2.1, fun k hk p a b => ?_⟩
  rw [hF 122 _ (by omega)]
  exact (p3 i hi).2.2 k hk p a b
theorem gnM_q {K0 K : JI} {i k : Nat} (hF : FrQ K0 K) : gnM K i k = gnM K0 i k := by
  have o : ovM K (K 126 i) k = ovM K0 (K0 126 i) k := by
    unfold ovM
    rw [hF 126 _ (by omega)]
    exact sm_congr 10 (fun p _ _ => by rw [hF 107 _ (by omega), hF 122 _ (by omega)])
  unfold gnM
  rw [o, hF 105 48 (by omega), hF 132 _ (by omega)]
theorem K266q {dp : Nat} {K0 K : JI} {N i k : Nat} {s x1 x2 x3 : Int} (hF : FrQ K0 K) (hO : OrM K0 m od wn) (hP : PlH K0 N) (hi : i < N) (hk : k < (K0 120 (K0 126 i)).toNat) (hS : ∀ k : Nat, k < m → K 133 k = dgS (fun k => wn (od k) + 1) s k) : Ev (fun n => kf_266 n dp e 0 K L (K0 126 i) k x1 x2 x3) (fun r => r = (bhM K0 m od wn i k s, K, L)) := by
  obtain ⟨q1, q2, q3⟩ := hP.2.2.1 i hi
  refine K266 (OrM_q hF hO) q1 (by omega) (fun j hj => ?_) (fun j hj => ?_)
  · have z := hO.2.2.1 j hj
    have y := hO.2.2.2.1 (od j) z.2.1 z.2.2
    have w := dg_b (B := fun k => wn (od k) + 1) (s := s) (k := j) (by omega)
    exact ⟨hS j hj, w.1, by omega⟩
  · have z := hO.2.2.1 j hj
    exact ⟨hF _ _ (by omega), q3 k hk (od j) z.2.1 z.2.2⟩
/-- the walk changes no more than this -/
def FrWk (K K' : JI) : Prop := ∀ a i, ¬ (133 ≤ a ∧ a ≤ 135) → K' a i = K a i
theorem RkA_T {K0 K : JI} {N i : Nat} {s : Int} {T : Int → Int} (hO : OrM K0 m od wn) (hP : PlH K0 N) (hs : ∀ f : Int → Int, sN (fun k => f (od k)) m = sm (fun p => if 0 < wn p then f p else 0) 10) (hi : i ≤ N) (hS : StO m od wn s T) (h : RkO K0 K m od wn N i s) : MxH (Sq (osL K0 i (N - i))) (vT wn (bnM K0) (K0 105 48) T) (fun _ => True) (K 129 (59049 * i + s)) (K 130 (59049 * i + s)) :=
  MxH_c (fun _ _ => Iff.rfl) (fun x hx _ => (vlM_T hs hS (Sq_n (osL_n hP (N - i) i (by omega)) x hx)).symm) h.1
/-- what the first leaves -/
def lfW (K0 : JI) (f : Nat → Int) : Nat → Int → Int
  | 0, _ => 0
  | i + 1, p => lfW K0 f i p + K0 122 (640 * K0 126 i + 10 * f i + p)
theorem K261w {dp N : Nat} {K0 K : JI} (hd : 3 ≤ dp) (hF : FrQ K0 K) (hO : OrM K0 m od wn) (hP : PlH K0 N) (hs : ∀ f : Int → Int, sN (fun k => f (od k)) m = sm (fun p => if 0 < wn p then f p else 0) 10) (hC : ∀ i : Nat, i < N → ClM K0 K m od wn i (prL (fun k => wn (od k) + 1) m)) (hR : ∀ i : Nat, i ≤ N → ∀ s : Int, 0 ≤ s → s < prL (fun k => wn (od k) + 1) m → ¬ K 131 (59049 * i + s) = 0 → RkO K0 K m od wn N i s) : ∀ (j i : Nat), i + j = N → ∀ (s : Int) (T : Int → Int) (K1 : JI), (0 ≤ s ∧ s < prL (fun k => wn (od k) + 1) m) → ¬ K 131 (59049 * i + s) = 0 → (∀ p, 0 ≤ T p) → StO m od wn s T → FrWk K K1 → (∀ p, 0 ≤ p → p < 10 → 0 ≤ K1 135 p ∧ K1 135 p ≤ 200 * i) → Ev (fun n => kf_261 n dp e 2 K1 L s i 0 0) (fun r => r.1 = 1 ∧ r.2.2 = L ∧ FrWk K r.2.1 ∧ (∀ l, l < (i : Int) → r.2.1 134 l = K1 134 l) ∧ FsO wn (bnM K0) (K0 105 48) (osL K0 i j) T (fun l => r.2.1 134 ((i : Int) + l)) ∧ ∀ p, 0 ≤ p → p < 10 → r.2.1 135 p = K1 135 p + (lfW K0 (fun l => r.2.1 134 l) N p - lfW K0 (fun l => r.2.1 134 l) i p)) := by
  have pp := OrM_p hO
  have N8 := hP.1
  intro j
  induction j with
  | zero =>
    intro i hij s T K1 h1 h2 h3 h4 h5 h6
    have : i = N := by omega
    subst this
    refine ev_261_2 ?_
    rw [h5 105 40 (by omega), hF 105 40 (by omega), hP.2.1]
    refine Ev_t (by omega) (Ev_ret ⟨rfl, rfl, h5, fun _ _ => rfl, by rw [osL, FsO]; trivial, fun p _ _ => ?_⟩)
    dsimp only
    omega
  | succ j ih =>
    intro i hij s T K1 h1 h2 h3 h4 h5 h6
    have hi : i < N := by omega
    obtain ⟨q1, q2, q3⟩ := hP.2.2.1 i hi
    have RI := RkA_T hO hP hs (by omega) h4 (hR i (by omega) s h1.1 h1.2 h2)
    rw [show N - i = j + 1 by omega, osL] at RI
    have RB : ∀ k : Nat, k < (K0 120 (K0 126 i)).toNat → MxB (Sq (osL K0 (i + 1) j)) (vT wn (bnM K0) (K0 105 48) (fun p => T p + (OfC K0 i).2.2 k p)) (K 129 (59049 * ((i : Int) + 1) + bhM K0 m od wn i k s)) := fun k hk => by
      have bb := bhM_b (s := s) hO hP hi hk
      have cl := hC i hi s h1.1 h1.2 h2 k hk
      have := RkA_T hO hP hs (show i + 1 ≤ N by omega) (StO_b hO hP hi hk h3 h4) (hR (i + 1) (by omega) _ bb.1 bb.2 (by rw [show 59049 * ((i + 1 : Nat) : Int) = 59049 * ((i : Int) + 1) by omega]; exact cl))
      rw [show N - (i + 1) = j by omega, show 59049 * ((i + 1 : Nat) : Int) = 59049 * ((i : Int) + 1) by omega] at this
      exact MxH_B this
    refine ev_261_2 ?_
    rw [h5 105 40 (by omega), hF 105 40 (by omega), hP.2.1]
    have Q1 : FrQ K0 K1 := fun a l h => (h5 a l (by omega)).trans (hF a l h)
    refine Ev_f (by omega) (Ev_t (by omega) (Ev_bind (K265 (s := s) (OrM_q Q1 hO) (by omega)) ?_))
    rintro ⟨K2, L2⟩ ⟨r1, r2, r3⟩
    dsimp only at r1 r2 r3 ⊢
    subst r1
    have Q2 : FrQ K0 K2 := fun a l h => (r2 a l (by omega)).trans (Q1 a l h)
    have e126 : K2 126 i = K0 126 i := Q2 _ _ (by omega)
    have P2 := PlH_q Q2 hP
    obtain ⟨_, _, rb1, rb2⟩ := hR i (by omega) s h1.1 h1.2 h2
    have e29 : ∀ l, K2 129 l = K 129 l := fun l => (r2 _ _ (by omega)).trans (h5 _ _ (by omega))
    /- one reaches it -/
    obtain ⟨k0, hk0, ek0⟩ : ∃ k0 : Nat, k0 < (K0 120 (K0 126 i)).toNat ∧ gnM K0 i k0 + K 129 (59049 * ((i : Int) + 1) + bhM K0 m od wn i k0 s) = K 129 (59049 * i + s) := by
      obtain ⟨g1, ⟨x, hx, _, vx⟩, _⟩ := RI
      rw [Sq, List.mem_map] at hx
      obtain ⟨⟨k, y⟩, hy, rfl⟩ := hx
      have hk := (pr_i.1 hy).1
      have hy2 := (pr_i.1 hy).2
      rw [vT_s] at vx
      obtain ⟨u1, z, hz, vz⟩ := RB k hk
      have w1 := u1 y hy2
      have w2 := g1 (adX (OfC K0 i) (k, z)) (by rw [Sq, List.mem_map]; exact ⟨(k, z), pr_i.2 ⟨hk, hz⟩, rfl⟩) trivial
      rw [vT_s] at w2
      refine ⟨k, hk, ?_⟩
      have : (OfC K0 i).2.1 k = gnM K0 i k := rfl
      omega
    have found : ∀ k : Nat, k < (K0 120 (K0 126 i)).toNat → (∀ k' : Nat, k' < k → ¬ gnM K0 i k' + K 129 (59049 * ((i : Int) + 1) + bhM K0 m od wn i k' s) = K 129 (59049 * i + s)) → gnM K0 i k + K 129 (59049 * ((i : Int) + 1) + bhM K0 m od wn i k s) = K 129 (59049 * i + s) → Ev (fun n => kf_261 n dp e 4 (w2 K2 134 i k) L2 (bhM K0 m od wn i k s) i k 0) (fun r => r.1 = 1 ∧ r.2.2 = L2 ∧ FrWk K r.2.1 ∧ (∀ l, l < (i : Int) → r.2.1 134 l = K1 134 l) ∧ FsO wn (bnM K0) (K0 105 48) (osL K0 i (j + 1)) T (fun l => r.2.1 134 ((i : Int) + l)) ∧ ∀ p, 0 ≤ p → p < 10 → r.2.1 135 p = K1 135 p + (lfW K0 (fun l => r.2.1 134 l) N p - lfW K0 (fun l => r.2.1 134 l) i p)) := by
      intro k hk hno hyes
      have bb := bhM_b (s := s) hO hP hi hk
      have cl := hC i hi s h1.1 h1.2 h2 k hk
      have lp : ∀ p : Nat, p ≤ 10 → ∀ K4 : JI, FrWk K K4 → (∀ l, K4 134 l = w2 K2 134 i k 134 l) → (∀ q : Int, 0 ≤ q → q < 10 → K4 135 q = K1 135 q + if q < p then K0 122 (640 * K0 126 i + 10 * k + q) else 0) → Ev (fun n => kf_261 n dp e 4 K4 L2 (bhM K0 m od wn i k s) i k p) (fun r => r.1 = 1 ∧ r.2.2 = L2 ∧ FrWk K r.2.1 ∧ (∀ l, l < (i : Int) → r.2.1 134 l = K1 134 l) ∧ FsO wn (bnM K0) (K0 105 48) (osL K0 i (j + 1)) T (fun l => r.2.1 134 ((i : Int) + l)) ∧ ∀ p, 0 ≤ p → p < 10 → r.2.1 135 p = K1 135 p + (lfW K0 (fun l => r.2.1 134 l) N p - lfW K0 (fun l => r.2.1 134 l) i p)) := by
        refine dec_ind 10 (fun p hp ip => ?_)
        intro K4 g1 g2 g3
        have Q4 : FrQ K0 K4 := fun a l h => (g1 a l (by omega)).trans (hF a l h)
        refine ev_261_4 ?_
        by_cases c : p < 10
        · have ip := ip c
          have a1 := q3 k hk p (by omega) (by omega)
          have a2 := h6 p (by omega) (by omega)
          have a3 := g3 p (by omega) (by omega)
          rw [if_neg (by omega)] at a3
          rw [Q4 126 _ (by omega), Q4 122 _ (by omega), a3]
          refine Ev_f (by omega) (Ev_t (by omega) (Ev_t (by omega) (Ev_t (by omega) (Ev_t (by omega) (Ev_t (by omega) (Ev_t (by omega) (Ev_st (Ev_t (by omega) (ip _ (fun a l z => ?_) (fun l => ?_) (fun q z1 z2 => ?_))))))))))
          · rw [w2_n (by omega)]; exact g1 a l z
          · rw [w2_n (by omega)]; exact g2 l
          · by_cases y : q = p
            · subst y
              rw [w2_ap, if_pos ⟨rfl, rfl⟩, if_pos (by omega)]; omega
            · rw [w2_n (by omega), g3 q z1 z2]
              by_cases y2 : q < p
              · rw [if_pos y2, if_pos (by omega)]
              · rw [if_neg y2, if_neg (by omega)]
        · have : p = 10 := by omega
          subst this
          refine Ev_t (by omega) (Ev_t (by omega) ?_)
          have hT' : ∀ p, 0 ≤ T p + (OfC K0 i).2.2 k p := fun p => by
            have := osL_n hP (j + 1) i (by omega) (OfC K0 i) (by rw [osL]; exact List.mem_cons_self) k hk p
            have := h3 p
            omega
          refine Ev_mono (ih (i + 1) (by omega) (bhM K0 m od wn i k s) (fun p => T p + (OfC K0 i).2.2 k p) K4 bb (by rw [show 59049 * ((i + 1 : Nat) : Int) = 59049 * ((i : Int) + 1) by omega]; exact cl) hT' (StO_b hO hP hi hk h3 h4) g1 (fun q z1 z2 => ?_)) ?_
          · have a1 := q3 k hk q z1 z2
            have a2 := h6 q z1 z2
            rw [g3 q z1 z2, if_pos (by omega)]
            omega
          · rintro ⟨x, K5, L5⟩ ⟨y1, y2, y3, y4, y5, y6⟩
            dsimp only at y1 y2 y3 y4 y5 y6 ⊢
            have fk : K5 134 i = k := by rw [y4 i (by omega), g2, w2_ap, if_pos ⟨rfl, rfl⟩]
            refine ⟨y1, y2, y3, fun l hl => ?_, ?_, fun q z1 z2 => ?_⟩
            · rw [y4 l (by omega), g2, w2_n (by omega)]; exact r2 _ _ (by omega)
            · rw [osL, FsO]
              refine ⟨⟨k, K 129 (59049 * i + s), ?_, hk, MxH_B RI, ?_, fun k' hk' hM => ?_⟩, fun k' hk' => ?_⟩
              · rw [show (i : Int) + ((0 : Nat) : Int) = i by omega]; exact fk
              · have := RB k hk
                rw [show K 129 (59049 * i + s) - (OfC K0 i).2.1 k = K 129 (59049 * ((i : Int) + 1) + bhM K0 m od wn i k s) by show _ - gnM K0 i k = _; omega]
                exact this
              · have := MxB_u hM (RB k' (by omega))
                refine hno k' hk' ?_
                have : (OfC K0 i).2.1 k' = gnM K0 i k' := rfl
                omega
              · rw [show (i : Int) + ((0 : Nat) : Int) = i by omega, fk] at hk'
                have : k' = k := by omega
                subst this
                have ef : (fun l : Nat => K5 134 ((i : Int) + ((l + 1 : Nat) : Int))) = (fun l : Nat => K5 134 (((i + 1 : Nat) : Int) + l)) := by
                  funext l
                  congr 1
                  omega
                rw [ef]
                exact y5
            · rw [y6 q z1 z2, g3 q z1 z2, if_pos (by omega), lfW]
              rw [fk]
              omega
      refine lp 0 (by omega) _ (fun a l z => ?_) (fun l => rfl) (fun q z1 z2 => ?_)
      · rw [w2_n (by omega), r2 _ _ (by omega)]; exact h5 a l z
      · rw [w2_n (by omega), r2 _ _ (by omega), if_neg (by omega)]; omega
    have srch : ∀ k : Nat, k ≤ k0 → (∀ k' : Nat, k' < k → ¬ gnM K0 i k' + K 129 (59049 * ((i : Int) + 1) + bhM K0 m od wn i k' s) = K 129 (59049 * i + s)) → Ev (fun n => kf_261 n dp e 3 K2 L2 s i k 0) (fun r => r.1 = 1 ∧ r.2.2 = L2 ∧ FrWk K r.2.1 ∧ (∀ l, l < (i : Int) → r.2.1 134 l = K1 134 l) ∧ FsO wn (bnM K0) (K0 105 48) (osL K0 i (j + 1)) T (fun l => r.2.1 134 ((i : Int) + l)) ∧ ∀ p, 0 ≤ p → p < 10 → r.2.1 135 p = K1 135 p + (lfW K0 (fun l => r.2.1 134 l) N p - lfW K0 (fun l => r.2.1 134 l) i p)) := by
      refine dec_ind k0 (fun k hk ik => ?_)
      intro hno
      have hkm : k < (K0 120 (K0 126 i)).toNat := by omega
      have bb := bhM_b (s := s) hO hP hi hkm
      have gb := gnM_b hP hi hkm
      have cl := hC i hi s h1.1 h1.2 h2 k hkm
      obtain ⟨_, _, sb1, sb2⟩ := hR (i + 1) (by omega) _ bb.1 bb.2 (by rw [show 59049 * ((i + 1 : Nat) : Int) = 59049 * ((i : Int) + 1) by omega]; exact cl)
      rw [show 59049 * ((i + 1 : Nat) : Int) = 59049 * ((i : Int) + 1) by omega] at sb1 sb2
      refine ev_261_3 ?_
      refine Ev_t (by omega) (Ev_call (K268 (by omega) P2 hi (by rw [e126, Q2 120 _ (by omega)]; exact hkm)) ?_)
      dsimp only
      rw [gnM_q Q2, e126]
      refine Ev_t (by omega) (Ev_t (by omega) (Ev_call (K266q Q2 hO hP hi hkm r3) ?_))
      dsimp only
      simp only [e29]
      refine Ev_t (by omega) (Ev_t (by omega) (Ev_t (by omega) (Ev_t (by omega) (Ev_t (by omega) (Ev_c (fun z => ?_) (fun z => ?_))))))
      · refine Ev_t (by omega) (Ev_st (Ev_t (by omega) (Ev_t (by omega) ?_)))
        have Q3 : FrQ K0 (w2 K2 134 i k) := fun a l h => by rw [w2_n (by omega)]; exact Q2 a l h
        rw [w2_n (b := 126) (by omega), e126]
        refine Ev_call (K266q Q3 hO hP hi hkm (fun l hl => by rw [w2_n (by omega)]; exact r3 l hl)) ?_
        dsimp only
        exact found k hkm hno z
      · by_cases kk : k < k0
        · refine Ev_t (by omega) (ik kk (fun k' hk' => ?_))
          by_cases x : k' = k
          · subst x; exact z
          · exact hno k' (by omega)
        · have : k = k0 := by omega
          subst this
          exact absurd ek0 z
    exact srch 0 (by omega) (fun k' hk' => by omega)
end PM
