section
set_option maxRecDepth 100000 in
theorem ev_123_1 {dp : Nat} {e : EN} {I : JI} {L : JI} {i1 : Int} {i2 : Int} {i3 : Int} {i4 : Int} {i5 : Int} {P_ : (Int × JI × JI) → Prop} (h : Ev (fun n => (if -2147483648 ≤ i1 + 1 ∧ i1 + 1 ≤ 2147483647 then (if 0 ≤ (i1 + 1) ∧ (i1 + 1) < 10 then (if (I 45 (i1 + 1)) ≤ i5 then (some ((0 : Int), I, L)) else ((e.2.2 44 5).bind (fun b_33 => (if ((b_33 < e.1) ∧ (((e.2.1 b_33).1 = 13) ∧ ((e.2.1 b_33).2 < (2 ^ 31)))) ∧ (0 ≤ i5 ∧ i5 < (((e.2.1 b_33).2 : Nat) : Int)) then ((e.2.2 44 4).bind (fun b_44 => (if ((b_44 < e.1) ∧ (((e.2.1 b_44).1 = 13) ∧ ((e.2.1 b_44).2 < (2 ^ 31)))) ∧ (0 ≤ i5 ∧ i5 < (((e.2.1 b_44).2 : Nat) : Int)) then (if 1 ≤ dp then ((kf_111 n (dp - 1) e 0 I L (I b_44 i5) i4).bind (fun ⟨x0_52, I0_52, L0_52⟩ => (if 1 ≤ dp then ((kf_116 n (dp - 1) e 0 I0_52 L0_52 x0_52).bind (fun ⟨x1_55, I1_55, L1_55⟩ => (if -2147483648 ≤ (I b_33 i5) + x1_55 ∧ (I b_33 i5) + x1_55 ≤ 2147483647 then (if ((I b_33 i5) + x1_55) = i3 then (some ((1 : Int), I1_55, L1_55)) else (if -2147483648 ≤ i5 + 1 ∧ i5 + 1 ≤ 2147483647 then (kf_123 n dp e 1 I1_55 L1_55 i1 i2 i3 i4 (i5 + 1)) else none)) else none))) else none))) else none) else none))) else none)))) else none) else none)) P_) : Ev (fun n => kf_123 n dp e 1 I L i1 i2 i3 i4 i5) P_ := Ev_step (fun n => ke_123_1 n dp e I L i1 i2 i3 i4 i5) h
set_option maxRecDepth 100000 in
theorem ev_123_0 {dp : Nat} {e : EN} {I : JI} {L : JI} {i1 : Int} {i2 : Int} {i3 : Int} {i4 : Int} {i5 : Int} {P_ : (Int × JI × JI) → Prop} (h : Ev (fun n => (if 0 ≤ i1 ∧ i1 < 10 then (stI (I 45 i1) (fun v_17 => (if -2147483648 ≤ i2 - (I 26 18) ∧ i2 - (I 26 18) ≤ 2147483647 then (kf_123 n dp e 1 I L i1 i2 i3 (i2 - (I 26 18)) v_17) else none))) else none)) P_) : Ev (fun n => kf_123 n dp e 0 I L i1 i2 i3 i4 i5) P_ := Ev_step (fun n => ke_123_0 n dp e I L i1 i2 i3 i4 i5) h
set_option maxRecDepth 100000 in
theorem ev_122_2 {dp : Nat} {e : EN} {I : JI} {L : JI} {i1 : Int} {i2 : Int} {i3 : Int} {i4 : Int} {i5 : Int} {i6 : Int} {i7 : Int} {P_ : (Int × JI × JI) → Prop} (h : Ev (fun n => (if -2147483648 ≤ i6 + 1 ∧ i6 + 1 ≤ 2147483647 then (kf_122 n dp e 1 I L i1 i2 i3 i4 i5 (i6 + 1) 0) else none)) P_) : Ev (fun n => kf_122 n dp e 2 I L i1 i2 i3 i4 i5 i6 i7) P_ := Ev_step (fun n => ke_122_2 n dp e I L i1 i2 i3 i4 i5 i6 i7) h
set_option maxRecDepth 100000 in
theorem ev_122_1 {dp : Nat} {e : EN} {I : JI} {L : JI} {i1 : Int} {i2 : Int} {i3 : Int} {i4 : Int} {i5 : Int} {i6 : Int} {i7 : Int} {P_ : (Int × JI × JI) → Prop} (h : Ev (fun n => (if 0 ≤ i1 ∧ i1 < 3 then ((e.2.2 25 (Int.toNat i1)).bind (fun b_16 => (if (b_16 < e.1) ∧ ((e.2.1 b_16).1 = 2) then (if (I b_16 4) ≤ i6 then (some ((i5 : Int), I, L)) else (if 64 ≤ i6 then (some ((i5 : Int), I, L)) else (if -2147483648 ≤ i5 + i6 ∧ i5 + i6 ≤ 2147483647 then (if 0 ≤ (i5 + i6) ∧ (i5 + i6) < 192 then (stI (I 31 (i5 + i6)) (fun v_43 => (if 0 ≤ v_43 ∧ v_43 < 192 then (if (I 30 v_43) = i6 then (if 0 ≤ v_43 ∧ v_43 < 192 then (if 1 ≤ dp then ((kf_111 n (dp - 1) e 0 I L i3 (I 27 v_43)).bind (fun ⟨x0_76, I0_76, L0_76⟩ => (if 0 ≤ v_43 ∧ v_43 < 192 then (if 1 ≤ dp then (if -2147483648 ≤ i4 - (I0_76 28 v_43) ∧ i4 - (I0_76 28 v_43) ≤ 2147483647 then ((kf_123 n (dp - 1) e 0 I0_76 L0_76 i2 x0_76 (i4 - (I0_76 28 v_43)) 0 0).bind (fun ⟨x1_92, I1_92, L1_92⟩ => (if x1_92 = 0 then (kf_122 n dp e 2 I1_92 L1_92 i1 i2 i3 i4 i5 i6 v_43) else (some ((v_43 : Int), I1_92, L1_92))))) else none) else none) else none))) else none) else none) else (kf_122 n dp e 2 I L i1 i2 i3 i4 i5 i6 v_43)) else none))) else none) else none))) else none))) else none)) P_) : Ev (fun n => kf_122 n dp e 1 I L i1 i2 i3 i4 i5 i6 i7) P_ := Ev_step (fun n => ke_122_1 n dp e I L i1 i2 i3 i4 i5 i6 i7) h
set_option maxRecDepth 100000 in
theorem ev_122_0 {dp : Nat} {e : EN} {I : JI} {L : JI} {i1 : Int} {i2 : Int} {i3 : Int} {i4 : Int} {i5 : Int} {i6 : Int} {i7 : Int} {P_ : (Int × JI × JI) → Prop} (h : Ev (fun n => (if -2147483648 ≤ i1 * 64 ∧ i1 * 64 ≤ 2147483647 then (kf_122 n dp e 1 I L i1 i2 i3 i4 (i1 * 64) 0 0) else none)) P_) : Ev (fun n => kf_122 n dp e 0 I L i1 i2 i3 i4 i5 i6 i7) P_ := Ev_step (fun n => ke_122_0 n dp e I L i1 i2 i3 i4 i5 i6 i7) h
end
/-! THE CLASS'S PLANS: the first of the best, one carcass -/
theorem pkI_s {V W U : Nat → Int} (h : ∀ k, k < 5 → V k = W k + U k) : pkI V - pkI W = pkI U := by
  unfold pkI
  rw [h 0 (by omega), h 1 (by omega), h 2 (by omega), h 3 (by omega), h 4 (by omega)]
  omega
theorem bo_t {rn : Nat} {od : Nat → Int} {wn bn : Int → Int} {T : Int → Int} {x : SX} (hO : odO rn od wn) (hs : ∀ f : Int → Int, sN (fun k => f (od k)) rn = sm (fun p => if 0 < wn p ∧ ¬ bn p = 0 then f p else 0) 10) : x.1 + boC rn od wn bn (fun p => T p + x.2 p) = vT wn bn 16 T x := by
  rw [bo_s hO hs]
  rfl
theorem bo_e {rn : Nat} {od : Nat → Int} {wn bn : Int → Int} {T T' U : Int → Int} (hO : odO rn od wn) (hT : ∀ p, 0 ≤ T p) (hT' : ∀ p, 0 ≤ T' p) (hU : ∀ p, 0 ≤ U p) (h : flC rn od wn T = flC rn od wn T') : boC rn od wn bn (fun p => U p + T p) = boC rn od wn bn (fun p => U p + T' p) := by
  have e := fl_j hO hT hT' hU hU h rfl
  exact sN_c 5 (fun k hk => by rw [fl_u hO (ad_p hT hU) (ad_p hT' hU) e k hk])
section KR
variable {e : EN} {L : JI} {rn : Nat} {od : Nat → Int} {b4 b5 b6 b7 len sl : Nat}
theorem K123 {dp : Nat} {J : JI} {o : Nat → OF} {D l : Nat} {T : Int → Int} {due : Int} (hd : 1 ≤ dp) (hE : LyE e b4 b5 b6 b7 len sl) (hP : OfP J rn od) (hA : LyA rn od (wnC J) J b4 b5 b6 len o D) (hD : D ≤ 7) (hl : l ≤ D) (hB : SqB (lyL o l)) (hT : ∀ p, 0 ≤ T p) (hdue : ∀ x ∈ Sq (lyL o l), vT (wnC J) (bnC J) 16 T x ≤ due) : Ev (fun n => kf_123 n dp e 0 J L l (flC rn od (wnC J) T) due 0 0) (fun r => (r = (1, J, L) ∧ MxB (Sq (lyL o l)) (vT (wnC J) (bnC J) 16 T) due) ∨ (r = (0, J, L) ∧ ¬ MxB (Sq (lyL o l)) (vT (wnC J) (bnC J) 16 T) due)) := by
  have hO := RtO_o hP.1.1
  have hbd := (bdF_o hP.2.1 hP.1.1).1
  have hs := hP.1.2.2.1
  obtain ⟨⟨r4, r5, r6, r7⟩, ⟨y4, y5, y6, y7⟩, ⟨d1, d2, d3, d4, d5, d6⟩, ⟨o4, o5, o6, o7⟩, ⟨⟨l1, l2⟩, lP⟩, l3, l4⟩ := hE
  obtain ⟨a1, nt, a2, al, a3, a4⟩ := hA
  obtain ⟨aN, aL⟩ := a4 l hl
  have s0 := a3 l (by omega)
  have s1 := a3 (l + 1) (by omega)
  have sm1 := stN_m (nt := nt) (D - l) (l + 1)
  rw [show l + 1 + (D - l) = D + 1 by omega] at sm1
  rw [stN] at s1 sm1
  generalize stN nt l = s at *
  generalize nt l = N at *
  have fill : flC rn od (wnC J) T - J 26 18 = pkI (fiF rn od (wnC J) T) := by
    rw [hP.1.2.1]
    exact pkI_s (fun k _ => rfl)
  have ent : ∀ i : Nat, i < N → ∃ x, x ∈ Sq (lyL o l) ∧ flC rn od (wnC J) x.2 = J b4 ((s : Int) + i) ∧ x.1 = J b5 ((s : Int) + i) := fun i hi => by
    obtain ⟨x, hx, ⟨_, fx⟩, vx⟩ := (aL.2.2 i hi).1.2.1
    exact ⟨x, hx, fx, vx⟩
  have key : ∀ i : Nat, i ≤ N → (∀ k : Nat, k < i → ∀ x ∈ Sq (lyL o l), flC rn od (wnC J) x.2 = J b4 ((s : Int) + k) → ¬ vT (wnC J) (bnC J) 16 T x = due) → Ev (fun n => kf_123 n dp e 1 J L l (flC rn od (wnC J) T) due (pkI (fiF rn od (wnC J) T)) ((s : Int) + i)) (fun r => (r = (1, J, L) ∧ MxB (Sq (lyL o l)) (vT (wnC J) (bnC J) 16 T) due) ∨ (r = (0, J, L) ∧ ¬ MxB (Sq (lyL o l)) (vT (wnC J) (bnC J) 16 T) due)) := by
    refine dec_ind N (fun i hi ih => ?_)
    intro hno
    refine ev_123_1 ?_
    rw [show (l : Int) + 1 = ((l + 1 : Nat) : Int) by omega, s1]
    refine Ev_t (by omega) (Ev_t (by omega) ?_)
    by_cases ci : i < N
    · have ih := ih ci
      obtain ⟨x, hx, fx, vx⟩ := ent i ci
      have bx := hB x hx
      rw [lyL_n] at bx
      have bb := bo_b (bn := bnC J) hO hbd (ad_p bx.2 hT)
      refine Ev_f (by omega) (Ev_R r5 (Ev_t (arI y5 (by omega) (by omega)) (Ev_R r4 (Ev_t (arI y4 (by omega) (by omega)) (Ev_t (by omega) ?_)))))
      rw [← fx, ← vx]
      refine Ev_bind (K111j hO bx.2 hT) ?_
      rintro _ rfl
      dsimp only
      refine Ev_t (by omega) (Ev_bind (K116j hbd hP.1.2.2.2.1 hO (ad_p bx.2 hT)) ?_)
      rintro _ rfl
      dsimp only
      have ev := bo_t (bn := bnC J) (T := T) (x := x) hO hs
      refine Ev_t (by omega) ?_
      by_cases cd : x.1 + boC rn od (wnC J) (bnC J) (fun p => T p + x.2 p) = due
      · exact Ev_t cd (Ev_ret (Or.inl ⟨rfl, hdue, x, hx, ev.symm.trans cd⟩))
      · refine Ev_f cd (Ev_t (by omega) ?_)
        rw [show (s : Int) + (i : Int) + 1 = (s : Int) + ((i + 1 : Nat) : Int) by omega]
        refine ih (fun k hk w hw fw vw => ?_)
        by_cases ek : k = i
        · subst ek
          have b1 := (aL.2.2 k ci).1.1 w hw ⟨trivial, fw⟩
          have b2 := hdue x hx
          have e1 := bo_e (bn := bnC J) hO (hB w hw).2 bx.2 hT (fw.trans fx.symm)
          have e2 := bo_t (T := T) (x := w) hO hs
          dsimp only at b1
          omega
        · exact hno k (by omega) w hw fw vw
    · have : i = N := by omega
      subst this
      refine Ev_t (by omega) (Ev_ret (Or.inr ⟨rfl, fun z => ?_⟩))
      obtain ⟨_, x, hx, vx⟩ := z
      obtain ⟨k, hk, fk⟩ := aL.2.1 x hx trivial
      exact hno k hk x hx fk vx
  refine ev_123_0 ?_
  rw [s0, fill]
  refine Ev_t (by omega) (Ev_st (Ev_t ?_ ?_))
  · have := pkI_N (V := fiF rn od (wnC J) T) (fun i _ => by have := fi_b hO hT i; omega)
    omega
  · have := key 0 (by omega) (fun k hk => by omega)
    rw [show (s : Int) + ((0 : Nat) : Int) = s by omega] at this
    exact this
/-- the lowest with which the most can still be reached -/
def FsK (wn bn : Int → Int) (os : List OF) (o : OF) (T : Int → Int) (due : Int) (k : Nat) : Prop := k < o.1 ∧ MxB (Sq os) (vT wn bn 16 (fun p => T p + o.2.2 k p)) (due - o.2.1 k) ∧ ∀ k' : Nat, k' < k → ¬ MxB (Sq os) (vT wn bn 16 (fun p => T p + o.2.2 k' p)) (due - o.2.1 k')
theorem K122 {dp : Nat} {J : JI} {o : Nat → OF} {D l c : Nat} {T : Int → Int} {due : Int} (hd : 2 ≤ dp) (hQ : ∀ c : Nat, c < 3 → CtO e (58 + 5 * c) ∧ e.2.2 25 c = some (58 + 5 * c)) (hE : LyE e b4 b5 b6 b7 len sl) (hP : OfP J rn od) (hA : LyA rn od (wnC J) J b4 b5 b6 len o D) (hD : D ≤ 7) (hl : l ≤ D) (hB : SqB (lyL o l)) (hc : c < 3) (h64 : J (58 + 5 * c) 4 ≤ 64) (hT : ∀ p, 0 ≤ T p) (hb : -2000000000 ≤ due ∧ due ≤ 2000000000) (hdue : MxB (Sq (of0 J c :: lyL o l)) (vT (wnC J) (bnC J) 16 T) due) : Ev (fun n => kf_122 n dp e 0 J L c l (flC rn od (wnC J) T) due 0 0 0) (fun r => r.2 = (J, L) ∧ ∃ g k : Nat, g < 64 ∧ r.1 = (c : Int) * 64 + g ∧ J 30 ((c : Int) * 64 + g) = k ∧ J 28 ((c : Int) * 64 + g) = (of0 J c).2.1 k ∧ J 27 ((c : Int) * 64 + g) = pkI (fiF rn od (wnC J) (lfC J c k)) ∧ FsK (wnC J) (bnC J) (lyL o l) (of0 J c) T due k) := by
  have hO := RtO_o hP.1.1
  have hs := hP.1.2.2.1
  obtain ⟨⟨n, n1, n2, n3, n4, n5⟩, _⟩ := hP.1.2.2.2.2 c hc h64
  obtain ⟨q0, r0⟩ := hQ c hc
  have ok := okO_C hP hc h64 (gnC_0 hP hc h64)
  have lfp : ∀ k, k < (of0 J c).1 → ∀ p, 0 ≤ (of0 J c).2.2 k p := fun k hk => (ok.2.1 k hk).2
  have gnb : ∀ k, k < (of0 J c).1 → 0 ≤ (of0 J c).2.1 k ∧ (of0 J c).2.1 k ≤ 31968001 := fun k hk => (ok.2.1 k hk).1
  have hm : (of0 J c).1 = (J (58 + 5 * c) 4).toNat := rfl
  have ctk := (hP.2.2 c hc).1
  /- no choice brings more -/
  have ub : ∀ k, k < (of0 J c).1 → ∀ x ∈ Sq (lyL o l), vT (wnC J) (bnC J) 16 (fun p => T p + (of0 J c).2.2 k p) x ≤ due - (of0 J c).2.1 k := fun k hk x hx => by
    have := hdue.1 (adX (of0 J c) (k, x)) (List.mem_map.2 ⟨(k, x), pr_i.2 ⟨hk, hx⟩, rfl⟩)
    rw [vT_s] at this
    omega
  /- alike fills bring alike -/
  have al : ∀ k k', k < (of0 J c).1 → k' < (of0 J c).1 → pkI (fiK J rn od (wnC J) c k) = pkI (fiK J rn od (wnC J) c k') → ∀ x ∈ Sq (lyL o l), vT (wnC J) (bnC J) 16 (fun p => T p + (of0 J c).2.2 k p) x = vT (wnC J) (bnC J) 16 (fun p => T p + (of0 J c).2.2 k' p) x := fun k k' hk hk' hf x hx => by
    rw [← bo_t hO hs, ← bo_t hO hs]
    rw [← fiK_l hO, ← fiK_l hO] at hf
    have e1 := fl_j hO hT hT (lfp k hk) (lfp k' hk') rfl hf
    have e2 := bo_e (bn := bnC J) (U := x.2) hO (ad_p hT (lfp k hk)) (ad_p hT (lfp k' hk')) (hB x hx).2 e1
    have c1 : ∀ k, (fun p => (T p + (of0 J c).2.2 k p) + x.2 p) = (fun p => x.2 p + ((of0 J c).2.2 k p + T p)) := fun k => funext fun p => by omega
    rw [c1 k, c1 k']
    show x.1 + boC rn od (wnC J) (bnC J) (fun p => x.2 p + (fun p => (of0 J c).2.2 k p + T p) p) = x.1 + boC rn od (wnC J) (bnC J) (fun p => x.2 p + (fun p => (of0 J c).2.2 k' p + T p) p)
    exact congrArg (fun v => x.1 + v) e2
  /- which cutting stands for k -/
  have rep : ∀ k, k < (of0 J c).1 → ∃ g k0 : Nat, g < n ∧ J 31 ((c : Int) * 64 + k) = (c : Int) * 64 + g ∧ k0 < (of0 J c).1 ∧ J 30 ((c : Int) * 64 + g) = k0 ∧ J 28 ((c : Int) * 64 + g) = (of0 J c).2.1 k0 ∧ J 27 ((c : Int) * 64 + g) = pkI (fiK J rn od (wnC J) c k0) ∧ J 31 ((c : Int) * 64 + k0) = (c : Int) * 64 + g ∧ pkI (fiK J rn od (wnC J) c k0) = pkI (fiK J rn od (wnC J) c k) ∧ (of0 J c).2.1 k ≤ (of0 J c).2.1 k0 ∧ ((of0 J c).2.1 k = (of0 J c).2.1 k0 → k0 ≤ k) := fun k hk => by
    obtain ⟨g, a, b, d⟩ := n4 k hk
    obtain ⟨p1, p2, k0, p3, p4, p5, p6, p7⟩ := n5 g a
    obtain ⟨g', a', b', d'⟩ := n4 k0 p3
    have eg : g' = g := n3 g' g a' a (d'.trans p5)
    subst eg
    dsimp only at d p5 p6 p7
    refine ⟨g', k0, a, b, p3, p4, p6.symm, p5.symm, b', by rw [p5, d], ?_, fun z => ?_⟩
    · have := p1.1 k (List.mem_range.2 hk) d.symm
      dsimp only at this
      show 16 * ovK J (58 + 5 * c) k ≤ 16 * ovK J (58 + 5 * c) k0
      omega
    · by_cases q : k0 ≤ k
      · exact q
      · refine absurd ⟨d.symm, ?_⟩ (p7 k (by omega))
        rw [← p6]
        exact z
  have hlf : (of0 J c).2.2 = lfC J c := rfl
  generalize of0 J c = oc at *
  have key : ∀ i : Nat, i ≤ oc.1 → (∀ k : Nat, k < i → ¬ MxB (Sq (lyL o l)) (vT (wnC J) (bnC J) 16 (fun p => T p + oc.2.2 k p)) (due - oc.2.1 k)) → Ev (fun n => kf_122 n dp e 1 J L c l (flC rn od (wnC J) T) due ((c : Int) * 64) i 0) (fun r => r.2 = (J, L) ∧ ∃ g k : Nat, g < 64 ∧ r.1 = (c : Int) * 64 + g ∧ J 30 ((c : Int) * 64 + g) = k ∧ J 28 ((c : Int) * 64 + g) = oc.2.1 k ∧ J 27 ((c : Int) * 64 + g) = pkI (fiF rn od (wnC J) (lfC J c k)) ∧ FsK (wnC J) (bnC J) (lyL o l) oc T due k) := by
    refine dec_ind oc.1 (fun i hi ih => ?_)
    intro hno
    by_cases ci : i < oc.1
    · have ih := ih ci
      obtain ⟨g, k0, g1, g2, g3, g4, g5, g6, g7, g8, g9, g10⟩ := rep i ci
      have nxt : ¬ MxB (Sq (lyL o l)) (vT (wnC J) (bnC J) 16 (fun p => T p + oc.2.2 i p)) (due - oc.2.1 i) → Ev (fun n => kf_122 n dp e 2 J L c l (flC rn od (wnC J) T) due ((c : Int) * 64) i ((c : Int) * 64 + g)) (fun r => r.2 = (J, L) ∧ ∃ g k : Nat, g < 64 ∧ r.1 = (c : Int) * 64 + g ∧ J 30 ((c : Int) * 64 + g) = k ∧ J 28 ((c : Int) * 64 + g) = oc.2.1 k ∧ J 27 ((c : Int) * 64 + g) = pkI (fiF rn od (wnC J) (lfC J c k)) ∧ FsK (wnC J) (bnC J) (lyL o l) oc T due k) := fun h => by
        refine ev_122_2 ?_
        refine Ev_t (by omega) ?_
        rw [show (i : Int) + 1 = ((i + 1 : Nat) : Int) by omega]
        refine ih (fun k hk => ?_)
        by_cases q : k = i
        · subst q; exact h
        · exact hno k (by omega)
      refine ev_122_1 ?_
      have r0' : e.2.2 25 (Int.toNat (c : Int)) = some (58 + 5 * c) := by rw [show (c : Int).toNat = c by omega]; exact r0
      refine Ev_t (by omega) (Ev_R r0' (Ev_t q0.1 (Ev_f (by omega) (Ev_f (by omega) (Ev_t (by omega) (Ev_t (by omega) (Ev_st ?_)))))))
      rw [g2, g4]
      refine Ev_t (by omega) ?_
      by_cases ck : k0 = i
      · subst ck
        refine Ev_t rfl (Ev_t (by omega) (Ev_t (by omega) ?_))
        rw [g6, ← fiK_l hO]
        have lp : ∀ p, 0 ≤ lfC J c k0 p := by
          intro p
          have := (ok.2.1 k0 (by rw [← hm]; exact g3)).2 p
          exact this
        refine Ev_bind (K111j hO hT lp) ?_
        rintro _ rfl
        dsimp only
        rw [g5]
        have gb := gnb k0 g3
        refine Ev_t (by omega) (Ev_t (by omega) (Ev_t (by omega) ?_))
        have eT : (fun p => lfC J c k0 p + T p) = (fun p => T p + oc.2.2 k0 p) := funext fun p => by rw [hlf]; omega
        refine Ev_bind (K123 (o := o) (D := D) (by omega) hE hP hA hD hl hB (ad_p hT lp) (by rw [eT]; exact ub k0 g3)) ?_
        rw [eT]
        rintro _ (⟨rfl, hM⟩ | ⟨rfl, hM⟩)
        · refine Ev_f (by omega) (Ev_ret ⟨rfl, g, k0, by omega, rfl, g4, g5, by rw [g6, fiK_l hO], g3, hM, hno⟩)
        · exact Ev_t rfl (nxt hM)
      · refine Ev_f (by omega) (nxt (fun z => ?_))
        by_cases q : oc.2.1 i = oc.2.1 k0
        · have := g10 q
          refine hno k0 (by omega) ?_
          rw [← q]
          exact MxB_c (fun x hx => al k0 i g3 ci g8 x hx) z
        · obtain ⟨_, x, hx, vx⟩ := z
          have := ub k0 g3 x hx
          rw [al k0 i g3 ci g8 x hx] at this
          omega
    · exfalso
      obtain ⟨_, x, hx, vx⟩ := hdue
      obtain ⟨y, hy, rfl⟩ := List.mem_map.1 (show x ∈ (pr oc.1 (Sq (lyL o l))).map (adX oc) from hx)
      obtain ⟨y1, y2⟩ := pr_i.1 hy
      rw [show y = (y.1, y.2) from rfl, vT_s] at vx
      exact hno y.1 (by omega) ⟨ub y.1 y1, y.2, y2, by omega⟩
  refine ev_122_0 ?_
  exact Ev_t (by omega) (key 0 (by omega) (fun k hk => by omega))
end KR
