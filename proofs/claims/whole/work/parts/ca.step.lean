section
set_option maxRecDepth 100000 in
theorem ev_107_3 {dp : Nat} {z : Nat} {kd : (Nat → Nat × Nat)} {I : JI} {L : JI} {R : (Nat → Nat → Option Nat)} {i1 : Int} {i2 : Int} {i3 : Int} {i4 : Int} {i5 : Int} {P_ : (PSi × Nat × Nat) → Prop} (h : Ev (fun n => (if i4 ≤ i5 then (if 0 ≤ (I 44 3) ∧ (I 44 3) < 8 then (stI (w2 I 46 (I 44 3) i1) (fun I_122 => (if -2147483648 ≤ (I_122 44 3) + 1 ∧ (I_122 44 3) + 1 ≤ 2147483647 then (stI (w2 I_122 44 3 ((I_122 44 3) + 1)) (fun I_130 => (if -2147483648 ≤ (I_130 44 3) + 1 ∧ (I_130 44 3) + 1 ≤ 2147483647 then (if 0 ≤ ((I_130 44 3) + 1) ∧ ((I_130 44 3) + 1) < 10 then (stI (w2 I_130 45 ((I_130 44 3) + 1) i4) (fun I_145 => (some ((z, kd, I_145, L, R), 0, 0)))) else none) else none))) else none))) else none) else ((R 44 7).bind (fun b_88 => ((R 44 4).bind (fun b_96 => (if ((b_96 < z) ∧ (((kd b_96).1 = 13) ∧ ((kd b_96).2 < (2 ^ 31)))) ∧ (0 ≤ i5 ∧ i5 < (((kd b_96).2 : Nat) : Int)) then (if 1 ≤ dp then ((kf_112 n (dp - 1) (z, kd, R) 0 I L (I b_96 i5)).bind (fun ⟨x_102, I_102, L_102⟩ => (if ((b_88 < z) ∧ (((kd b_88).1 = 13) ∧ ((kd b_88).2 < (2 ^ 31)))) ∧ (0 ≤ x_102 ∧ x_102 < (((kd b_88).2 : Nat) : Int)) then (stI (w2 I_102 b_88 x_102 0) (fun I_106 => (if -2147483648 ≤ i5 + 1 ∧ i5 + 1 ≤ 2147483647 then (kf_107 n dp 3 z kd I_106 L_102 R i1 i2 i3 i4 (i5 + 1)) else none))) else none))) else none) else none))))))) P_) : Ev (fun n => kf_107 n dp 3 z kd I L R i1 i2 i3 i4 i5) P_ := Ev_step (fun n => ke_107_3 n dp z kd I L R i1 i2 i3 i4 i5) h
set_option maxRecDepth 100000 in
theorem ev_107_2 {dp : Nat} {z : Nat} {kd : (Nat → Nat × Nat)} {I : JI} {L : JI} {R : (Nat → Nat → Option Nat)} {i1 : Int} {i2 : Int} {i3 : Int} {i4 : Int} {i5 : Int} {P_ : (PSi × Nat × Nat) → Prop} (h : Ev (fun n => (if 1 ≤ dp then ((kf_110 n (dp - 1) (z, kd, R) 0 I L i5 i1 i2 i4 0 0 0 0 0 0 0 0 0).bind (fun ⟨x_66, I_66, L_66⟩ => (if -2147483648 ≤ i5 + 1 ∧ i5 + 1 ≤ 2147483647 then (kf_107 n dp 1 z kd I_66 L_66 R i1 i2 i3 x_66 (i5 + 1)) else none))) else none)) P_) : Ev (fun n => kf_107 n dp 2 z kd I L R i1 i2 i3 i4 i5) P_ := Ev_step (fun n => ke_107_2 n dp z kd I L R i1 i2 i3 i4 i5) h
set_option maxRecDepth 100000 in
theorem ev_107_1 {dp : Nat} {z : Nat} {kd : (Nat → Nat × Nat)} {I : JI} {L : JI} {R : (Nat → Nat → Option Nat)} {i1 : Int} {i2 : Int} {i3 : Int} {i4 : Int} {i5 : Int} {P_ : (PSi × Nat × Nat) → Prop} (h : Ev (fun n => (if i3 ≤ i5 then (kf_107 n dp 3 z kd I L R i1 i2 i3 i4 i3) else ((R 44 4).bind (fun b_43 => (if (b_43 < z) ∧ ((kd b_43).1 = 13) then (if ((kd b_43).2 < 2147483648) ∧ (-2147483648 ≤ (((kd b_43).2 : Nat) : Int) - i4 ∧ (((kd b_43).2 : Nat) : Int) - i4 ≤ 2147483647) then (if 64 ≤ ((((kd b_43).2 : Nat) : Int) - i4) then (kf_107 n dp 2 z kd I L R i1 i2 i3 i4 i5) else (if 1 ≤ dp then ((kf_108 n (dp - 1) 0 z kd I L R).bind (fun ⟨⟨z_56, kd_56, I_56, L_56, R_56⟩, ck_56, cm_56⟩ => (adk ck_56 cm_56 (kf_107 n dp 2 z_56 kd_56 I_56 L_56 R_56 i1 i2 i3 i4 i5)))) else none)) else none) else none))))) P_) : Ev (fun n => kf_107 n dp 1 z kd I L R i1 i2 i3 i4 i5) P_ := Ev_step (fun n => ke_107_1 n dp z kd I L R i1 i2 i3 i4 i5) h
set_option maxRecDepth 100000 in
theorem ev_107_0 {dp : Nat} {z : Nat} {kd : (Nat → Nat × Nat)} {I : JI} {L : JI} {R : (Nat → Nat → Option Nat)} {i1 : Int} {i2 : Int} {i3 : Int} {i4 : Int} {i5 : Int} {P_ : (PSi × Nat × Nat) → Prop} (h : Ev (fun n => (if (I 44 3) < 8 then (if -2147483648 ≤ (I 44 3) + 1 ∧ (I 44 3) + 1 ≤ 2147483647 then (if 0 ≤ ((I 44 3) + 1) ∧ ((I 44 3) + 1) < 10 then (stI (I 45 ((I 44 3) + 1)) (fun v_21 => (if 0 ≤ (I 44 3) ∧ (I 44 3) < 10 then (stI (I 45 (I 44 3)) (fun v_34 => (kf_107 n dp 1 z kd I L R i1 i2 v_21 v_21 v_34))) else none))) else none) else none) else (some ((z, kd, I, L, R), 0, 0)))) P_) : Ev (fun n => kf_107 n dp 0 z kd I L R i1 i2 i3 i4 i5) P_ := Ev_step (fun n => ke_107_0 n dp z kd I L R i1 i2 i3 i4 i5) h
end
/-! THE CLASS'S PLANS: a layer behind one carcass more -/
def stN (nt : Nat → Nat) : Nat → Nat
  | 0 => 0
  | i + 1 => stN nt i + nt i
theorem stN_b {nt : Nat → Nat} (h0 : nt 0 = 1) : ∀ D : Nat, (∀ i, i ≤ D → nt i ≤ 59049) → stN nt (D + 1) ≤ 1 + 59049 * D
  | 0, _ => by rw [stN, stN, h0]; omega
  | D + 1, h => by
    have r := stN_b h0 D (fun i hi => h i (by omega))
    have := h (D + 1) (by omega)
    rw [stN]
    omega
theorem stN_m {nt : Nat → Nat} : ∀ (j i : Nat), stN nt i ≤ stN nt (i + j)
  | 0, _ => Nat.le_refl _
  | j + 1, i => by
    have r := stN_m (nt := nt) j i
    rw [show i + (j + 1) = i + j + 1 by omega, stN]
    omega
theorem stN_c {nt nt' : Nat → Nat} : ∀ i : Nat, (∀ k, k < i → nt' k = nt k) → stN nt' i = stN nt i
  | 0, _ => rfl
  | i + 1, h => by rw [stN, stN, stN_c i (fun k hk => h k (by omega)), h i (by omega)]
/-- offers of the carcasses so far, the latest first -/
def lyL (o : Nat → OF) : Nat → List OF
  | 0 => []
  | i + 1 => o i :: lyL o i
theorem lyL_n {o : Nat → OF} : ∀ i, (lyL o i).length = i
  | 0 => rfl
  | i + 1 => by rw [lyL, List.length_cons, lyL_n i]
def LyL (rn : Nat) (od : Nat → Int) (wn : Int → Int) (J : JI) (b4 b5 b6 s N : Nat) (os : List OF) : Prop := LyN (Sq os) (fun x => x.1) (fun x => flC rn od wn x.2) (fun _ => True) N (fun e => J b4 ((s : Int) + e)) (fun e => J b5 ((s : Int) + e)) (fun e => J b6 ((s : Int) + e))
def LyA (rn : Nat) (od : Nat → Int) (wn : Int → Int) (J : JI) (b4 b5 b6 len : Nat) (o : Nat → OF) (D : Nat) : Prop := J 44 3 = D ∧ ∃ nt : Nat → Nat, nt 0 = 1 ∧ stN nt (D + 1) ≤ len ∧ (∀ i : Nat, i ≤ D + 1 → J 45 i = stN nt i) ∧ ∀ i : Nat, i ≤ D → nt i ≤ 59049 ∧ LyL rn od wn J b4 b5 b6 (stN nt i) (nt i) (lyL o i)
/-- as many as there are places -/
theorem pgn : ∀ (P N : Nat) (f : Nat → Nat), (∀ e, e < N → f e < P) → (∀ e e', e < N → e' < N → f e = f e' → e = e') → N ≤ P
  | 0, N, f, h, _ => by
    by_cases c : N = 0
    · omega
    · have := h 0 (by omega); omega
  | P + 1, N, f, h, g => by
    by_cases c : N = 0
    · omega
    · obtain ⟨m, rfl⟩ : ∃ m, N = m + 1 := ⟨N - 1, by omega⟩
      have hm := h m (by omega)
      have r := pgn P m (fun e => if f e = P then f m else f e) (fun e he => ?_) (fun e e' he he' q => ?_)
      · omega
      · have a := h e (by omega)
        show (if f e = P then f m else f e) < P
        by_cases d : f e = P
        · rw [if_pos d]
          have : ¬ f m = P := fun z => by have := g e m (by omega) (by omega) (by omega); omega
          omega
        · rw [if_neg d]; omega
      · try dsimp only at q
        by_cases d : f e = P
        · by_cases d' : f e' = P
          · exact g e e' (by omega) (by omega) (by omega)
          · rw [if_pos d, if_neg d'] at q
            have := g m e' (by omega) (by omega) q
            omega
        · by_cases d' : f e' = P
          · rw [if_neg d, if_pos d'] at q
            have := g e m (by omega) (by omega) q
            omega
          · rw [if_neg d, if_neg d'] at q
            exact g e e' (by omega) (by omega) q
theorem Ly_n {α : Type} {rn : Nat} {od : Nat → Int} {wn : Int → Int} {l : List α} {val cd : α → Int} {D : α → Prop} {N : Nat} {F S C : Nat → Int} (hO : odO rn od wn) (h : LyN l val cd D N F S C) (hc : ∀ y ∈ l, ∃ T : Int → Int, (∀ p, 0 ≤ T p) ∧ cd y = flC rn od wn T) : N ≤ 59049 ∧ ∀ e, e < N → ∃ T : Int → Int, (∀ p, 0 ≤ T p) ∧ flC rn od wn T = F e := by
  have ex : ∀ e, e < N → ∃ T : Int → Int, (∀ p, 0 ≤ T p) ∧ flC rn od wn T = F e := fun e he => by
    obtain ⟨y, hy, ⟨_, fy⟩, _⟩ := (h.2.2 e he).1.2.1
    obtain ⟨T, t1, t2⟩ := hc y hy
    exact ⟨T, t1, by rw [← t2]; exact fy⟩
  refine ⟨?_, ex⟩
  have pb := pr_b hO
  refine pgn 59049 N (fun e => if he : e < N then (plC rn od wn (Classical.choose (ex e he))).toNat else 0) (fun e he => ?_) (fun e e' he he' q => ?_)
  · try dsimp only
    rw [dif_pos he]
    have := pl_b hO (Classical.choose_spec (ex e he)).1
    omega
  · try dsimp only at q
    rw [dif_pos he, dif_pos he'] at q
    have s := Classical.choose_spec (ex e he)
    have s' := Classical.choose_spec (ex e' he')
    have b := pl_b hO s.1
    have b' := pl_b hO s'.1
    have := pl_u hO s.1 s'.1 (by omega)
    exact h.1 e e' he he' (by rw [← s.2, ← s'.2]; exact this)
/-- what step leaves -/
def StQ (rn : Nat) (od : Nat → Int) (wn : Int → Int) (b4 b5 b6 b7 sl z : Nat) (kd : KD) (J M : JI) (R : RF) (o : Nat → OF) (D : Nat) (c : Int) (len1 : Nat) (q : (Nat × KD × JI × JI × RF) × Nat × Nat) : Prop := ∃ (z' : Nat) (kd' : KD) (J' M' : JI) (R' : RF) (c4 c5 c6 len' : Nat), q.1 = (z', kd', J', M', R') ∧ LyE (z', kd', R') c4 c5 c6 b7 len' sl ∧ LyT b4 b5 b6 b7 z kd J M R c4 c5 c6 b7 z' kd' J' M' R' ∧ LyA rn od wn J' c4 c5 c6 len' o (D + 1) ∧ (∀ p : Int, 0 ≤ p → p < sl → J' b7 p = 0) ∧ J' 46 D = c ∧ (∀ i : Int, ¬ i = D → J' 46 i = J 46 i) ∧ PotS len1 sl len' sl q.2.1 q.2.2
section KS
variable {rn : Nat} {od : Nat → Int} {wn bn : Int → Int} {b4 b5 b6 b7 len sl : Nat}
set_option maxHeartbeats 4000000 in
theorem K107 {dp z : Nat} {kd : KD} {J M : JI} {R : RF} {c m n D : Nat} {fv : Int} {o : Nat → OF} {gn : Nat → Int} {lf : Nat → Int → Int} {Fg Gg Ag : Nat → Int} (hd : 3 ≤ dp) (hz : 144 ≤ z) (hE : LyE (z, kd, R) b4 b5 b6 b7 len sl) (hc : c < 3) (hO : odO rn od wn) (hb : bdF (cpF rn od wn) (stF rn od wn) (boF rn od bn)) (hT : TbO J (cpF rn od wn) (stF rn od wn) (boF rn od bn)) (hsl : prL (fun k => wn (od k) + 1) rn ≤ sl) (h32 : J 32 c = n) (hn : n ≤ 64) (hg : ∀ g : Nat, g < n → J 27 ((c : Int) * 64 + g) = Fg g ∧ J 28 ((c : Int) * 64 + g) + (if (c : Int) * 64 + (g : Int) = fv then 1 else 0) = Gg g ∧ J 29 ((c : Int) * 64 + g) = Ag g ∧ Ag g ≤ 64) (hG : GpN m gn (fun k => pkI (fiF rn od wn (lf k))) n Fg Gg Ag) (hlf : ∀ k, k < m → (0 ≤ gn k ∧ gn k ≤ 31968001) ∧ ∀ p, 0 ≤ lf k p) (ho : o D = (m, gn, lf)) (hB : SqB (lyL o D)) (hD : D ≤ 6) (hA : LyA rn od wn J b4 b5 b6 len o D) (hS : ∀ p : Int, 0 ≤ p → p < sl → J b7 p = 0) : Ev (fun n => kf_107 n dp 0 z kd J M R c fv 0 0 0) (StQ rn od wn b4 b5 b6 b7 sl z kd J M R o D c len) := by
  obtain ⟨a1, nt, a2, al, a3, a4⟩ := hA
  have sb := stN_b a2 D (fun i hi => (a4 i hi).1)
  have e3 := a3 (D + 1) (by omega)
  have e3' := a3 D (by omega)
  have e0s : stN nt (D + 1) = stN nt D + nt D := rfl
  have eo := hE.2.2.2.1
  have ey := hE.2.1
  have t4 : b4 < z := ey.1.1
  have t5 : b5 < z := ey.2.1.1
  have t6 : b6 < z := ey.2.2.1.1
  have t7 : b7 < z := ey.2.2.2.1
  generalize hs0 : stN nt D = s0 at *
  generalize hs1 : stN nt (D + 1) = s1 at *
  generalize hN : nt D = N at *
  have hLD := a4 D (Nat.le_refl _)
  rw [hs0, hN] at hLD
  have hL := hLD.2
  have hcd : ∀ y ∈ pr m (Sq (lyL o D)), ∃ T : Int → Int, (∀ p, 0 ≤ T p) ∧ flC rn od wn (adX (m, gn, lf) y).2 = flC rn od wn T := fun y hy => by
    obtain ⟨w1, w2⟩ := pr_i.1 hy
    exact ⟨_, ad_p (hB y.2 w2).2 (hlf y.1 w1).2, rfl⟩
  have clr : ∀ (z1 : Nat) (kd1 : KD) (J1 M1 : JI) (R1 : RF) (c4 c5 c6 len1 N1 : Nat), LyE (z1, kd1, R1) c4 c5 c6 b7 len1 sl → LyT b4 b5 b6 b7 z kd J M R c4 c5 c6 b7 z1 kd1 J1 M1 R1 → (∀ i, J1 44 i = J 44 i ∧ J1 45 i = J 45 i ∧ J1 46 i = J 46 i) → (∀ i : Int, 0 ≤ i → i < s1 → J1 c4 i = J b4 i ∧ J1 c5 i = J b5 i ∧ J1 c6 i = J b6 i) → s1 + N1 ≤ len1 → LyN (pr m (Sq (lyL o D))) (fun y => gn y.1 + y.2.1) (fun y => flC rn od wn (adX (m, gn, lf) y).2) (fun _ => True) N1 (fun e => J1 c4 ((s1 : Int) + e)) (fun e => J1 c5 ((s1 : Int) + e)) (fun e => J1 c6 ((s1 : Int) + e)) → ∀ e1 : Nat, e1 ≤ N1 → ∀ J2 : JI, (∀ a i, ¬ a = b7 → J2 a i = J1 a i) → (∀ p : Int, 0 ≤ p → p < sl → ¬ J2 b7 p = 0 → ∃ (e : Nat) (T : Int → Int), e1 ≤ e ∧ e < N1 ∧ (∀ p, 0 ≤ T p) ∧ flC rn od wn T = J1 c4 ((s1 : Int) + e) ∧ plC rn od wn T = p) → Ev (fun n_1 => kf_107 n_1 dp 3 z1 kd1 J2 M1 R1 c fv s1 ((s1 : Int) + N1) ((s1 : Int) + e1)) (StQ rn od wn b4 b5 b6 b7 sl z kd J M R o D c len1) := by
    intro z1 kd1 J1 M1 R1 c4 c5 c6 len1 N1 q1 q2 q3 q4 q5 q6
    have nN := Ly_n hO q6 hcd
    have q1' := q1
    obtain ⟨⟨r4, r5, r6, r7⟩, ⟨y4, y5, y6, y7⟩, ⟨d1, d2, d3, d4, d5, d6⟩, ⟨o4, o5, o6, o7⟩, ⟨⟨l1, l2⟩, lP⟩, l3, l4⟩ := q1
    dsimp only at r4 r5 r6 r7
    refine dec_ind N1 (fun e1 he1 ih => ?_)
    intro J2 vv1 vv2
    refine ev_107_3 ?_
    by_cases ce : e1 < N1
    · have ih := ih ce
      obtain ⟨T, t1, t2⟩ := nN.2 e1 ce
      try dsimp only at t2
      have pb := pl_b hO t1
      refine Ev_f (by omega) (Ev_R r7 (Ev_R r4 (Ev_t (arI y4 (by omega) (by omega)) (Ev_t (by omega) ?_))))
      rw [vv1 c4 _ d3, ← t2]
      have hT2 : TbO J2 (cpF rn od wn) (stF rn od wn) (boF rn od bn) := TbO_c (fun a i x y => by rw [vv1 _ _ (by omega)]; exact (q2.2.1 a (by omega)).2.2.1 i (by omega) (by omega) (by omega)) hT
      refine Ev_bind (K112j hb hT2 hO t1) ?_
      rintro _ rfl
      dsimp only
      refine Ev_t (arI y7 (by omega) ⟨pb.1, by omega⟩) (Ev_st (Ev_t (by omega) ?_))
      rw [show (s1 : Int) + (e1 : Int) + 1 = (s1 : Int) + ((e1 + 1 : Nat) : Int) by omega]
      refine ih _ (fun a i x => by rw [w2_o x]; exact vv1 a i x) (fun p x y hp => ?_)
      by_cases cp : p = plC rn od wn T
      · subst cp
        rw [w2_ap, if_pos ⟨rfl, rfl⟩] at hp
        exact absurd rfl hp
      · rw [w2_n (by omega)] at hp
        obtain ⟨e', T', u1, u2, u3, u4, u5⟩   := vv2 p x y hp
        refine ⟨e', T', ?_, u2, u3, u4, u5⟩
        by_cases ee : e' = e1
        · subst ee
          exact absurd (u5.symm.trans (fl_pl hO u3 t1 (u4.trans t2.symm))) cp
        · omega
    · have : e1 = N1 := by omega
      subst this
      have f44 : ∀ i, J2 44 i = J 44 i := fun i => by rw [vv1 _ _ (by omega)]; exact (q3 i).1
      rw [f44 3, a1]
      refine Ev_t (by omega) (Ev_t (by omega) (Ev_st ?_))
      rw [w2_n (b := 44) (by omega), f44 3, a1]
      refine Ev_t (by omega) (Ev_st ?_)
      rw [show w2 (w2 J2 46 D c) 44 3 ((D : Int) + 1) 44 3 = (D : Int) + 1 from by rw [w2_ap, if_pos ⟨rfl, rfl⟩]]
      refine Ev_t (by omega) (Ev_t (by omega) (Ev_st (Ev_ret ?_)))
      have nn : ∀ (a : Nat) (i : Int), ¬ (a = 46 ∧ i = D) → ¬ (a = 44 ∧ i = 3) → ¬ (a = 45 ∧ i = (D : Int) + 1 + 1) → w2 (w2 (w2 J2 46 D c) 44 3 ((D : Int) + 1)) 45 ((D : Int) + 1 + 1) ((s1 : Int) + e1) a i = J2 a i := fun a i x y w => by rw [w2_n w, w2_n y, w2_n x]
      have v46 : w2 (w2 (w2 J2 46 D c) 44 3 ((D : Int) + 1)) 45 ((D : Int) + 1 + 1) ((s1 : Int) + e1) 46 D = c := by rw [w2_n (by omega), w2_n (by omega), w2_ap, if_pos ⟨rfl, rfl⟩]
      have v44 : w2 (w2 (w2 J2 46 D c) 44 3 ((D : Int) + 1)) 45 ((D : Int) + 1 + 1) ((s1 : Int) + e1) 44 3 = (D : Int) + 1 := by rw [w2_n (by omega), w2_ap, if_pos ⟨rfl, rfl⟩]
      have v45 : w2 (w2 (w2 J2 46 D c) 44 3 ((D : Int) + 1)) 45 ((D : Int) + 1 + 1) ((s1 : Int) + e1) 45 ((D : Int) + 1 + 1) = (s1 : Int) + e1 := by rw [w2_ap, if_pos ⟨rfl, rfl⟩]
      generalize w2 (w2 (w2 J2 46 D c) 44 3 ((D : Int) + 1)) 45 ((D : Int) + 1 + 1) ((s1 : Int) + e1) = J3 at nn v46 v44 v45 ⊢
      refine ⟨z1, kd1, J3, M1, R1, c4, c5, c6, len1, rfl, q1', ?_, ?_, fun p x y => ?_, v46, fun i x => ?_, PotS_r⟩
      · obtain ⟨p1, p2, p3⟩ := q2
        refine ⟨p1, fun a ha => ⟨(p2 a ha).1, (p2 a ha).2.1, fun i x y w => ?_, (p2 a ha).2.2.2⟩, p3⟩
        rw [nn _ _ (by omega) (by omega) (by omega), vv1 _ _ (by omega)]
        exact (p2 a ha).2.2.1 i x y w
      · refine ⟨by rw [v44]; omega, fun i => if i = D + 1 then e1 else nt i, by dsimp only; rw [if_neg (by omega)]; exact a2, by rw [stN, stN_c (nt := nt) (D + 1) (fun k hk => if_neg (by omega)), if_pos rfl, hs1]; exact q5, fun i hi => ?_, fun i hi => ?_⟩
        · by_cases ci : i = D + 2
          · subst ci
            rw [show ((D + 2 : Nat) : Int) = (D : Int) + 1 + 1 by omega, v45, stN, stN_c (nt := nt) (D + 1) (fun k hk => if_neg (by omega)), if_pos rfl, hs1]
            omega
          · rw [nn _ _ (by omega) (by omega) (by omega), vv1 _ _ (by omega), (q3 _).2.1, a3 i (by omega), stN_c (nt := nt) i (fun k hk => if_neg (by omega))]
        · rw [stN_c (nt := nt) i (fun k hk => if_neg (by omega))]
          dsimp only
          by_cases ci : i = D + 1
          · subst ci
            rw [if_pos rfl, hs1]
            refine ⟨nN.1, ?_⟩
            rw [lyL, ho]
            refine LyN_up (fi := fun _ => 0) (fun y hy => rfl) (LyN_c (fun _ _ => Iff.rfl) (fun e he => ⟨?_, ?_, ?_⟩) q6)
            · rw [nn _ _ (by omega) (by omega) (by omega), vv1 _ _ (by omega)]
            · rw [nn _ _ (by omega) (by omega) (by omega), vv1 _ _ (by omega)]
            · rw [nn _ _ (by omega) (by omega) (by omega), vv1 _ _ (by omega)]
          · rw [if_neg ci]
            refine ⟨(a4 i (by omega)).1, LyN_c (fun _ _ => Iff.rfl) (fun e he => ?_) (a4 i (by omega)).2⟩
            have sm := stN_m (nt := nt) (D - i) (i + 1)
            rw [show i + 1 + (D - i) = D + 1 by omega, hs1, stN] at sm
            obtain ⟨x4, x5, x6⟩ := q4 ((stN nt i : Int) + e) (by omega) (by omega)
            refine ⟨?_, ?_, ?_⟩
            · rw [nn _ _ (by omega) (by omega) (by omega), vv1 _ _ (by omega)]; exact x4
            · rw [nn _ _ (by omega) (by omega) (by omega), vv1 _ _ (by omega)]; exact x5
            · rw [nn _ _ (by omega) (by omega) (by omega), vv1 _ _ (by omega)]; exact x6
      · rw [nn _ _ (by omega) (by omega) (by omega)]
        by_cases q : J2 b7 p = 0
        · exact q
        · obtain ⟨e', T', u1, u2, _⟩   := vv2 p x y q
          omega
      · rw [nn _ _ (by omega) (by omega) (by omega), vv1 _ _ (by omega)]; exact (q3 i).2.2
  have key : ∀ e0 : Nat, e0 ≤ N → ∀ (z1 : Nat) (kd1 : KD) (J1 M1 : JI) (R1 : RF) (c4 c5 c6 len1 N1 : Nat), LyE (z1, kd1, R1) c4 c5 c6 b7 len1 sl → LyT b4 b5 b6 b7 z kd J M R c4 c5 c6 b7 z1 kd1 J1 M1 R1 → (∀ i, J1 44 i = J 44 i ∧ J1 45 i = J 45 i ∧ J1 46 i = J 46 i) → (∀ i : Int, 0 ≤ i → i < s1 → J1 c4 i = J b4 i ∧ J1 c5 i = J b5 i ∧ J1 c6 i = J b6 i) → s1 + N1 ≤ len1 → LyN (pr m (Sq (lyL o D))) (fun y => gn y.1 + y.2.1) (fun y => flC rn od wn (adX (m, gn, lf) y).2) (DnP N n (fun e => J b4 ((s0 : Int) + e)) Fg (fun k => pkI (fiF rn od wn (lf k))) (fun x => flC rn od wn x.2) e0 0) N1 (fun e => J1 c4 ((s1 : Int) + e)) (fun e => J1 c5 ((s1 : Int) + e)) (fun e => J1 c6 ((s1 : Int) + e)) → SlX rn od wn J1 c4 b7 sl s1 N1 → Ev (fun n_1 => kf_107 n_1 dp 1 z1 kd1 J1 M1 R1 c fv s1 ((s1 : Int) + N1) ((s0 : Int) + e0)) (StQ rn od wn b4 b5 b6 b7 sl z kd J M R o D c len1) := by
    refine dec_ind N (fun e0 he0 ih => ?_)
    have mid : e0 < N → ∀ (z1 : Nat) (kd1 : KD) (J1 M1 : JI) (R1 : RF) (c4 c5 c6 len1 N1 : Nat), LyE (z1, kd1, R1) c4 c5 c6 b7 len1 sl → LyT b4 b5 b6 b7 z kd J M R c4 c5 c6 b7 z1 kd1 J1 M1 R1 → (∀ i, J1 44 i = J 44 i ∧ J1 45 i = J 45 i ∧ J1 46 i = J 46 i) → (∀ i : Int, 0 ≤ i → i < s1 → J1 c4 i = J b4 i ∧ J1 c5 i = J b5 i ∧ J1 c6 i = J b6 i) → s1 + N1 + 64 ≤ len1 → LyN (pr m (Sq (lyL o D))) (fun y => gn y.1 + y.2.1) (fun y => flC rn od wn (adX (m, gn, lf) y).2) (DnP N n (fun e => J b4 ((s0 : Int) + e)) Fg (fun k => pkI (fiF rn od wn (lf k))) (fun x => flC rn od wn x.2) e0 0) N1 (fun e => J1 c4 ((s1 : Int) + e)) (fun e => J1 c5 ((s1 : Int) + e)) (fun e => J1 c6 ((s1 : Int) + e)) → SlX rn od wn J1 c4 b7 sl s1 N1 → Ev (fun n_1 => kf_107 n_1 dp 2 z1 kd1 J1 M1 R1 c fv s1 ((s1 : Int) + N1) ((s0 : Int) + e0)) (StQ rn od wn b4 b5 b6 b7 sl z kd J M R o D c len1) := by
      intro ce z1 kd1 J1 M1 R1 c4 c5 c6 len1 N1 q1 q2 q3 q4 q5 q6 q7
      have ih := ih ce
      obtain ⟨o4, o5, o6, o7⟩ := q1.2.2.2.1
      have fr : ∀ a i, 1 ≤ a → a < 44 → J1 a i = J a i := fun a i x y => (q2.2.1 a (by omega)).2.2.1 i (by omega) (by omega) (by omega)
      refine ev_107_2 ?_
      refine Ev_t (by omega) (Ev_bind (K110 (e := (z1, kd1, R1)) (s0 := s0) (s1 := s1) (N := N) (e0 := e0) (n := n) (m := m) (os := lyL o D) (gn := gn) (lf := lf) (F := fun e => J b4 ((s0 : Int) + e)) (S := fun e => J b5 ((s0 : Int) + e)) (C := fun e => J b6 ((s0 : Int) + e)) (Fg := Fg) (Gg := Gg) (Ag := Ag) (bn := bn) (by omega) q1 hc hO hb (TbO_c (fun a i x y => fr a i (by omega) (by omega)) hT) hsl (by rw [fr _ _ (by omega) (by omega)]; exact h32) hn (fun g hg' => by rw [fr _ _ (by omega) (by omega), fr _ _ (by omega) (by omega), fr _ _ (by omega) (by omega)]; exact hg g hg') hG hlf hB (by rw [lyL_n]; omega) hL (fun e he => q4 _ (by omega) (by omega)) ce e0s q6 q7 q5) ?_)
      rintro ⟨x, J3, M3⟩ ⟨N2, h1, h2, h3, h4, h5, h6⟩
      dsimp only at h1 h2 h3 h4 h5 h6 ⊢
      subst h2 h3
      rw [show (s0 : Int) + (e0 : Int) + 1 = (s0 : Int) + ((e0 + 1 : Nat) : Int) by omega]
      refine Ev_t (by omega) (ih z1 kd1 J3 M3 R1 c4 c5 c6 len1 N2 q1 ?_ (fun i => ?_) (fun i x y => ?_) (by omega) h5 h6)
      · obtain ⟨p1, p2, p3⟩ := q2
        refine ⟨p1, fun a ha => ⟨(p2 a ha).1, (p2 a ha).2.1, fun i x y w => ?_, (p2 a ha).2.2.2⟩, p3⟩
        rw [h4 _ _ (by omega) (by omega)]
        exact (p2 a ha).2.2.1 i x y w
      · rw [h4 44 _ (by omega) (by omega), h4 45 _ (by omega) (by omega), h4 46 _ (by omega) (by omega)]; exact q3 i
      · have dd := q1.2.2.1
        rw [h4 c4 _ (by omega) (by omega), h4 c5 _ (by omega) (by omega), h4 c6 _ (by omega) (by omega)]; exact q4 i x y
    intro z1 kd1 J1 M1 R1 c4 c5 c6 len1 N1 q1 q2 q3 q4 q5 q6 q7
    refine ev_107_1 ?_
    by_cases ce : e0 < N
    · have y4 := q1.2.1.1
      have r4 : R1 44 4 = some c4 := q1.1.1
      have e4 : (kd1 c4).2 = len1 := y4.2.2
      have lb := q1.2.2.2.2.1
      have nN := Ly_n hO q6 hcd
      have z1z := q2.1
      refine Ev_f (by omega) (Ev_R r4 ?_)
      rw [e4]
      refine Ev_t ⟨y4.1, y4.2.1⟩ (Ev_t (by omega) ?_)
      by_cases cr : 64 ≤ ((len1 : Nat) : Int) - ((s1 : Int) + N1)
      · exact Ev_t cr (mid ce z1 kd1 J1 M1 R1 c4 c5 c6 len1 N1 q1 q2 q3 q4 (by omega) q6 q7)
      · have l2 := lenP_2 lb.2 (by omega)
        refine Ev_f cr (Ev_t (by omega) (Ev_bind (K108 (by omega) (by omega) q1 l2.1) ?_))
        rintro _ ⟨kd2, J2, M2, R2, rfl, g1, g2, g3, g4⟩
        dsimp only
        have c4z : c4 < z1 := y4.1
        have c7z : b7 < z1 := q1.2.1.2.2.2.1
        refine Ev_adk (Ev_mono (mid ce (z1 + 3) kd2 J2 M2 R2 z1 (z1 + 1) (z1 + 2) (2 * len1) N1 g1 (LyT_t q2 g2) (fun i => ?_) (fun i x y => ?_) (by omega) ?_ ?_) ?_)
        · rw [g3 44 _ (by omega), g3 45 _ (by omega), g3 46 _ (by omega)]; exact q3 i
        · obtain ⟨x4, x5, x6⟩ := g4 i x (by omega)
          rw [x4, x5, x6]; exact q4 i x y
        · exact LyN_c (fun _ _ => Iff.rfl) (fun e he => g4 _ (by omega) (by omega)) q6
        · refine ⟨fun e he T hT w => ?_, fun p x y w => ?_⟩
          · rw [(g4 _ (by omega) (by omega)).1] at w
            rw [g3 _ _ c7z]; exact q7.1 e he T hT w
          · rw [g3 _ _ c7z] at w
            obtain ⟨e, T, u1, u2, u3, u4⟩ := q7.2 p x y w
            exact ⟨e, T, u1, u2, by rw [(g4 _ (by omega) (by omega)).1]; exact u3, u4⟩
        · rintro q ⟨z', kd', J', M', R', f4, f5, f6, len', w1, w2, w3, w4, w5, w6, w7, w8⟩
          exact ⟨z', kd', J', M', R', f4, f5, f6, len', w1, w2, w3, w4, w5, w6, w7, PotS_t PotS_g w8⟩
    · have : e0 = N := by omega
      subst this
      refine Ev_t (by omega) ?_
      have := clr z1 kd1 J1 M1 R1 c4 c5 c6 len1 N1 q1 q2 q3 q4 q5 (LyN_c (fun y hy => ⟨fun _ => DnP_N hL hG hy, fun _ => trivial⟩) (fun _ _ => ⟨rfl, rfl, rfl⟩) q6) 0 (by omega) J1 (fun _ _ _ => rfl) (fun p x y w => by
        obtain ⟨e, T, u1, u2, u3, u4⟩ := q7.2 p x y w
        exact ⟨e, T, by omega, u1, u2, u3, u4⟩)
      rw [show (s1 : Int) + ((0 : Nat) : Int) = s1 by omega] at this
      exact this
  refine ev_107_0 ?_
  rw [a1, show (D : Int) + 1 = ((D + 1 : Nat) : Int) by omega, e3, e3']
  refine Ev_t (by omega) (Ev_t (by omega) (Ev_t (by omega) (Ev_st (Ev_t (by omega) (Ev_st ?_)))))
  have lb := hE.2.2.2.2.1
  have := key 0 (by omega) z kd J M R b4 b5 b6 len 0 hE LyT_r (fun i => ⟨rfl, rfl, rfl⟩) (fun i _ _ => ⟨rfl, rfl, rfl⟩) ?_ (LyN_0 (fun y _ => DnP_0)) ⟨fun e he => absurd he (by omega), fun p x y w => absurd (hS p x y) w⟩
  · rw [show (s1 : Int) + ((0 : Nat) : Int) = s1 by omega, show (s0 : Int) + ((0 : Nat) : Int) = s0 by omega] at this
    exact this
  · omega
end KS
