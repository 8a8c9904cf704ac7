section
set_option maxRecDepth 100000 in
theorem ev_103_0 {dp : Nat} {z : Nat} {kd : (Nat → Nat × Nat)} {I : JI} {L : JI} {R : (Nat → Nat → Option Nat)} {P_ : (PSi × Nat × Nat) → Prop} (h : Ev (fun n => (stI (w2 I 44 3 0) (fun I_2 => (stI (w2 I_2 45 0 0) (fun I_11 => (stI (w2 I_11 45 1 1) (fun I_18 => ((R 44 4).bind (fun b_20 => (if ((b_20 < z) ∧ (((kd b_20).1 = 13) ∧ ((kd b_20).2 < (2 ^ 31)))) ∧ (((0 : Int) ≤ 0) ∧ (0 < (kd b_20).2)) then (stI (w2 I_18 b_20 0 (I_18 26 18)) (fun I_31 => ((R 44 5).bind (fun b_33 => (if ((b_33 < z) ∧ (((kd b_33).1 = 13) ∧ ((kd b_33).2 < (2 ^ 31)))) ∧ (((0 : Int) ≤ 0) ∧ (0 < (kd b_33).2)) then (stI (w2 I_31 b_33 0 0) (fun I_38 => ((R 44 6).bind (fun b_40 => (if ((b_40 < z) ∧ (((kd b_40).1 = 13) ∧ ((kd b_40).2 < (2 ^ 31)))) ∧ (((0 : Int) ≤ 0) ∧ (0 < (kd b_40).2)) then (stI (w2 I_38 b_40 0 1) (fun I_45 => ((R 44 7).bind (fun b_47 => (if (b_47 < z) ∧ ((kd b_47).1 = 13) then (if (kd b_47).2 < 2147483648 then (if (I_45 26 19) ≤ (((kd b_47).2 : Nat) : Int) then (some ((z, kd, I_45, L, R), 0, 0)) else ((R 44 7).bind (fun b_71 => (if (b_71 < z) ∧ ((kd b_71).1 = 13) then (if 1 ≤ dp then (if ((kd b_71).2 < 2147483648) ∧ (-2147483648 ≤ 2 * (((kd b_71).2 : Nat) : Int) ∧ 2 * (((kd b_71).2 : Nat) : Int) ≤ 2147483647) then (if (¬ ((max (I_45 26 19) (2 * (((kd b_71).2 : Nat) : Int))) < 0)) ∧ ((Int.toNat (max (I_45 26 19) (2 * (((kd b_71).2 : Nat) : Int)))) ≤ 10000000) then (adk 1 (Int.toNat (max (I_45 26 19) (2 * (((kd b_71).2 : Nat) : Int)))) (stI (z + 1) (fun z_79 => (stI (va_up kd z (13, (Int.toNat (max (I_45 26 19) (2 * (((kd b_71).2 : Nat) : Int)))))) (fun kd_79 => (stI (nw2 I_45 z) (fun I_79 => (stI (nw2 L z) (fun L_79 => (stI (va_up R z (fun _ => none)) (fun R_79 => (stI (u2 R_79 44 7 (some z)) (fun R_81 => (some ((z_79, kd_79, I_79, L_79, R_81), 0, 0))))))))))))))) else none) else none) else none) else none)))) else none) else none))))) else none))))) else none))))) else none)))))))))) P_) : Ev (fun n => kf_103 n dp 0 z kd I L R) P_ := Ev_step (fun n => ke_103_0 n dp z kd I L R) h
end
/-! THE CLASS'S PLANS: layers cleared, layers followed -/
/-- what was before stands as it was, but for X and the layers' arrays -/
def FrGx (X : Nat → Int → Prop) (b4 b5 b6 b7 z : Nat) (kd : KD) (J M : JI) (R : RF) (c4 c5 c6 c7 z' : Nat) (kd' : KD) (J' M' : JI) (R' : RF) : Prop := z ≤ z' ∧ (∀ a, a < z → kd' a = kd a ∧ (∀ j, ¬ (a = 44 ∧ 4 ≤ j ∧ j ≤ 7) → R' a j = R a j) ∧ (∀ i, ¬ X a i → ¬ (a = b4 ∨ a = b5 ∨ a = b6 ∨ a = b7) → J' a i = J a i) ∧ ∀ i, M' a i = M a i) ∧ (c4 = b4 ∨ z ≤ c4) ∧ (c5 = b5 ∨ z ≤ c5) ∧ (c6 = b6 ∨ z ≤ c6) ∧ (c7 = b7 ∨ z ≤ c7)
theorem FrGx_t {X : Nat → Int → Prop} {b4 b5 b6 b7 c4 c5 c6 c7 f4 f5 f6 f7 z z1 z2 : Nat} {kd kd1 kd2 : KD} {J M J1 M1 J2 M2 : JI} {R R1 R2 : RF} (h : FrGx X b4 b5 b6 b7 z kd J M R c4 c5 c6 c7 z1 kd1 J1 M1 R1) (g : FrGx X c4 c5 c6 c7 z1 kd1 J1 M1 R1 f4 f5 f6 f7 z2 kd2 J2 M2 R2) : FrGx X b4 b5 b6 b7 z kd J M R f4 f5 f6 f7 z2 kd2 J2 M2 R2 := by
  obtain ⟨h1, h2, h4, h5, h6, h7⟩ := h
  obtain ⟨g1, g2, g4, g5, g6, g7⟩ := g
  have tr : ∀ {b c f : Nat}, (c = b ∨ z ≤ c) → (f = c ∨ z1 ≤ f) → f = b ∨ z ≤ f := fun {b c f} x y => by
    clear h2 g2 h4 h5 h6 h7 g4 g5 g6 g7
    omega
  have nt : ∀ {a b c : Nat}, a < z → (c = b ∨ z ≤ c) → ¬ a = b → ¬ a = c := fun {a b c} ha x y => by
    clear h2 g2 h4 h5 h6 h7 g4 g5 g6 g7
    omega
  refine ⟨Nat.le_trans h1 g1, fun a ha => ?_, tr h4 g4, tr h5 g5, tr h6 g6, tr h7 g7⟩
  obtain ⟨p1, p2, p3, p4⟩ := h2 a ha
  obtain ⟨q1, q2, q3, q4⟩ := g2 a (Nat.lt_of_lt_of_le ha h1)
  refine ⟨q1.trans p1, fun j x => (q2 j x).trans (p2 j x), fun i x w => (q3 i x ?_).trans (p3 i x w), fun i => (q4 i).trans (p4 i)⟩
  rintro (k | k | k | k)
  · exact nt ha h4 (fun e => w (Or.inl e)) k
  · exact nt ha h5 (fun e => w (Or.inr (Or.inl e))) k
  · exact nt ha h6 (fun e => w (Or.inr (Or.inr (Or.inl e)))) k
  · exact nt ha h7 (fun e => w (Or.inr (Or.inr (Or.inr e)))) k
theorem FrGx_m {X Y : Nat → Int → Prop} {b4 b5 b6 b7 c4 c5 c6 c7 z z1 : Nat} {kd kd1 : KD} {J M J1 M1 : JI} {R R1 : RF} (hX : ∀ a i, X a i → Y a i) (h : FrGx X b4 b5 b6 b7 z kd J M R c4 c5 c6 c7 z1 kd1 J1 M1 R1) : FrGx Y b4 b5 b6 b7 z kd J M R c4 c5 c6 c7 z1 kd1 J1 M1 R1 :=
  ⟨h.1, fun a ha => ⟨(h.2.1 a ha).1, (h.2.1 a ha).2.1, fun i x w => (h.2.1 a ha).2.2.1 i (fun y => x (hX a i y)) w, (h.2.1 a ha).2.2.2⟩, h.2.2⟩
theorem FrGx_J {X : Nat → Int → Prop} {b4 b5 b6 b7 z : Nat} {kd : KD} {J M J1 : JI} {R : RF} (h : ∀ a i, ¬ X a i → J1 a i = J a i) : FrGx X b4 b5 b6 b7 z kd J M R b4 b5 b6 b7 z kd J1 M R := ⟨Nat.le_refl _, fun a _ => ⟨rfl, fun _ _ => rfl, fun i x _ => h a i x, fun _ => rfl⟩, Or.inl rfl, Or.inl rfl, Or.inl rfl, Or.inl rfl⟩
def X0 (a : Nat) (i : Int) : Prop := (a = 44 ∧ (i = 3 ∨ i = 8 ∨ i = 9)) ∨ a = 45 ∨ a = 46
theorem LyT_Gx {b4 b5 b6 b7 c4 c5 c6 c7 z z1 : Nat} {kd kd1 : KD} {J M J1 M1 : JI} {R R1 : RF} (h : LyT b4 b5 b6 b7 z kd J M R c4 c5 c6 c7 z1 kd1 J1 M1 R1) : FrGx X0 b4 b5 b6 b7 z kd J M R c4 c5 c6 c7 z1 kd1 J1 M1 R1 :=
  ⟨h.1, fun a ha => ⟨(h.2.1 a ha).1, (h.2.1 a ha).2.1, fun i x w => (h.2.1 a ha).2.2.1 i (fun y => x (Or.inl y)) (fun y => x (Or.inr y)) w, (h.2.1 a ha).2.2.2⟩, h.2.2⟩
theorem PotS_c {len sl sl' : Nat} (h : 2 * sl ≤ sl') : PotS len sl len sl' 1 sl' := by
  rintro CK CM ⟨i, j, h1, h2, h3, h4⟩
  refine ⟨i, j + 1, h1, ?_, by omega, by omega⟩
  rw [Nat.pow_succ]
  omega
theorem fl_0 {rn : Nat} {od : Nat → Int} {wn : Int → Int} (hO : odO rn od wn) : flC rn od wn (fun _ => 0) = pkI (fun k => 15 - cpF rn od wn k) := by
  refine pkI_c (fun k hk => ?_)
  have : fiF rn od wn (fun _ => 0) k = 0 := by
    unfold fiF
    split
    · rename_i q; have := hO.2 k q; dsimp only; omega
    · rfl
  rw [this]
  omega
section KC
variable {rn : Nat} {od : Nat → Int} {wn : Int → Int} {b4 b5 b6 b7 len sl : Nat}
/-- clear -/
theorem K103 {dp z : Nat} {kd : KD} {J M : JI} {R : RF} {o : Nat → OF} (hd : 1 ≤ dp) (hz : 144 ≤ z) (hE : LyE (z, kd, R) b4 b5 b6 b7 len sl) (hO : odO rn od wn) (h18 : J 26 18 = pkI (fun k => 15 - cpF rn od wn k)) (h19 : J 26 19 = prL (fun k => wn (od k) + 1) rn) (hS : ∀ p : Int, 0 ≤ p → p < sl → J b7 p = 0) : Ev (fun n => kf_103 n dp 0 z kd J M R) (fun q => ∃ (z' : Nat) (kd' : KD) (J' M' : JI) (R' : RF) (c7 sl' : Nat), q.1 = (z', kd', J', M', R') ∧ LyE (z', kd', R') b4 b5 b6 c7 len sl' ∧ LyT b4 b5 b6 b7 z kd J M R b4 b5 b6 c7 z' kd' J' M' R' ∧ LyA rn od wn J' b4 b5 b6 len o 0 ∧ prL (fun k => wn (od k) + 1) rn ≤ sl' ∧ (∀ p : Int, 0 ≤ p → p < sl' → J' c7 p = 0) ∧ ((∀ i, J' 46 i = J 46 i) ∧ ∀ i, ¬ i = 3 → J' 44 i = J 44 i) ∧ PotS len sl len sl' q.2.1 q.2.2) := by
  have hE' := hE
  obtain ⟨⟨r4, r5, r6, r7⟩, ⟨y4, y5, y6, y7⟩, ⟨d1, d2, d3, d4, d5, d6⟩, ⟨o4, o5, o6, o7⟩, ⟨⟨l1, l2⟩, lP⟩, l3, l4⟩ := hE
  dsimp only at r4 r5 r6 r7
  have t4 : b4 < z := y4.1
  have t5 : b5 < z := y5.1
  have t6 : b6 < z := y6.1
  have t7 : b7 < z := y7.1
  have pb := pr_b hO
  have arJ : ∀ {b n : Nat}, arO (z, kd, R) b n → 1 ≤ n → n < 2147483648 → ((b < z) ∧ (((kd b).1 = 13) ∧ ((kd b).2 < (2 ^ 31)))) ∧ (((0 : Int) ≤ 0) ∧ (0 < (kd b).2)) := fun {b n} h x y => by
    obtain ⟨q1, q2, q3⟩ := h
    dsimp only at q1 q2 q3
    exact ⟨⟨q1, q2, by rw [q3]; omega⟩, by omega, by rw [q3]; omega⟩
  refine ev_103_0 ?_
  refine Ev_st (Ev_st (Ev_st (Ev_R r4 (Ev_t (arJ y4 (by omega) (by omega)) (Ev_st (Ev_R r5 (Ev_t (arJ y5 (by omega) (by omega)) (Ev_st (Ev_R r6 (Ev_t (arJ y6 (by omega) (by omega)) (Ev_st (Ev_R r7 ?_)))))))))))) 
  have e7 : (kd b7).2 = sl := y7.2.2
  have x18 : w2 (w2 (w2 J 44 3 0) 45 0 0) 45 1 1 26 18 = pkI (fun k => 15 - cpF rn od wn k) := by rw [w2_n (by omega), w2_n (by omega), w2_n (by omega)]; exact h18
  rw [x18]
  generalize hJ3 : w2 (w2 (w2 (w2 (w2 (w2 J 44 3 0) 45 0 0) 45 1 1) b4 0 (pkI (fun k => 15 - cpF rn od wn k))) b5 0 0) b6 0 1 = J3
  have nn : ∀ (a : Nat) (i : Int), ¬ (a = 44 ∧ i = 3) → ¬ (a = 45 ∧ (i = 0 ∨ i = 1)) → ¬ (a = b4 ∧ i = 0) → ¬ (a = b5 ∧ i = 0) → ¬ (a = b6 ∧ i = 0) → J3 a i = J a i := fun a i x1 x2 x3 x4 x5 => by
    rw [← hJ3, w2_n x5, w2_n x4, w2_n x3, w2_n (by omega), w2_n (by omega), w2_n x1]
  have v3 : J3 44 3 = 0 := by rw [← hJ3, w2_n (by omega), w2_n (by omega), w2_n (by omega), w2_n (by omega), w2_n (by omega), w2_ap, if_pos ⟨rfl, rfl⟩]
  have v50 : J3 45 0 = 0 := by rw [← hJ3, w2_n (by omega), w2_n (by omega), w2_n (by omega), w2_n (by omega), w2_ap, if_pos ⟨rfl, rfl⟩]
  have v51 : J3 45 1 = 1 := by rw [← hJ3, w2_n (by omega), w2_n (by omega), w2_n (by omega), w2_ap, if_pos ⟨rfl, rfl⟩]
  have v4 : J3 b4 0 = pkI (fun k => 15 - cpF rn od wn k) := by rw [← hJ3, w2_n (by omega), w2_n (by omega), w2_ap, if_pos ⟨rfl, rfl⟩]
  have v5 : J3 b5 0 = 0 := by rw [← hJ3, w2_n (by omega), w2_ap, if_pos ⟨rfl, rfl⟩]
  have v6 : J3 b6 0 = 1 := by rw [← hJ3, w2_ap, if_pos ⟨rfl, rfl⟩]
  have e19 : J3 26 19 = prL (fun k => wn (od k) + 1) rn := by rw [nn _ _ (by omega) (by omega) (by omega) (by omega) (by omega)]; exact h19
  have f3 : ∀ a, a < z → ∀ i, ¬ (a = 44 ∧ (i = 3 ∨ i = 8 ∨ i = 9)) → ¬ (a = 45 ∨ a = 46) → ¬ (a = b4 ∨ a = b5 ∨ a = b6 ∨ a = b7) → J3 a i = J a i := fun a _ i x y w => nn a i (by omega) (by omega) (by omega) (by omega) (by omega)
  have A3 : ∀ J' : JI, (∀ a i, a = 44 ∨ a = 45 ∨ a = b4 ∨ a = b5 ∨ a = b6 → J' a i = J3 a i) → LyA rn od wn J' b4 b5 b6 len o 0 := by
    intro J' hj
    refine ⟨by rw [hj _ _ (by omega)]; exact v3, fun _ => 1, rfl, by show 0 + 1 ≤ len; omega, fun i hi => ?_, fun i hi => ?_⟩
    · rw [hj _ _ (by omega)]
      by_cases q : i = 0
      · subst q; exact v50
      · have : i = 1 := by omega
        subst this
        exact v51
    · have : i = 0 := by omega
      subst this
      refine ⟨by show 1 ≤ 59049; omega, fun e e' x y _ => by have x : e < 1 := x; have y : e' < 1 := y; omega, fun y hy _ => ⟨0, by show 0 < 1; omega, ?_⟩, fun e he => ?_⟩
      · have hx : y = (0, fun _ => 0) := by simpa [lyL, Sq] using hy
        subst hx
        dsimp only
        rw [fl_0 hO, hj _ _ (by omega)]
        exact v4.symm
      · have he : e < 1 := he
        have : e = 0 := by omega
        subst this
        have z4 : J' b4 ((stN (fun _ => 1) 0 : Nat) + ((0 : Nat) : Int)) = pkI (fun k => 15 - cpF rn od wn k) := by rw [hj _ _ (by omega)]; exact v4
        have z5 : J' b5 ((stN (fun _ => 1) 0 : Nat) + ((0 : Nat) : Int)) = 0 := by rw [hj _ _ (by omega)]; exact v5
        have z6 : J' b6 ((stN (fun _ => 1) 0 : Nat) + ((0 : Nat) : Int)) = 1 := by rw [hj _ _ (by omega)]; exact v6
        dsimp only
        rw [z4, z5, z6]
        refine ⟨⟨fun x hx _ => ?_, ⟨(0, fun _ => 0), by simp [lyL, Sq], ⟨trivial, fl_0 hO⟩, rfl⟩, by decide, ?_⟩, by decide⟩
        · have hx : x = (0, fun _ => 0) := by simpa [lyL, Sq] using hx
          subst hx
          exact Int.le_refl _
        · show _ = min 1000000000 ((cP _ [((0 : Int), fun _ : Int => (0 : Int))] : Nat) : Int)
          rw [cP_t ⟨⟨trivial, fl_0 hO⟩, rfl⟩]
          rfl
  rw [e7, e19]
  refine Ev_t ⟨y7.1, y7.2.1⟩ (Ev_t (by omega) ?_)
  by_cases c : prL (fun k => wn (od k) + 1) rn ≤ (sl : Int)
  · refine Ev_t c (Ev_ret ⟨z, kd, J3, M, R, b7, sl, rfl, hE', ⟨Nat.le_refl _, fun a ha => ⟨rfl, fun _ _ => rfl, f3 a ha, fun _ => rfl⟩, Or.inl rfl, Or.inl rfl, Or.inl rfl, Or.inl rfl⟩, A3 J3 (fun _ _ _ => rfl), c, fun p x y => ?_, ⟨fun i => nn _ _ (by omega) (by omega) (by omega) (by omega) (by omega), fun i x => nn _ _ (by omega) (by omega) (by omega) (by omega) (by omega)⟩, PotS_r⟩)
    rw [nn _ _ (by omega) (by omega) (by omega) (by omega) (by omega)]
    exact hS p x y
  · refine Ev_f c (Ev_R r7 ?_)
    rw [e7]
    obtain ⟨n2, hn2⟩ : ∃ n2 : Nat, Int.toNat (max (prL (fun k => wn (od k) + 1) rn) (2 * ((sl : Nat) : Int))) = n2 := ⟨_, rfl⟩
    have b2 : prL (fun k => wn (od k) + 1) rn ≤ n2 ∧ 2 * sl ≤ n2 ∧ n2 ≤ 118098 := by omega
    rw [hn2]
    refine Ev_t ⟨y7.1, y7.2.1⟩ (Ev_t hd (Ev_t (by omega) (Ev_t (by omega) (Ev_adk (Ev_st (Ev_st (Ev_st (Ev_st (Ev_st (Ev_st (Ev_ret ?_)))))))))))
    have fR : ∀ a, a < z → ∀ j, ¬ (a = 44 ∧ j = 7) → u2 (va_up R z fun _ => none) 44 7 (some z) a j = R a j := fun a ha j hj => by
      unfold u2
      by_cases c : a = 44
      · subst c
        rw [vu_same, vu_n (by omega), vu_n (by omega)]
      · rw [vu_n c, vu_n (by omega)]
    have ao : ∀ a n, arO (z, kd, R) a n → arO (z + 1, va_up kd z (13, n2), u2 (va_up R z fun _ => none) 44 7 (some z)) a n := fun a n q => by
      have q1 : a < z := q.1
      exact ⟨by show a < z + 1; omega, by show (va_up kd z (13, n2) a).1 = 13; rw [vu_n (by omega)]; exact q.2.1, by show (va_up kd z (13, n2) a).2 = n; rw [vu_n (by omega)]; exact q.2.2⟩
    refine ⟨z + 1, _, _, _, _, z, n2, rfl, ⟨⟨?_, ?_, ?_, ?_⟩, ⟨ao _ _ y4, ao _ _ y5, ao _ _ y6, ⟨?_, ?_, ?_⟩⟩, by omega, ⟨o4, o5, o6, by omega⟩, ⟨⟨l1, l2⟩, lP⟩, by omega, by omega⟩, ⟨by omega, fun a ha => ⟨vu_n (by omega), fun j hj => fR a ha j (by omega), fun i x y w => ?_, fun i => nw_n (by omega)⟩, Or.inl rfl, Or.inl rfl, Or.inl rfl, by omega⟩, A3 _ (fun a i x => nw_n (by omega)), b2.1, fun p x y => ?_, ⟨fun i => ?_, fun i x => ?_⟩, ?_⟩
    · show u2 (va_up R z fun _ => none) 44 7 (some z) 44 4 = some b4
      rw [fR 44 (by omega) 4 (by omega)]; exact r4
    · show u2 (va_up R z fun _ => none) 44 7 (some z) 44 5 = some b5
      rw [fR 44 (by omega) 5 (by omega)]; exact r5
    · show u2 (va_up R z fun _ => none) 44 7 (some z) 44 6 = some b6
      rw [fR 44 (by omega) 6 (by omega)]; exact r6
    · show u2 (va_up R z fun _ => none) 44 7 (some z) 44 7 = some z
      unfold u2; rw [vu_same, vu_same]
    · show z < z + 1; omega
    · show (va_up kd z (13, n2) z).1 = 13; rw [vu_same]
    · show (va_up kd z (13, n2) z).2 = n2; rw [vu_same]
    · rw [nw_n (by omega)]; exact f3 a ha i x y w
    · unfold nw2; rw [if_pos rfl]
    · rw [nw_n (by omega), nn _ _ (by omega) (by omega) (by omega) (by omega) (by omega)]
    · rw [nw_n (by omega), nn _ _ (by omega) (by omega) (by omega) (by omega) (by omega)]
    · show PotS len sl len n2 (0 + 1) (0 + n2)
      rw [Nat.zero_add, Nat.zero_add]
      exact PotS_c b2.2.1
end KC
