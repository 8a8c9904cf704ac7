section
set_option maxRecDepth 100000 in
theorem ev_109_0 {dp : Nat} {z : Nat} {kd : (Nat → Nat × Nat)} {I : JI} {L : JI} {R : (Nat → Nat → Option Nat)} {i1 : Int} {a0 : Nat} {P_ : ((Nat × PSi) × Nat × Nat) → Prop} (h : Ev (fun n => (if (a0 < z) ∧ ((kd a0).1 = 13) then (if (kd a0).2 < 2147483648 then (if i1 = (((kd a0).2 : Nat) : Int) then none else (if (¬ (i1 < 0)) ∧ ((Int.toNat i1) ≤ 10000000) then (adk 1 (Int.toNat i1) (stI (z + 1) (fun z_15 => (stI (va_up kd z (13, (Int.toNat i1))) (fun kd_15 => (stI (nw2 I z) (fun I_15 => (stI (nw2 L z) (fun L_15 => (stI (va_up R z (fun _ => none)) (fun R_15 => (if (a0 < z_15) ∧ ((kd_15 a0).1 = 13) then (if 1 ≤ dp then (if (a0 < z_15) ∧ ((kd_15 a0).1 = 13) then (if (z < z_15) ∧ ((kd_15 z).1 = 13) then (if (kd_15 a0).2 < 2147483648 then (if ((¬ ((0 : Int) < 0)) ∧ ((¬ ((0 : Int) < 0)) ∧ ((¬ ((min i1 (((kd_15 a0).2 : Nat) : Int)) < 0)) ∧ (((0 + (Int.toNat (min i1 (((kd_15 a0).2 : Nat) : Int)))) ≤ (kd_15 a0).2) ∧ ((0 + (Int.toNat (min i1 (((kd_15 a0).2 : Nat) : Int)))) ≤ (kd_15 z).2))))) ∧ (1 ≤ dp) then (if 0 ≤ (min i1 (((kd_15 a0).2 : Nat) : Int)) then (stI (cp2 I_15 z a0 0 0 (min i1 (((kd_15 a0).2 : Nat) : Int))) (fun I_28 => (some ((z, z_15, kd_15, I_28, L_15, R_15), 0, 0)))) else none) else none) else none) else none) else none) else none) else none)))))))))))) else none)) else none) else none)) P_) : Ev (fun n => kf_109 n dp 0 z kd I L R i1 a0) P_ := Ev_step (fun n => ke_109_0 n dp z kd I L R i1 a0) h
set_option maxRecDepth 100000 in
theorem ev_108_0 {dp : Nat} {z : Nat} {kd : (Nat → Nat × Nat)} {I : JI} {L : JI} {R : (Nat → Nat → Option Nat)} {P_ : (PSi × Nat × Nat) → Prop} (h : Ev (fun n => ((R 44 4).bind (fun b_1 => (if (b_1 < z) ∧ ((kd b_1).1 = 13) then (if ((kd b_1).2 < 2147483648) ∧ (-2147483648 ≤ (((kd b_1).2 : Nat) : Int) * 2 ∧ (((kd b_1).2 : Nat) : Int) * 2 ≤ 2147483647) then (stI ((((kd b_1).2 : Nat) : Int) * 2) (fun v_7 => ((R 44 4).bind (fun b_10 => (if 1 ≤ dp then ((kf_109 n (dp - 1) 0 z kd I L R v_7 b_10).bind (fun ⟨⟨x_14, z_14, kd_14, I_14, L_14, R_14⟩, ck_14, cm_14⟩ => (adk ck_14 cm_14 (stI (u2 R_14 44 4 (some x_14)) (fun R_17 => ((R_17 44 5).bind (fun b_22 => (if 1 ≤ dp then ((kf_109 n (dp - 1) 0 z_14 kd_14 I_14 L_14 R_17 v_7 b_22).bind (fun ⟨⟨x_26, z_26, kd_26, I_26, L_26, R_26⟩, ck_26, cm_26⟩ => (adk ck_26 cm_26 (stI (u2 R_26 44 5 (some x_26)) (fun R_29 => ((R_29 44 6).bind (fun b_34 => (if 1 ≤ dp then ((kf_109 n (dp - 1) 0 z_26 kd_26 I_26 L_26 R_29 v_7 b_34).bind (fun ⟨⟨x_38, z_38, kd_38, I_38, L_38, R_38⟩, ck_38, cm_38⟩ => (adk ck_38 cm_38 (stI (u2 R_38 44 6 (some x_38)) (fun R_41 => (some ((z_38, kd_38, I_38, L_38, R_41), 0, 0))))))) else none)))))))) else none)))))))) else none))))) else none) else none)))) P_) : Ev (fun n => kf_108 n dp 0 z kd I L R) P_ := Ev_step (fun n => ke_108_0 n dp z kd I L R) h
end
/-! THE CLASS'S PLANS: the layers' arrays grow -/
/-- what was before stands as it was, but for the layers' own -/
def LyT (b4 b5 b6 b7 z : Nat) (kd : KD) (J M : JI) (R : RF) (c4 c5 c6 c7 z' : Nat) (kd' : KD) (J' M' : JI) (R' : RF) : Prop := z ≤ z' ∧ (∀ a, a < z → kd' a = kd a ∧ (∀ j, ¬ (a = 44 ∧ 4 ≤ j ∧ j ≤ 7) → R' a j = R a j) ∧ (∀ i, ¬ (a = 44 ∧ (i = 3 ∨ i = 8 ∨ i = 9)) → ¬ (a = 45 ∨ a = 46) → ¬ (a = b4 ∨ a = b5 ∨ a = b6 ∨ a = b7) → J' a i = J a i) ∧ ∀ i, M' a i = M a i) ∧ (c4 = b4 ∨ z ≤ c4) ∧ (c5 = b5 ∨ z ≤ c5) ∧ (c6 = b6 ∨ z ≤ c6) ∧ (c7 = b7 ∨ z ≤ c7)
theorem LyT_t {b4 b5 b6 b7 c4 c5 c6 c7 f4 f5 f6 f7 z z1 z2 : Nat} {kd kd1 kd2 : KD} {J M J1 M1 J2 M2 : JI} {R R1 R2 : RF} (h : LyT b4 b5 b6 b7 z kd J M R c4 c5 c6 c7 z1 kd1 J1 M1 R1) (g : LyT c4 c5 c6 c7 z1 kd1 J1 M1 R1 f4 f5 f6 f7 z2 kd2 J2 M2 R2) : LyT b4 b5 b6 b7 z kd J M R f4 f5 f6 f7 z2 kd2 J2 M2 R2 := by
  obtain ⟨h1, h2, h4, h5, h6, h7⟩ := h
  obtain ⟨g1, g2, g4, g5, g6, g7⟩ := g
  have tr : ∀ {b c f : Nat}, (c = b ∨ z ≤ c) → (f = c ∨ z1 ≤ f) → f = b ∨ z ≤ f := fun {b c f} x y => by
    clear h2 g2 h4 h5 h6 h7 g4 g5 g6 g7
    omega
  have nt : ∀ {a b c : Nat}, a < z → (c = b ∨ z ≤ c) → ¬ a = b → ¬ a = c := fun {a b c} ha x y => by
    clear h2 g2 h4 h5 h6 h7 g4 g5 g6 g7
    omega
  refine ⟨Nat.le_trans h1 g1, fun a ha => ?_, tr h4 g4, tr h5 g5, tr h6 g6, tr h7 g7⟩
  obtain ⟨p1, p2, p3, p4⟩ := h2 a ha
  obtain ⟨q1, q2, q3, q4⟩ := g2 a (Nat.lt_of_lt_of_le ha h1)
  refine ⟨q1.trans p1, fun j x => (q2 j x).trans (p2 j x), fun i x y w => (q3 i x y ?_).trans (p3 i x y w), fun i => (q4 i).trans (p4 i)⟩
  rintro (k | k | k | k)
  · exact nt ha h4 (fun e => w (Or.inl e)) k
  · exact nt ha h5 (fun e => w (Or.inr (Or.inl e))) k
  · exact nt ha h6 (fun e => w (Or.inr (Or.inr (Or.inl e)))) k
  · exact nt ha h7 (fun e => w (Or.inr (Or.inr (Or.inr e)))) k
theorem LyT_r {b4 b5 b6 b7 z : Nat} {kd : KD} {J M : JI} {R : RF} : LyT b4 b5 b6 b7 z kd J M R b4 b5 b6 b7 z kd J M R := ⟨Nat.le_refl _, fun _ _ => ⟨rfl, fun _ _ => rfl, fun _ _ _ _ => rfl, fun _ => rfl⟩, Or.inl rfl, Or.inl rfl, Or.inl rfl, Or.inl rfl⟩
/-- how much was made: cells and slots -/
def Pot (len sl CK CM : Nat) : Prop := ∃ i j : Nat, 256 * 2 ^ i ≤ len ∧ 2 ^ j ≤ sl ∧ CK ≤ 3 * i + j ∧ CM ≤ 6 * len + 2 * sl
def PotS (len sl len' sl' ck cm : Nat) : Prop := ∀ CK CM, Pot len sl CK CM → Pot len' sl' (CK + ck) (CM + cm)
theorem PotS_r {len sl : Nat} : PotS len sl len sl 0 0 := fun _ _ h => h
theorem PotS_t {len sl len1 sl1 len2 sl2 a b c d : Nat} (h : PotS len sl len1 sl1 a b) (g : PotS len1 sl1 len2 sl2 c d) : PotS len sl len2 sl2 (c + a) (d + b) := fun CK CM q => by
  have := g _ _ (h _ _ q)
  rw [show CK + (c + a) = CK + a + c by omega, show CM + (d + b) = CM + b + d by omega]
  exact this
theorem PotS_g {len sl : Nat} : PotS len sl (2 * len) sl 3 (6 * len) := by
  rintro CK CM ⟨i, j, h1, h2, h3, h4⟩
  refine ⟨i + 1, j, ?_, h2, by omega, by omega⟩
  rw [Nat.pow_succ]
  omega
section KG
variable {z : Nat} {kd : KD} {J M : JI} {R : RF}
theorem K109 {dp : Nat} {a0 len : Nat} (hd : 1 ≤ dp) (h : arO (z, kd, R) a0 len) (hl : 1 ≤ len ∧ len ≤ 1000000) : Ev (fun n => kf_109 n dp 0 z kd J M R ((2 * len : Nat) : Int) a0) (fun q => q = ((z, z + 1, va_up kd z (13, 2 * len), cp2 (nw2 J z) z a0 0 0 len, nw2 M z, va_up R z (fun _ => none)), 1, 2 * len)) := by
  obtain ⟨h1, h2, h3⟩ := h
  dsimp only at h1 h2 h3
  have k1 : va_up kd z (13, 2 * len) a0 = kd a0 := vu_n (by omega)
  have k2 : va_up kd z (13, 2 * len) z = (13, 2 * len) := vu_same
  refine ev_109_0 ?_
  rw [h3, show (((2 * len : Nat) : Int)).toNat = 2 * len by omega]
  refine Ev_t ⟨h1, h2⟩ (Ev_t (by omega) (Ev_f (by omega) (Ev_t (by omega) (Ev_adk (Ev_st (Ev_st (Ev_st (Ev_st (Ev_st ?_)))))))))
  rw [k1, k2, h3, show min (((2 * len : Nat) : Int)) ((len : Nat) : Int) = len by omega]
  refine Ev_t ⟨by omega, h2⟩ (Ev_t hd (Ev_t ⟨by omega, h2⟩ (Ev_t ⟨by omega, rfl⟩ (Ev_t (by omega) (Ev_t ⟨⟨by omega, by omega, by omega, by omega, by dsimp only; omega⟩, hd⟩ (Ev_t (by omega) (Ev_st (Ev_ret ?_))))))))
  rw [Nat.zero_add, Nat.zero_add]
theorem cp2_n {f : JI} {b a : Nat} {sp dp m : Int} {c : Nat} {j : Int} (h : ¬ c = b) : cp2 f b a sp dp m c j = f c j := by unfold cp2; rw [if_neg (fun z => h z.1)]
theorem nw_n {f : JI} {a b : Nat} {j : Int} (h : ¬ b = a) : nw2 f a b j = f b j := by unfold nw2; rw [if_neg h]
theorem K108 {dp : Nat} {b4 b5 b6 b7 len sl : Nat} (hd : 2 ≤ dp) (hz : 144 ≤ z) (h : LyE (z, kd, R) b4 b5 b6 b7 len sl) (hl : len ≤ 262144) : Ev (fun n => kf_108 n dp 0 z kd J M R) (fun q => ∃ kd' J' M' R', q = ((z + 3, kd', J', M', R'), 3, 6 * len) ∧ LyE (z + 3, kd', R') z (z + 1) (z + 2) b7 (2 * len) sl ∧ LyT b4 b5 b6 b7 z kd J M R z (z + 1) (z + 2) b7 (z + 3) kd' J' M' R' ∧ (∀ a i, a < z → J' a i = J a i) ∧ ∀ i : Int, 0 ≤ i → i < len → J' z i = J b4 i ∧ J' (z + 1) i = J b5 i ∧ J' (z + 2) i = J b6 i) := by
  obtain ⟨⟨r4, r5, r6, r7⟩, ⟨y4, y5, y6, y7⟩, ⟨d1, d2, d3, d4, d5, d6⟩, ⟨o4, o5, o6, o7⟩, ⟨⟨l1, l2⟩, lP⟩, l3, l4⟩ := h
  dsimp only at r4 r5 r6 r7
  have t4 : b4 < z := y4.1
  have t5 : b5 < z := y5.1
  have t6 : b6 < z := y6.1
  have t7 : b7 < z := y7.1
  refine ev_108_0 ?_
  have e4 : (kd b4).2 = len := y4.2.2
  refine Ev_R r4 ?_
  rw [e4, show ((len : Nat) : Int) * 2 = ((2 * len : Nat) : Int) by omega]
  refine Ev_t ⟨y4.1, y4.2.1⟩ (Ev_t (by omega) (Ev_st (Ev_R r4 (Ev_t (by omega) (Ev_bind (K109 (by omega) y4 (by omega)) ?_)))))
  rintro _ rfl
  dsimp only
  have a5 : arO (z + 1, va_up kd z (13, 2 * len), u2 (va_up R z fun x => none) 44 4 (some z)) b5 len := ⟨by show b5 < z + 1; omega, by show (va_up kd z _ b5).1 = 13; rw [vu_n (by omega)]; exact y5.2.1, by show (va_up kd z _ b5).2 = len; rw [vu_n (by omega)]; exact y5.2.2⟩
  have q5 : u2 (va_up R z fun x => none) 44 4 (some z) 44 5 = some b5 := by unfold u2; rw [vu_same, vu_n (by decide), vu_n (by omega)]; exact r5
  refine Ev_adk (Ev_st (Ev_R q5 (Ev_t (by omega) (Ev_bind (K109 (by omega) a5 (by omega)) ?_))))
  rintro _ rfl
  dsimp only
  generalize hR1 : u2 (va_up R z fun x => none) 44 4 (some z) = R1 at *
  have f1 : ∀ a, a < z → ∀ j, ¬ (a = 44 ∧ j = 4) → R1 a j = R a j := fun a ha j hj => by
    rw [← hR1]
    unfold u2
    by_cases c : a = 44
    · subst c
      rw [vu_same, vu_n (by omega), vu_n (by omega)]
    · rw [vu_n c, vu_n (by omega)]
  have g1 : R1 44 4 = some z := by rw [← hR1]; unfold u2; rw [vu_same, vu_same]
  generalize hR2 : u2 (va_up R1 (z + 1) fun x => none) 44 5 (some (z + 1)) = R2 at *
  have f2 : ∀ a, a < z → ∀ j, ¬ (a = 44 ∧ j = 5) → R2 a j = R1 a j := fun a ha j hj => by
    rw [← hR2]
    unfold u2
    by_cases c : a = 44
    · subst c
      rw [vu_same, vu_n (by omega), vu_n (by omega)]
    · rw [vu_n c, vu_n (by omega)]
  have g2 : R2 44 5 = some (z + 1) := by rw [← hR2]; unfold u2; rw [vu_same, vu_same]
  have a6 : arO (z + 1 + 1, va_up (va_up kd z (13, 2 * len)) (z + 1) (13, 2 * len), R2) b6 len := ⟨by show b6 < z + 1 + 1; omega, by show (va_up (va_up kd z (13, 2 * len)) (z + 1) (13, 2 * len) b6).1 = 13; rw [vu_n (by omega), vu_n (by omega)]; exact y6.2.1, by show (va_up (va_up kd z (13, 2 * len)) (z + 1) (13, 2 * len) b6).2 = len; rw [vu_n (by omega), vu_n (by omega)]; exact y6.2.2⟩
  have q6 : R2 44 6 = some b6 := by rw [f2 44 (by omega) 6 (by omega), f1 44 (by omega) 6 (by omega)]; exact r6
  refine Ev_adk (Ev_st (Ev_R q6 ?_))
  refine Ev_t (by omega) (Ev_bind (K109 (by omega) a6 (by omega)) ?_)
  rintro _ rfl
  dsimp only
  generalize hR3 : u2 (va_up R2 (z + 1 + 1) fun x => none) 44 6 (some (z + 1 + 1)) = R3 at *
  have f3 : ∀ a, a < z → ∀ j, ¬ (a = 44 ∧ j = 6) → R3 a j = R2 a j := fun a ha j hj => by
    rw [← hR3]
    unfold u2
    by_cases c : a = 44
    · subst c
      rw [vu_same, vu_n (by omega), vu_n (by omega)]
    · rw [vu_n c, vu_n (by omega)]
  have g3 : R3 44 6 = some (z + 2) := by rw [← hR3]; unfold u2; rw [vu_same, vu_same]
  refine Ev_adk (Ev_st ?_)
  have hk : ∀ a, a < z → va_up (va_up (va_up kd z (13, 2 * len)) (z + 1) (13, 2 * len)) (z + 1 + 1) (13, 2 * len) a = kd a := fun a ha => by rw [vu_n (by omega), vu_n (by omega), vu_n (by omega)]
  have hJ : ∀ (a : Nat) (i : Int), a < z → cp2 (nw2 (cp2 (nw2 (cp2 (nw2 J z) z b4 0 0 len) (z + 1)) (z + 1) b5 0 0 len) (z + 1 + 1)) (z + 1 + 1) b6 0 0 len a i = J a i := fun a i ha => by
    rw [cp2_n (by omega), nw_n (by omega), cp2_n (by omega), nw_n (by omega), cp2_n (by omega), nw_n (by omega)]
  have fR : ∀ a, a < z → ∀ j, ¬ (a = 44 ∧ 4 ≤ j ∧ j ≤ 6) → R3 a j = R a j := fun a ha j hj => by rw [f3 a ha j (by omega), f2 a ha j (by omega), f1 a ha j (by omega)]
  have ao : ∀ a n, arO (z, kd, R) a n → arO (z + 3, va_up (va_up (va_up kd z (13, 2 * len)) (z + 1) (13, 2 * len)) (z + 1 + 1) (13, 2 * len), R3) a n := fun a n q => by
    have q1 : a < z := q.1
    exact ⟨by show a < z + 3; omega, by show (va_up (va_up (va_up kd z (13, 2 * len)) (z + 1) (13, 2 * len)) (z + 1 + 1) (13, 2 * len) a).1 = 13; rw [hk a q1]; exact q.2.1, by show (va_up (va_up (va_up kd z (13, 2 * len)) (z + 1) (13, 2 * len)) (z + 1 + 1) (13, 2 * len) a).2 = n; rw [hk a q1]; exact q.2.2⟩
  refine Ev_ret ⟨_, _, _, _, by rw [show 0 + 1 + 1 + 1 = 3 by rfl, show 0 + 2 * len + 2 * len + 2 * len = 6 * len by omega], ?_, ?_, hJ, ?_⟩
  · refine ⟨⟨?_, ?_, g3, ?_⟩, ⟨⟨?_, ?_, ?_⟩, ⟨?_, ?_, ?_⟩, ⟨?_, ?_, ?_⟩, ao _ _ y7⟩, by omega, ⟨by omega, by omega, by omega, o7⟩, ⟨⟨by omega, by omega⟩, (lenP_2 lP (by omega)).2⟩, l3, l4⟩
    · show R3 44 4 = some z
      rw [f3 44 (by omega) 4 (by omega), f2 44 (by omega) 4 (by omega)]; exact g1
    · show R3 44 5 = some (z + 1)
      rw [f3 44 (by omega) 5 (by omega)]; exact g2
    · show R3 44 7 = some b7
      rw [fR 44 (by omega) 7 (by omega)]; exact r7
    · show z < z + 3; omega
    · show (va_up (va_up (va_up kd z (13, 2 * len)) (z + 1) (13, 2 * len)) (z + 1 + 1) (13, 2 * len) z).1 = 13; rw [vu_n (by omega), vu_n (by omega), vu_same]
    · show (va_up (va_up (va_up kd z (13, 2 * len)) (z + 1) (13, 2 * len)) (z + 1 + 1) (13, 2 * len) z).2 = 2 * len; rw [vu_n (by omega), vu_n (by omega), vu_same]
    · show z + 1 < z + 3; omega
    · show (va_up (va_up (va_up kd z (13, 2 * len)) (z + 1) (13, 2 * len)) (z + 1 + 1) (13, 2 * len) (z + 1)).1 = 13; rw [vu_n (by omega), vu_same]
    · show (va_up (va_up (va_up kd z (13, 2 * len)) (z + 1) (13, 2 * len)) (z + 1 + 1) (13, 2 * len) (z + 1)).2 = 2 * len; rw [vu_n (by omega), vu_same]
    · show z + 2 < z + 3; omega
    · show (va_up (va_up (va_up kd z (13, 2 * len)) (z + 1) (13, 2 * len)) (z + 1 + 1) (13, 2 * len) (z + 1 + 1)).1 = 13; rw [vu_same]
    · show (va_up (va_up (va_up kd z (13, 2 * len)) (z + 1) (13, 2 * len)) (z + 1 + 1) (13, 2 * len) (z + 1 + 1)).2 = 2 * len; rw [vu_same]
  · refine ⟨by omega, fun a ha => ⟨hk a ha, fun j hj => fR a ha j (by omega), fun i _ _ _ => hJ a i ha, fun i => ?_⟩, by omega, by omega, by omega, Or.inl rfl⟩
    rw [nw_n (by omega), nw_n (by omega), nw_n (by omega)]
  · intro i x y
    refine ⟨?_, ?_, ?_⟩
    · rw [cp2_n (by omega), nw_n (by omega), cp2_n (by omega), nw_n (by omega)]
      unfold cp2
      rw [if_pos ⟨rfl, by omega, by omega⟩, nw_n (by omega)]
      congr 1; omega
    · rw [cp2_n (by omega), nw_n (by omega)]
      unfold cp2
      rw [if_pos ⟨rfl, by omega, by omega⟩, nw_n (by omega), if_neg (by omega), nw_n (by omega)]
      congr 1; omega
    · unfold cp2
      rw [if_pos ⟨rfl, by omega, by omega⟩, nw_n (by omega), if_neg (by omega), nw_n (by omega), if_neg (by omega), nw_n (by omega)]
      congr 1; omega
end KG
