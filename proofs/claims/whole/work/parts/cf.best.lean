section
set_option maxRecDepth 100000 in
theorem ev_104_0 {dp : Nat} {z : Nat} {kd : (Nat → Nat × Nat)} {I : JI} {L : JI} {R : (Nat → Nat → Option Nat)} {i1 : Int} {i2 : Int} {i3 : Int} {P_ : (PSi × Nat × Nat) → Prop} (h : Ev (fun n => (if 1 ≤ dp then ((kf_105 n (dp - 1) (z, kd, R) 0 I L i1 i2 i3 0 0).bind (fun ⟨x_4, I_4, L_4⟩ => (if x_4 = 0 then (stI (w2 I_4 44 8 0) (fun I_19 => (stI (w2 I_19 44 9 1) (fun I_27 => (some ((z, kd, I_27, L_4, R), 0, 0)))))) else (if 1 ≤ dp then (if -2147483648 ≤ x_4 - 1 ∧ x_4 - 1 ≤ 2147483647 then ((kf_106 n (dp - 1) 0 z kd I_4 L_4 R (x_4 - 1) 0 0).bind (fun ⟨⟨z_43, kd_43, I_43, L_43, R_43⟩, ck_43, cm_43⟩ => (adk ck_43 cm_43 (if 0 ≤ (x_4 - 1) ∧ (x_4 - 1) < 8 then (if 1 ≤ dp then ((kf_115 n (dp - 1) (z_43, kd_43, R_43) 0 I_43 L_43 (I_43 54 (x_4 - 1)) (-1) 0 0 0 0 0 0 0).bind (fun ⟨I_60, L_60⟩ => (some ((z_43, kd_43, I_60, L_60, R_43), 0, 0)))) else none) else none)))) else none) else none)))) else none)) P_) : Ev (fun n => kf_104 n dp 0 z kd I L R i1 i2 i3) P_ := Ev_step (fun n => ke_104_0 n dp z kd I L R i1 i2 i3) h
set_option maxRecDepth 100000 in
theorem ev_95_0 {dp : Nat} {z : Nat} {kd : (Nat → Nat × Nat)} {I : JI} {L : JI} {R : (Nat → Nat → Option Nat)} {P_ : (PSi × Nat × Nat) → Prop} (h : Ev (fun n => (if (I 24 14) = 0 then (some ((z, kd, I, L, R), 0, 0)) else (if 1 ≤ dp then ((kf_96 n (dp - 1) (z, kd, R) 0 I L 0).bind (fun ⟨I_19, L_19⟩ => (if 1 ≤ dp then ((kf_103 n (dp - 1) 0 z kd I_19 L_19 R).bind (fun ⟨⟨z_26, kd_26, I_26, L_26, R_26⟩, ck_26, cm_26⟩ => (adk ck_26 cm_26 (stI (w2 I_26 24 14 0) (fun I_31 => (some ((z_26, kd_26, I_31, L_26, R_26), 0, 0))))))) else none))) else none))) P_) : Ev (fun n => kf_95 n dp 0 z kd I L R) P_ := Ev_step (fun n => ke_95_0 n dp z kd I L R) h
end
/-! THE CLASS'S PLANS: solve, loadOffers, bestFor -/
def XS (a : Nat) (i : Int) : Prop := X0 a i ∨ a = 54
def XL (a : Nat) (i : Int) : Prop := X0 a i ∨ (a = 26 ∧ 17 ≤ i ∧ i ≤ 19) ∨ (27 ≤ a ∧ a ≤ 43) ∨ (a = 24 ∧ i = 14)
def XB (a : Nat) (i : Int) : Prop := XS a i ∨ XL a i ∨ (51 ≤ a ∧ a ≤ 53)
theorem LyK_c {J J' : JI} {rn : Nat} {od : Nat → Int} {b4 b5 b6 b7 len sl : Nat} (h4 : ∀ i, J' 4 i = J 4 i) (h3 : J' 44 3 = J 44 3) (h5 : ∀ a i, a = 45 ∨ a = 46 ∨ (58 ≤ a ∧ a ≤ 72) ∨ a = b4 ∨ a = b5 ∨ a = b6 → J' a i = J a i) (h : LyK J rn od b4 b5 b6 b7 len sl) : LyK J' rn od b4 b5 b6 b7 len sl := by
  obtain ⟨hsl, D, hD, hc, hA⟩ := h
  have e4 : J' 4 = J 4 := funext h4
  have ew : wnC J' = wnC J := by unfold wnC; rw [e4]
  refine ⟨by rw [ew]; exact hsl, D, hD, fun i hi => ?_, ?_⟩
  · obtain ⟨c, c1, c2, c3⟩ := hc i hi
    exact ⟨c, c1, by rw [h5 _ _ (by omega)]; exact c2, by rw [h5 _ _ (by omega)]; exact c3⟩
  · rw [ew]
    refine LyA_o (o := fun i => of0 J (J 46 i).toNat) (fun k hk => ?_) (LyA_c (Nat.le_refl _) (by rw [h3]; exact hA.1) (fun i => h5 _ _ (by omega)) (fun a i x => h5 _ _ (by omega)) hA)
    obtain ⟨c, c1, c2, c3⟩ := hc k hk
    rw [h5 46 _ (by omega), c2, show (c : Int).toNat = c by omega]
    exact of0_c e4 (h5 _ _ (by omega)) (funext fun i => h5 _ _ (by omega))
theorem lyC_c {J J' : JI} {a b c : Int} (h4 : ∀ i, J' 4 i = J 4 i) (h5 : ∀ x i, 58 ≤ x → x ≤ 72 → J' x i = J x i) : lyC J' a b c = lyC J a b c := by
  refine lyL_c _ (fun k _ => ?_)
  have : clR b c k < 3 := by unfold clR; (repeat' split) <;> omega
  exact of0_c (funext h4) (h5 _ _ (by omega) (by omega)) (funext fun i => h5 _ _ (by omega) (by omega))
theorem lyC_s {J : JI} {a b c : Int} {n : Nat} (h : a + b + c = (n : Int) + 1) : lyC J a b c = of0 J (clR b c n) :: lyL (fun i => of0 J (clR b c i)) n := by
  unfold lyC
  rw [show (a + b + c).toNat = n + 1 by omega]
  rfl
/-- all is sixteenfold -/
theorem Sq_16 {J : JI} {cl : Nat → Nat} : ∀ n : Nat, ∀ x ∈ Sq (lyL (fun i => of0 J (cl i)) n), ∃ y : Int, x.1 = 16 * y
  | 0, x, hx => by
    have : x = (0, fun _ => 0) := by simpa [lyL, Sq] using hx
    subst this
    exact ⟨0, rfl⟩
  | n + 1, x, hx => by
    obtain ⟨y, hy, rfl⟩ := List.mem_map.1 (show x ∈ (pr (of0 J (cl n)).1 (Sq (lyL (fun i => of0 J (cl i)) n))).map (adX (of0 J (cl n))) from hx)
    obtain ⟨w, hw⟩ := Sq_16 n y.2 (pr_i.1 hy).2
    refine ⟨ovK J (58 + 5 * cl n) y.1 + w, ?_⟩
    show 16 * ovK J (58 + 5 * cl n) y.1 + y.2.1 = _
    omega
section KB
variable {rn : Nat} {od : Nat → Int} {b4 b5 b6 b7 len sl : Nat}
set_option maxHeartbeats 2000000 in
theorem K104 {dp z : Nat} {kd : KD} {J M : JI} {R : RF} {a b c : Int} (hd : 5 ≤ dp) (hz : 144 ≤ z) (hE : LyE (z, kd, R) b4 b5 b6 b7 len sl) (hP : OfP J rn od) (hK : LyK J rn od b4 b5 b6 b7 len sl) (hS : ∀ p : Int, 0 ≤ p → p < sl → J b7 p = 0) (ha : 0 ≤ a) (hb : 0 ≤ b) (hc : 0 ≤ c) (h8 : a + b + c ≤ 8) (hPl : PlK J a b c) : Ev (fun n => kf_104 n dp 0 z kd J M R a b c) (fun q => ∃ (z' : Nat) (kd' : KD) (J' M' : JI) (R' : RF) (c4 c5 c6 len' : Nat), q.1 = (z', kd', J', M', R') ∧ LyE (z', kd', R') c4 c5 c6 b7 len' sl ∧ FrGx XS b4 b5 b6 b7 z kd J M R c4 c5 c6 b7 z' kd' J' M' R' ∧ LyK J' rn od c4 c5 c6 b7 len' sl ∧ (∀ p : Int, 0 ≤ p → p < sl → J' b7 p = 0) ∧ MxH (Sq (lyC J a b c)) (vT (wnC J) (bnC J) 16 (fun _ => 0)) (fun _ => True) (J' 44 8) (J' 44 9) ∧ (0 ≤ J' 44 8 ∧ J' 44 8 ≤ 260000000) ∧ J' 44 9 ≤ 1000000000 ∧ PotS len sl len' sl q.2.1 q.2.2) := by
  have o4 := hE.2.2.2.1
  have y4 : b4 < z := hE.2.1.1.1
  have y5 : b5 < z := hE.2.1.2.1.1
  have y6 : b6 < z := hE.2.1.2.2.1.1
  have y7 : b7 < z := hE.2.1.2.2.2.1
  refine ev_104_0 ?_
  refine Ev_t (by omega) (Ev_bind (K105 (by omega) ha hb hc h8) ?_)
  rintro ⟨x, J1, M1⟩ ⟨r1, r2, r3, r4⟩
  dsimp only at r1 r2 r3 r4 ⊢
  subst r1 r2
  obtain ⟨N, hN⟩ : ∃ N : Nat, a + b + c = N := ⟨(a + b + c).toNat, by omega⟩
  have hP1 : OfP J1 rn od := OfP_c (fun a i y => r3 _ _ (by omega)) hP
  have hK1 : LyK J1 rn od b4 b5 b6 b7 len sl := LyK_c (fun i => r3 _ _ (by omega)) (r3 _ _ (by omega)) (fun a i y => r3 _ _ (by omega)) hK
  have e4 : J1 4 = J 4 := funext fun i => r3 _ _ (by omega)
  have ew : wnC J1 = wnC J := by unfold wnC; rw [e4]
  have eb : bnC J1 = bnC J := by unfold bnC; rw [e4]
  have f1 : FrGx XS b4 b5 b6 b7 z kd J M1 R b4 b5 b6 b7 z kd J1 M1 R := FrGx_J (fun a i y => r3 _ _ (fun e => y (Or.inr e)))
  by_cases c0 : N = 0
  · refine Ev_t (by omega) (Ev_st (Ev_st (Ev_ret ⟨z, kd, _, M1, R, b4, b5, b6, len, rfl, hE, ?_, LyK_c (fun i => ?_) ?_ (fun a i x => ?_) hK1, fun p x y => ?_, ?_, ?_, ?_, PotS_r⟩)))
    · refine FrGx_t f1 (FrGx_J (fun a i y => ?_))
      unfold XS X0 at y
      rw [w2_n (by omega), w2_n (by omega)]
    · rw [w2_n (by omega), w2_n (by omega)]
    · rw [w2_n (by omega), w2_n (by omega)]
    · rw [w2_n (by omega), w2_n (by omega)]
    · rw [w2_n (by omega), w2_n (by omega), r3 _ _ (by omega)]; exact hS p x y
    · rw [w2_n (by omega), w2_ap, if_pos ⟨rfl, rfl⟩, w2_ap, if_pos ⟨rfl, rfl⟩]
      have el : lyC J a b c = [] := by unfold lyC; rw [show (a + b + c).toNat = 0 by omega]; rfl
      have ev : vT (wnC J) (bnC J) 16 (fun _ => 0) ((0 : Int), fun _ : Int => (0 : Int)) = 0 := by
        unfold vT
        dsimp only
        have : ∀ n : Nat, sm (fun p => if 0 < wnC J p then min (wnC J p) (0 + 0) * bnC J p else 0) n = 0 := by
          intro n
          induction n with
          | zero => rfl
          | succ n ih =>
            rw [sm_s, ih]
            split
            · rw [show min (wnC J n) (0 + 0) = 0 by omega, Int.zero_mul]; rfl
            · rfl
        rw [this]
        rfl
      rw [el]
      refine ⟨fun x hx _ => ?_, ⟨(0, fun _ => 0), by simp [Sq], trivial, ev⟩, by decide, ?_⟩
      · have hx : x = (0, fun _ => 0) := by simpa [Sq] using hx
        subst hx
        rw [ev]; exact Int.le_refl _
      · show _ = min 1000000000 ((cP _ [((0 : Int), fun _ : Int => (0 : Int))] : Nat) : Int)
        rw [cP_t ⟨trivial, ev⟩]
        rfl
    · rw [w2_n (by omega), w2_ap, if_pos ⟨rfl, rfl⟩]; decide
    · rw [w2_ap, if_pos ⟨rfl, rfl⟩]; decide
  · obtain ⟨n, rfl⟩ : ∃ n, N = n + 1 := ⟨N - 1, by omega⟩
    have hcl : ∀ i : Nat, i < n + 1 → clR b c i < 3 ∧ J (58 + 5 * clR b c i) 4 ≤ 64 := fun i hi => PlK_c hPl (by omega) ha hb hc
    rw [show a + b + c - 1 = (n : Int) by omega]
    refine Ev_f (by omega) (Ev_t (by omega) (Ev_t (by omega) (Ev_bind (K106 (by omega) hz hE hP1 hK1 (fun p x y => by rw [r3 _ _ (by omega)]; exact hS p x y) (by omega) (fun i hi => ⟨clR b c i, (hcl i (by omega)).1, r4 i (by omega), by rw [r3 _ _ (by omega)]; exact (hcl i (by omega)).2⟩)) ?_)))
    rintro ⟨⟨z2, kd2, J2, M2, R2⟩, ck, cm⟩ ⟨z', kd', J', M', R', f4, f5, f6, len', w1, w2', w3, w4, w5, w6, w7⟩
    dsimp only at w1 w7 ⊢
    obtain ⟨rfl, rfl, rfl, rfl, rfl⟩ : z2 = z' ∧ kd2 = kd' ∧ J2 = J' ∧ M2 = M' ∧ R2 = R' := by simpa using w1
    have fr : ∀ a i, (1 ≤ a ∧ a < 44) ∨ (51 ≤ a ∧ a ≤ 72) → J2 a i = J1 a i := fun a i y => (w3.2.1 a (by omega)).2.2.1 i (by omega) (by omega) (by omega)
    have hP2 : OfP J2 rn od := OfP_c (fun a i y => fr a i (by omega)) hP1
    have e42 : J2 4 = J 4 := (funext fun i => fr _ _ (by omega)).trans e4
    have ew2 : wnC J2 = wnC J := by unfold wnC; rw [e42]
    have eb2 : bnC J2 = bnC J := by unfold bnC; rw [e42]
    have e0 : ∀ c', c' < 3 → of0 J2 c' = of0 J c' := fun c' hc' => of0_c e42 (by rw [fr _ _ (by omega)]; exact r3 _ _ (by omega)) (funext fun i => by rw [fr _ _ (by omega)]; exact r3 _ _ (by omega))
    have e01 : ∀ c', c' < 3 → of0 J1 c' = of0 J c' := fun c' hc' => of0_c e4 (r3 _ _ (by omega)) (funext fun i => r3 _ _ (by omega))
    have hn := hcl n (by omega)
    have en : J2 (58 + 5 * clR b c n) 4 = J (58 + 5 * clR b c n) 4 := by rw [fr _ _ (by omega), r3 _ _ (by omega)]
    have h64 : J2 (58 + 5 * clR b c n) 4 ≤ 64 := by rw [en]; exact hn.2
    have eo : ∀ k, k < n → of0 J (clR b c k) = of0 J1 (J1 54 k).toNat := fun k hk => by
      rw [r4 k (by omega), show ((clR b c k : Nat) : Int).toNat = clR b c k by omega]
      exact (e01 _ (hcl k (by omega)).1).symm
    have w4' : LyA rn od (wnC J2) J2 f4 f5 f6 len' (fun i => of0 J (clR b c i)) n := by
      rw [ew] at w4
      rw [ew2]
      exact LyA_o (fun k hk => eo k hk) w4
    refine Ev_adk (Ev_t (by omega) (Ev_t (by omega) ?_))
    rw [fr 54 _ (by omega), r4 n (by omega)]
    refine Ev_bind (S115 (o := fun i => of0 J (clR b c i)) (gn := (of0 J (clR b c n)).2.1) (D := n) (fv := -1) (by omega) w2' hP2 hn.1 h64 (fun k hk => ?_) (fun i hi => ?_) (by omega) w4') ?_
    · rw [← gnC_0 hP2 hn.1 h64 k hk, ← e0 _ hn.1]
      rfl
    · have := okO_C hP (hcl i (by omega)).1 (hcl i (by omega)).2 (gnC_0 hP (hcl i (by omega)).1 (hcl i (by omega)).2)
      unfold okO at *
      rw [e42]
      exact this
    · rintro ⟨J3, M3⟩ ⟨v1, v2, v3, v4, v5⟩
      dsimp only at v1 v2 v3 v4 v5 ⊢
      subst v1
      have ef := w2'.2.2.2.1
      refine Ev_ret ⟨z2, kd2, J3, M3, R2, f4, f5, f6, len', rfl, w2', ?_, ?_, fun p x y => ?_, ?_, v4, v5, ?_⟩
      · refine FrGx_t f1 (FrGx_t (FrGx_m (fun a i y => Or.inl y) (LyT_Gx w3)) (FrGx_J (fun a i y => v2 a i ?_)))
        unfold XS X0 at y
        omega
      · refine LyK_c (J := J2) (fun i => v2 _ _ (by omega)) (v2 _ _ (by omega)) (fun a i x => v2 _ _ (by omega)) ⟨?_, n, by omega, fun i hi => ⟨clR b c i, (hcl i (by omega)).1, ?_, ?_⟩, ?_⟩
        · rw [ew2]; exact hK.1
        · rw [w6 i hi]; exact r4 i (by omega)
        · rw [fr _ _ (by have := (hcl i (by omega)).1; omega), r3 _ _ (by have := (hcl i (by omega)).1; omega)]; exact (hcl i (by omega)).2
        · refine LyA_o (fun k hk => ?_) w4'
          rw [w6 k hk, r4 k (by omega), show ((clR b c k : Nat) : Int).toNat = clR b c k by omega]
          exact e0 _ (hcl k (by omega)).1
      · rw [v2 _ _ (by omega)]; exact w5 p x y
      · rw [lyC_s (n := n) (by omega)]
        rw [ew2, eb2] at v3
        have : of0 J (clR b c n) = ((J2 (58 + 5 * clR b c n) 4).toNat, (of0 J (clR b c n)).2.1, lfC J2 (clR b c n)) := by
          show of0 J (clR b c n) = ((of0 J2 (clR b c n)).1, (of0 J (clR b c n)).2.1, (of0 J2 (clR b c n)).2.2)
          rw [e0 _ hn.1]
        rw [this]
        exact v3
      · rw [Nat.zero_add, Nat.zero_add]; exact w7
def ShQ (e : EN) : Prop := ShP e ∧ ∀ c : Nat, c < 3 → CtO e (58 + 5 * c) ∧ e.2.2 25 c = some (58 + 5 * c)
/-- loadOffers -/
theorem K95 {dp z : Nat} {kd : KD} {J M : JI} {R : RF} (hd : 5 ≤ dp) (hz : 144 ≤ z) (hQ : ShQ (z, kd, R)) (hE : LyE (z, kd, R) b4 b5 b6 b7 len sl) (hm : mkO J) (hC : ∀ c : Nat, c < 3 → ctK J c) (h14 : J 24 14 = 0 → ∃ rn od, LdO J rn od ∧ LyK J rn od b4 b5 b6 b7 len sl) (hS : ∀ p : Int, 0 ≤ p → p < sl → J b7 p = 0) : Ev (fun n => kf_95 n dp 0 z kd J M R) (fun q => ∃ (z' : Nat) (kd' : KD) (J' M' : JI) (R' : RF) (c7 sl' rn : Nat) (od : Nat → Int), q.1 = (z', kd', J', M', R') ∧ LyE (z', kd', R') b4 b5 b6 c7 len sl' ∧ FrGx XL b4 b5 b6 b7 z kd J M R b4 b5 b6 c7 z' kd' J' M' R' ∧ OfP J' rn od ∧ LyK J' rn od b4 b5 b6 c7 len sl' ∧ (∀ p : Int, 0 ≤ p → p < sl' → J' c7 p = 0) ∧ J' 24 14 = 0 ∧ PotS len sl len sl' q.2.1 q.2.2) := by
  have o4 := hE.2.2.2.1
  have y7 : b7 < z := hE.2.1.2.2.2.1
  refine ev_95_0 ?_
  by_cases c : J 24 14 = 0
  · obtain ⟨rn, od, k1, k2⟩ := h14 c
    exact Ev_t c (Ev_ret ⟨z, kd, J, M, R, b7, sl, rn, od, rfl, hE, FrGx_J (fun _ _ _ => rfl), ⟨k1, hm, hC⟩, k2, hS, c, PotS_r⟩)
  · refine Ev_f c (Ev_t (by omega) (Ev_bind (K96 (by omega) hQ.1 hQ.2 hm hC) ?_))
    rintro ⟨J1, M1⟩ ⟨r1, r2, rn, od, r3⟩
    dsimp only at r1 r2 r3 ⊢
    subst r1
    have e4 : J1 4 = J 4 := funext fun i => r2 _ _ (by omega) (by omega)
    have hm1 : mkO J1 := by unfold mkO wnC at *; rw [e4]; exact hm
    have hC1 : ∀ c : Nat, c < 3 → ctK J1 c := fun c hc => by
      have := hC c hc
      unfold ctK at *
      rw [show J1 (58 + 5 * c) = J (58 + 5 * c) from funext fun i => r2 _ _ (by omega) (by omega), show J1 (58 + 5 * c + 2) = J (58 + 5 * c + 2) from funext fun i => r2 _ _ (by omega) (by omega)]
      exact this
    have hP1 : OfP J1 rn od := ⟨r3, hm1, hC1⟩
    refine Ev_t (by omega) (Ev_bind (K103 (o := fun _ => of0 J1 0) (by omega) hz hE (RtO_o r3.1) r3.2.1 r3.1.2.2.2.2 (fun p x y => by rw [r2 _ _ (by omega) (by omega)]; exact hS p x y)) ?_)
    rintro ⟨⟨z2, kd2, J2, M2, R2⟩, ck, cm⟩ ⟨z', kd', J', M', R', c7, sl', w1, w2', w3, w4, w5, w6, w7, w8⟩
    dsimp only at w1 w8 ⊢
    obtain ⟨rfl, rfl, rfl, rfl, rfl⟩ : z2 = z' ∧ kd2 = kd' ∧ J2 = J' ∧ M2 = M' ∧ R2 = R' := by simpa using w1
    have fr : ∀ a i, (1 ≤ a ∧ a < 44) ∨ (51 ≤ a ∧ a ≤ 72) → J2 a i = J1 a i := fun a i y => (w3.2.1 a (by omega)).2.2.1 i (by omega) (by omega) (by omega)
    have o7 := w2'.2.2.2.1
    have e42 : J2 4 = J1 4 := funext fun i => fr _ _ (by omega)
    refine Ev_adk (Ev_st (Ev_ret ⟨z2, kd2, _, M2, R2, c7, sl', rn, od, rfl, w2', ?_, OfP_c (fun a i y => ?_) hP1, LyK_c (J := J2) (fun i => w2_n (by omega)) (w2_n (by omega)) (fun a i y => w2_n (by omega)) ⟨?_, 0, by omega, fun i hi => absurd hi (by omega), ?_⟩, fun p x y => ?_, ?_, ?_⟩))
    · refine FrGx_t (FrGx_J (fun a i y => r2 a i ?_ ?_)) (FrGx_t (FrGx_m (fun a i y => Or.inl y) (LyT_Gx w3)) (FrGx_J (fun a i y => w2_n ?_)))
      · unfold XL at y; omega
      · unfold XL at y; omega
      · unfold XL at y; omega
    · rw [w2_n (by omega)]; exact fr a i (by omega)
    · have : wnC J2 = wnC J1 := by unfold wnC; rw [e42]
      rw [this]; exact w5
    · have : wnC J2 = wnC J1 := by unfold wnC; rw [e42]
      rw [this]; exact LyA_o (fun k hk => absurd hk (by omega)) w4
    · rw [w2_n (by omega)]; exact w6 p x y
    · rw [w2_ap, if_pos ⟨rfl, rfl⟩]
    · rw [Nat.zero_add, Nat.zero_add]; exact w8
end KB
