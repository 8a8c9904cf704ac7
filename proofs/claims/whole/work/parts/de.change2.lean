section
set_option maxRecDepth 100000 in
theorem ev_135_0 {dp : Nat} {e : EN} {I : JI} {L : JI} {i1 : Int} {P_ : (Int × JI × JI) → Prop} (h : Ev (fun n => (if 1 ≤ dp then ((kf_121 n (dp - 1) e 0 I L i1).bind (fun ⟨x0_12, I0_12, L0_12⟩ => (if 0 ≤ i1 ∧ i1 < 8 then (if (-2147483648 ≤ x0_12 * 64 ∧ x0_12 * 64 ≤ 2147483647) ∧ (-2147483648 ≤ (x0_12 * 64) + (I0_12 55 i1) ∧ (x0_12 * 64) + (I0_12 55 i1) ≤ 2147483647) then (if 0 ≤ ((x0_12 * 64) + (I0_12 55 i1)) ∧ ((x0_12 * 64) + (I0_12 55 i1)) < 192 then (some (((I0_12 31 ((x0_12 * 64) + (I0_12 55 i1))) : Int), I0_12, L0_12)) else none) else none) else none))) else none)) P_) : Ev (fun n => kf_135 n dp e 0 I L i1) P_ := Ev_step (fun n => ke_135_0 n dp e I L i1) h
set_option maxRecDepth 100000 in
theorem ev_134_1 {dp : Nat} {z : Nat} {kd : (Nat → Nat × Nat)} {I : JI} {L : JI} {R : (Nat → Nat → Option Nat)} {i1 : Int} {i2 : Int} {i3 : Int} {i4 : Int} {i5 : Int} {P_ : (PSi × Nat × Nat) → Prop} (h : Ev (fun n => (if i5 ≤ i4 then (if 1 ≤ dp then ((kf_121 n (dp - 1) (z, kd, R) 0 I L i4).bind (fun ⟨x_164, I_164, L_164⟩ => (if 1 ≤ dp then ((kf_135 n (dp - 1) (z, kd, R) 0 I_164 L_164 i4).bind (fun ⟨x_170, I_170, L_170⟩ => (if 1 ≤ dp then ((kf_115 n (dp - 1) (z, kd, R) 0 I_170 L_170 x_164 x_170 0 0 0 0 0 0 0).bind (fun ⟨I_173, L_173⟩ => (if 1 ≤ dp then ((kf_103 n (dp - 1) 0 z kd I_173 L_173 R).bind (fun ⟨⟨z_180, kd_180, I_180, L_180, R_180⟩, ck_180, cm_180⟩ => (adk ck_180 cm_180 (if 0 ≤ i1 ∧ i1 < 3 then (if -2147483647 ≤ (I_180 44 8) then (stI (w2 I_180 57 i1 (Int.tdiv (I_180 44 8) 16)) (fun I_198 => (if 0 ≤ i1 ∧ i1 < 3 then (if (-2147483648 ≤ i2 - 1 ∧ i2 - 1 ≤ 2147483647) ∧ (-2147483647 ≤ (I_198 44 8)) ∧ (-2147483648 ≤ (i2 - 1) - (Int.tmod (I_198 44 8) 16) ∧ (i2 - 1) - (Int.tmod (I_198 44 8) 16) ≤ 2147483647) then (stI (w2 I_198 56 i1 ((i2 - 1) - (Int.tmod (I_198 44 8) 16))) (fun I_218 => (some ((z_180, kd_180, I_218, L_180, R_180), 0, 0)))) else none) else none))) else none) else none)))) else none))) else none))) else none))) else none) else (if i5 = i3 then (kf_134 n dp 2 z kd I L R i1 i2 i3 i4 i5) else (if 1 ≤ dp then ((kf_121 n (dp - 1) (z, kd, R) 0 I L i5).bind (fun ⟨x_136, I_136, L_136⟩ => (if 1 ≤ dp then ((kf_135 n (dp - 1) (z, kd, R) 0 I_136 L_136 i5).bind (fun ⟨x_142, I_142, L_142⟩ => (if 1 ≤ dp then ((kf_107 n (dp - 1) 0 z kd I_142 L_142 R x_136 x_142 0 0 0).bind (fun ⟨⟨z_145, kd_145, I_145, L_145, R_145⟩, ck_145, cm_145⟩ => (adk ck_145 cm_145 (kf_134 n dp 2 z_145 kd_145 I_145 L_145 R_145 i1 i2 i3 i4 i5)))) else none))) else none))) else none)))) P_) : Ev (fun n => kf_134 n dp 1 z kd I L R i1 i2 i3 i4 i5) P_ := Ev_step (fun n => ke_134_1 n dp z kd I L R i1 i2 i3 i4 i5) h
set_option maxRecDepth 100000 in
theorem ev_134_2 {dp : Nat} {z : Nat} {kd : (Nat → Nat × Nat)} {I : JI} {L : JI} {R : (Nat → Nat → Option Nat)} {i1 : Int} {i2 : Int} {i3 : Int} {i4 : Int} {i5 : Int} {P_ : (PSi × Nat × Nat) → Prop} (h : Ev (fun n => (if -2147483648 ≤ i5 + (-1) ∧ i5 + (-1) ≤ 2147483647 then (kf_134 n dp 1 z kd I L R i1 i2 i3 i4 (i5 + (-1))) else none)) P_) : Ev (fun n => kf_134 n dp 2 z kd I L R i1 i2 i3 i4 i5) P_ := Ev_step (fun n => ke_134_2 n dp z kd I L R i1 i2 i3 i4 i5) h
end
/-! PLANS: findChange -/
theorem ofC_c {J J' : JI} {c : Nat} {fv : Int} (h4 : J' 4 = J 4) (hc : J' (58 + 5 * c) 4 = J (58 + 5 * c) 4) (h2 : J' (58 + 5 * c + 2) = J (58 + 5 * c + 2)) (h31 : J' 31 = J 31) : ofC J' c fv = ofC J c fv := by
  unfold ofC gnC lfC ovK
  rw [h4, hc, h2, h31]
section KH
variable {b4 b5 b6 b7 len sl : Nat}
theorem K135 {dp : Nat} {e : EN} {J L : JI} {i l N : Nat} (hd : 1 ≤ dp) (hv : vlP (J 2 0) (J 2 1) (J 2 2)) (hN : J 2 0 + J 2 1 + J 2 2 = N) (hl : i + l + 1 = N) (hN8 : N ≤ 8) (hf : 0 ≤ J 55 i ∧ J 55 i < 64) : Ev (fun n => kf_135 n dp e 0 J L i) (fun r => r = (J 31 ((clR (J 2 1) (J 2 2) l : Int) * 64 + J 55 i), J, L)) := by
  have c3 := clR_3 (b := J 2 1) (c := J 2 2) (i := l)
  refine ev_135_0 ?_
  refine Ev_t (by omega) (Ev_bind (K121 hv hN hl) ?_)
  rintro _ rfl
  exact Ev_t (by omega) (Ev_t (by omega) (Ev_t (by omega) (Ev_ret rfl)))
variable {rn : Nat} {od : Nat → Int}
/-- which layer carcass i stands in, if g is out -/
def dpX (N g i : Nat) : Nat := if i < g then N - 2 - i else N - 1 - i
def clX (J : JI) (c : Nat) (D : Nat) : Nat := clR (J 2 1 - oneL c 1) (J 2 2 - oneL c 2) D
def kX (J : JI) (c : Nat) (D : Nat) : Int := J 55 (if J 2 0 + J 2 1 + J 2 2 - 2 - (D : Int) < goI J c then J 2 0 + J 2 1 + J 2 2 - 2 - D else J 2 0 + J 2 1 + J 2 2 - 1 - D)
theorem clX_e {J : JI} {c N g i : Nat} (hv : vlP (J 2 0) (J 2 1) (J 2 2)) (hN : J 2 0 + J 2 1 + J 2 2 = N) (hc : c < 3) (hc0 : 0 < J 2 c) (hg : goI J c = g) (hi : i < N) (hig : ¬ i = g) : clR (J 2 1) (J 2 2) (N - 1 - i) = clX J c (dpX N g i) ∧ kX J c (dpX N g i) = J 55 i ∧ dpX N g i < N - 1 := by
  unfold vlP at hv
  unfold goI at hg
  have gN : (g : Int) < N := by
    rcases (show c = 0 ∨ c = 1 ∨ c = 2 by omega) with rfl | rfl | rfl
    · simp only [if_true] at hg; omega
    · simp only [Nat.one_ne_zero, if_true, if_false] at hg; omega
    · simp only [Nat.reduceEqDiff, if_false] at hg; omega
  refine ⟨?_, ?_, ?_⟩
  · unfold clX clR dpX oneL
    rcases (show c = 0 ∨ c = 1 ∨ c = 2 by omega) with rfl | rfl | rfl
    · simp only [if_true, if_false, Nat.reduceEqDiff, Int.natCast_zero] at hg hc0 ⊢
      (repeat' split) <;> omega
    · simp only [if_true, if_false, Nat.reduceEqDiff, Int.natCast_one] at hg hc0 ⊢
      (repeat' split) <;> omega
    · simp only [if_true, if_false, Nat.reduceEqDiff, Int.cast_ofNat_Int] at hg hc0 ⊢
      (repeat' split) <;> omega
  · unfold kX dpX goI
    congr 1
    rw [hg]
    by_cases q : i < g
    · rw [if_pos q, if_pos (by omega)]; omega
    · rw [if_neg q, if_neg (by omega)]; omega
  · unfold dpX
    split <;> omega
/-- what findChange leaves -/
def FcQ (rn : Nat) (od : Nat → Int) (b4 b5 b6 b7 z : Nat) (kd : KD) (J M : JI) (R : RF) (c N : Nat) (len1 sl1 : Nat) (q : (Nat × KD × JI × JI × RF) × Nat × Nat) : Prop := ∃ (z' : Nat) (kd' : KD) (J' M' : JI) (R' : RF) (c4 c5 c6 c7 len' sl' : Nat), q.1 = (z', kd', J', M', R') ∧ LyE (z', kd', R') c4 c5 c6 c7 len' sl' ∧ FrGx (fun a i => X0 a i ∨ ((a = 56 ∨ a = 57) ∧ i = c)) b4 b5 b6 b7 z kd J M R c4 c5 c6 c7 z' kd' J' M' R' ∧ LyA rn od (wnC J) J' c4 c5 c6 len' (fun _ => of0 J 0) 0 ∧ prL (fun k => wnC J (od k) + 1) rn ≤ sl' ∧ (∀ p : Int, 0 ≤ p → p < sl' → J' c7 p = 0) ∧ MxB (Sq (lyL (fun D => ofC J (clX J c D) (J 31 ((clX J c D : Int) * 64 + kX J c D))) (N - 1))) (vT (wnC J) (bnC J) 16 (fun _ => 0)) (16 * J' 57 c + ((N : Int) - 1 - J' 56 c)) ∧ (0 ≤ J' 56 c ∧ J' 56 c ≤ (N : Int) - 1) ∧ (0 ≤ J' 57 c ∧ J' 57 c ≤ 17000000) ∧ PotS len1 sl1 len' sl' q.2.1 q.2.2
set_option maxHeartbeats 2000000 in
theorem K134l {dp z N g c fr : Nat} {kd : KD} {J M : JI} {R : RF} (hd : 5 ≤ dp) (hz : 144 ≤ z) (hP : OfP J rn od) (hsl : prL (fun k => wnC J (od k) + 1) rn ≤ sl) (hv : vlP (J 2 0) (J 2 1) (J 2 2)) (hN : J 2 0 + J 2 1 + J 2 2 = N) (hN2 : 2 ≤ N) (hc : c < 3) (hc0 : 0 < J 2 c) (hg : goI J c = g) (hgN : g < N) (hK : PlK J (J 2 0) (J 2 1) (J 2 2)) (fo : fOk J (fun i => J 55 i) N) (ow : (b4 = 47 ∨ 144 ≤ b4) ∧ (b5 = 48 ∨ 144 ≤ b5) ∧ (b6 = 49 ∨ 144 ≤ b6) ∧ (b7 = 50 ∨ 144 ≤ b7)) (hfr : fr = if g = 0 then 1 else 0) : ∀ (k i : Nat), i = fr + k → i < N → ∀ (z1 : Nat) (kd1 : KD) (J1 M1 : JI) (R1 : RF) (c4 c5 c6 len1 : Nat), LyE (z1, kd1, R1) c4 c5 c6 b7 len1 sl → LyT b4 b5 b6 b7 z kd J M R c4 c5 c6 b7 z1 kd1 J1 M1 R1 → LyA rn od (wnC J) J1 c4 c5 c6 len1 (fun D => ofC J (clX J c D) (J 31 ((clX J c D : Int) * 64 + kX J c D))) (dpX N g i) → (∀ p : Int, 0 ≤ p → p < sl → J1 b7 p = 0) → Ev (fun n => kf_134 n dp 1 z1 kd1 J1 M1 R1 c N g fr i) (FcQ rn od b4 b5 b6 b7 z kd J M R c N len1 sl) := by
  have hv0 := hv
  unfold vlP at hv0
  have N8 : N ≤ 8 := by omega
  /- the offers of each layer -/
  have ofr : ∀ i, i < N → ¬ i = g → clX J c (dpX N g i) < 3 ∧ J (58 + 5 * clX J c (dpX N g i)) 4 ≤ 64 := fun i hi hig => by
    obtain ⟨e1, e2, e3⟩ := clX_e hv hN hc hc0 hg hi hig
    rw [← e1]
    exact PlK_c hK (by omega) hv0.1 hv0.2.1 hv0.2.2.1
  have inv : ∀ D, D < N - 1 → ∃ i, i < N ∧ ¬ i = g ∧ dpX N g i = D := fun D hD => by
    unfold dpX
    by_cases q : N - 2 - D < g
    · exact ⟨N - 2 - D, by omega, by omega, by rw [if_pos q]; omega⟩
    · exact ⟨N - 1 - D, by omega, by omega, by rw [if_neg (by omega)]; omega⟩
  have okl : ∀ D, D < N - 1 → okO J (ofC J (clX J c D) (J 31 ((clX J c D : Int) * 64 + kX J c D))) := fun D hD => by
    obtain ⟨i, i1, i2, rfl⟩ := inv D hD
    obtain ⟨o1, o2⟩ := ofr i i1 i2
    exact okO_C (gn := gnC J (clX J c (dpX N g i)) _) hP o1 o2 (fun k hk => rfl)
  intro k
  induction k with
  | zero =>
    intro i hi hiN z1 kd1 J1 M1 R1 c4 c5 c6 len1 q1 q2 q3 q4
    have hifr : i = fr := by omega
    have hig : ¬ i = g := by rw [hifr, hfr]; split <;> omega
    have hD : dpX N g i = N - 2 := by rw [hifr, hfr]; unfold dpX; split <;> split <;> omega
    obtain ⟨e1, e2, e3⟩ := clX_e hv hN hc hc0 hg hiN hig
    obtain ⟨o1, o2⟩ := ofr i hiN hig
    rw [hD] at e1 e2 o1 o2 q3
    have fr1 : ∀ a i, (1 ≤ a ∧ a < 44) ∨ (51 ≤ a ∧ a ≤ 72) → J1 a i = J a i := fun a i y => (q2.2.1 a (by omega)).2.2.1 i (by omega) (by omega) (by omega)
    have e4 : J1 4 = J 4 := funext fun i => fr1 _ _ (by omega)
    have e31 : J1 31 = J 31 := funext fun i => fr1 _ _ (by omega)
    have ew : wnC J1 = wnC J := by unfold wnC; rw [e4]
    have eb : bnC J1 = bnC J := by unfold bnC; rw [e4]
    have hP1 : OfP J1 rn od := OfP_c (fun a i y => fr1 _ _ (by omega)) hP
    have e2' : ∀ x, J1 2 x = J 2 x := fun x => fr1 _ _ (by omega)
    have f0 := fo i hiN
    dsimp only at f0
    refine ev_134_1 ?_
    have k121 := K121 (dp := dp - 1) (e := (z1, kd1, R1)) (J := J1) (L := M1) (i := i) (N := N) (l := N - 1 - i) (by rw [e2', e2', e2']; exact hv) (by rw [e2', e2', e2']; exact hN) (by omega)
    rw [e2', e2', e1] at k121
    refine Ev_t (by omega) (Ev_t (by omega) (Ev_bind (by rw [← hifr]; exact k121) ?_))
    rintro _ rfl
    dsimp only
    have k135 := K135 (dp := dp - 1) (e := (z1, kd1, R1)) (J := J1) (L := M1) (i := i) (N := N) (l := N - 1 - i) (by omega) (by rw [e2', e2', e2']; exact hv) (by rw [e2', e2', e2']; exact hN) (by omega) N8 (by rw [fr1 _ _ (by omega)]; omega)
    rw [e2', e2', e1, fr1 55 _ (by omega), ← e2, e31] at k135
    refine Ev_t (by omega) (Ev_bind (by rw [← hifr]; exact k135) ?_)
    rintro _ rfl
    dsimp only
    have ec : ofC J1 (clX J c (N - 2)) (J 31 ((clX J c (N - 2) : Int) * 64 + kX J c (N - 2))) = ofC J (clX J c (N - 2)) (J 31 ((clX J c (N - 2) : Int) * 64 + kX J c (N - 2))) := ofC_c e4 (fr1 _ _ (by omega)) (funext fun i => fr1 _ _ (by omega)) e31
    refine Ev_t (by omega) (Ev_bind (S115 (rn := rn) (od := od) (o := fun D => ofC J (clX J c D) (J 31 ((clX J c D : Int) * 64 + kX J c D))) (D := N - 2) (gn := (ofC J1 (clX J c (N - 2)) (J 31 ((clX J c (N - 2) : Int) * 64 + kX J c (N - 2)))).2.1) (by omega) q1 hP1 o1 (by rw [fr1 _ _ (by omega)]; exact o2) (fun k hk => rfl) (fun D hD' => ?_) (by omega) (by rw [ew]; exact q3)) ?_)
    · have := okl D (by omega)
      unfold okO at *
      rw [e4]
      exact this
    rintro ⟨J2, M2⟩ ⟨s1, s2, s3, s4, s5⟩
    dsimp only at s1 s2 s3 s4 s5 ⊢
    subst s1
    have hP2 : OfP J2 rn od := OfP_c (fun a i y => s2 _ _ (by omega)) hP1
    have o7 := q1.2.2.2.1
    have zz := q2.1
    have e42 : J2 4 = J 4 := (funext fun i => s2 _ _ (by omega)).trans e4
    have ew2 : wnC J2 = wnC J := by unfold wnC; rw [e42]
    have s3' : MxH (Sq (lyL (fun D => ofC J (clX J c D) (J 31 ((clX J c D : Int) * 64 + kX J c D))) (N - 1))) (vT (wnC J) (bnC J) 16 (fun _ => 0)) (fun _ => True) (J2 44 8) (J2 44 9) := by
      rw [ew, eb] at s3
      rw [show N - 1 = N - 2 + 1 by omega, lyL]
      have : ofC J (clX J c (N - 2)) (J 31 ((clX J c (N - 2) : Int) * 64 + kX J c (N - 2))) = ((J1 (58 + 5 * clX J c (N - 2)) 4).toNat, (ofC J1 (clX J c (N - 2)) (J 31 ((clX J c (N - 2) : Int) * 64 + kX J c (N - 2)))).2.1, lfC J1 (clX J c (N - 2))) := by rw [← ec]; rfl
      rw [this]
      exact s3
    have hdv : ∃ y t : Int, J2 44 8 = 16 * y + t ∧ 0 ≤ t ∧ t ≤ (N : Int) - 1 := by
      obtain ⟨x, hx, _, vx⟩ := s3'.2.1
      obtain ⟨y, t, h1, h2, h3⟩ := Sq_16f (N - 1) x hx
      have vx : x.1 + 16 * sm (fun p => if 0 < wnC J p then min (wnC J p) (0 + x.2 p) * bnC J p else 0) 10 = J2 44 8 := vx
      exact ⟨y + sm (fun p => if 0 < wnC J p then min (wnC J p) (0 + x.2 p) * bnC J p else 0) 10, t, by omega, h2, by omega⟩
    obtain ⟨y, t, y1, y2, y3⟩ := hdv
    have ed : Int.tdiv (J2 44 8) 16 = y := by rw [Int.tdiv_eq_ediv_of_nonneg s4.1]; omega
    have em : Int.tmod (J2 44 8) 16 = t := by rw [Int.tmod_eq_emod_of_nonneg s4.1]; omega
    refine Ev_t (by omega) (Ev_bind (K103 (M := M2) (rn := rn) (od := od) (wn := wnC J2) (o := fun _ => of0 J 0) (by omega) (by omega) q1 (RtO_o hP2.1.1) hP2.1.2.1 hP2.1.1.2.2.2.2 (fun p x y => by rw [s2 _ _ (by omega)]; exact q4 p x y)) ?_)
    rintro ⟨⟨z2, kd2, J3, M3, R2⟩, ck, cm⟩ ⟨z', kd', J', M', R', c7, sl', w1, w2', w3, w4, w5, w6, w7, w8⟩
    dsimp only at w1 w8 ⊢
    obtain ⟨rfl, rfl, rfl, rfl, rfl⟩ : z2 = z' ∧ kd2 = kd' ∧ J3 = J' ∧ M3 = M' ∧ R2 = R' := by simpa using w1
    have h48 : J3 44 8 = J2 44 8 := w7.2 8 (by omega)
    refine Ev_adk (Ev_t (by omega) ?_)
    simp only [h48, ed]
    refine Ev_t (by omega) (Ev_st (Ev_t (by omega) ?_))
    have h48' : w2 J3 57 c y 44 8 = J2 44 8 := by rw [w2_n (by omega)]; exact h48
    simp only [h48', em]
    refine Ev_t (by omega) (Ev_st (Ev_ret ?_))
    have o72 := w2'.2.2.2.1
    have nn : ∀ a i, ¬ ((a = 56 ∨ a = 57) ∧ i = (c : Int)) → w2 (w2 J3 57 c y) 56 c ((N : Int) - 1 - t) a i = J3 a i := fun a i x => by rw [w2_n (by omega), w2_n (by omega)]
    have v56 : w2 (w2 J3 57 c y) 56 c ((N : Int) - 1 - t) 56 c = (N : Int) - 1 - t := by rw [w2_ap, if_pos ⟨rfl, rfl⟩]
    have v57 : w2 (w2 J3 57 c y) 56 c ((N : Int) - 1 - t) 57 c = y := by rw [w2_n (by omega), w2_ap, if_pos ⟨rfl, rfl⟩]
    generalize w2 (w2 J3 57 c y) 56 c ((N : Int) - 1 - t) = J4 at nn v56 v57 ⊢
    refine ⟨z2, kd2, J4, M3, R2, c4, c5, c6, c7, len1, sl', rfl, w2', ?_, ?_, by rw [← ew2]; exact w5, fun p x y => by rw [nn _ _ (by omega)]; exact w6 p x y, ?_, ?_, ?_, ?_⟩
    · refine FrGx_t (FrGx_m (fun a i x => Or.inl x) (LyT_Gx q2)) (FrGx_t (FrGx_J (J1 := J2) (fun a i x => s2 a i (fun y => x (Or.inl (Or.inl ⟨y.1, Or.inr y.2⟩))))) (FrGx_t (FrGx_m (fun a i x => Or.inl x) (LyT_Gx w3)) (FrGx_J (fun a i x => nn a i (fun y => x (Or.inr y))))))
    · rw [ew2] at w4
      exact LyA_c (Nat.le_refl _) (by rw [nn _ _ (by omega)]; exact w4.1) (fun i => nn _ _ (by omega)) (fun a i x => nn _ _ (by omega)) w4
    · rw [v56, v57]
      have q := MxH_B s3'
      rw [show 16 * y + ((N : Int) - 1 - ((N : Int) - 1 - t)) = J2 44 8 by omega]
      exact q
    · rw [v56]; omega
    · rw [v57]; omega
    · rw [Nat.zero_add, Nat.zero_add]; exact w8
  | succ k ih =>
    intro i hi hiN z1 kd1 J1 M1 R1 c4 c5 c6 len1 q1 q2 q3 q4
    have two : ∀ (z1 : Nat) (kd1 : KD) (J1 M1 : JI) (R1 : RF) (c4 c5 c6 len1 : Nat), LyE (z1, kd1, R1) c4 c5 c6 b7 len1 sl → LyT b4 b5 b6 b7 z kd J M R c4 c5 c6 b7 z1 kd1 J1 M1 R1 → LyA rn od (wnC J) J1 c4 c5 c6 len1 (fun D => ofC J (clX J c D) (J 31 ((clX J c D : Int) * 64 + kX J c D))) (dpX N g (i - 1)) → (∀ p : Int, 0 ≤ p → p < sl → J1 b7 p = 0) → Ev (fun n => kf_134 n dp 2 z1 kd1 J1 M1 R1 c N g fr i) (FcQ rn od b4 b5 b6 b7 z kd J M R c N len1 sl) := by
      intro z1 kd1 J1 M1 R1 c4 c5 c6 len1 q1 q2 q3 q4
      refine ev_134_2 ?_
      refine Ev_t (by omega) ?_
      rw [show (i : Int) + -1 = ((i - 1 : Nat) : Int) by omega]
      exact ih (i - 1) (by omega) (by omega) z1 kd1 J1 M1 R1 c4 c5 c6 len1 q1 q2 q3 q4
    refine ev_134_1 ?_
    refine Ev_f (by omega) ?_
    by_cases hig : i = g
    · refine Ev_t (by omega) (two z1 kd1 J1 M1 R1 c4 c5 c6 len1 q1 q2 ?_ q4)
      have : dpX N g (i - 1) = dpX N g i := by unfold dpX; rw [if_pos (by omega), if_neg (by omega)]; omega
      rw [this]
      exact q3
    · obtain ⟨e1, e2, e3⟩ := clX_e hv hN hc hc0 hg hiN hig
      obtain ⟨o1, o2⟩ := ofr i hiN hig
      have fr1 : ∀ a i, (1 ≤ a ∧ a < 44) ∨ (51 ≤ a ∧ a ≤ 72) → J1 a i = J a i := fun a i y => (q2.2.1 a (by omega)).2.2.1 i (by omega) (by omega) (by omega)
      have e4 : J1 4 = J 4 := funext fun i => fr1 _ _ (by omega)
      have e31 : J1 31 = J 31 := funext fun i => fr1 _ _ (by omega)
      have ew : wnC J1 = wnC J := by unfold wnC; rw [e4]
      have hP1 : OfP J1 rn od := OfP_c (fun a i y => fr1 _ _ (by omega)) hP
      have e2' : ∀ x, J1 2 x = J 2 x := fun x => fr1 _ _ (by omega)
      have f0 := fo i hiN
      dsimp only at f0
      have eD : dpX N g (i - 1) = dpX N g i + 1 := by
        unfold dpX
        split <;> split <;> omega
      have k121 := K121 (dp := dp - 1) (e := (z1, kd1, R1)) (J := J1) (L := M1) (i := i) (N := N) (l := N - 1 - i) (by rw [e2', e2', e2']; exact hv) (by rw [e2', e2', e2']; exact hN) (by omega)
      rw [e2', e2', e1] at k121
      refine Ev_f (by omega) (Ev_t (by omega) (Ev_bind k121 ?_))
      rintro _ rfl
      dsimp only
      have k135 := K135 (dp := dp - 1) (e := (z1, kd1, R1)) (J := J1) (L := M1) (i := i) (N := N) (l := N - 1 - i) (by omega) (by rw [e2', e2', e2']; exact hv) (by rw [e2', e2', e2']; exact hN) (by omega) N8 (by rw [fr1 _ _ (by omega)]; omega)
      rw [e2', e2', e1, fr1 55 _ (by omega), ← e2, e31] at k135
      refine Ev_t (by omega) (Ev_bind k135 ?_)
      rintro _ rfl
      dsimp only
      have ec : ofC J1 (clX J c (dpX N g i)) (J 31 ((clX J c (dpX N g i) : Int) * 64 + kX J c (dpX N g i))) = ofC J (clX J c (dpX N g i)) (J 31 ((clX J c (dpX N g i) : Int) * 64 + kX J c (dpX N g i))) := ofC_c e4 (fr1 _ _ (by omega)) (funext fun i => fr1 _ _ (by omega)) e31
      have zz := q2.1
      refine Ev_t (by omega) (Ev_bind (S107 (rn := rn) (od := od) (D := dpX N g i) (o := fun D => ofC J (clX J c D) (J 31 ((clX J c D : Int) * 64 + kX J c D))) (gn := (ofC J1 (clX J c (dpX N g i)) (J 31 ((clX J c (dpX N g i) : Int) * 64 + kX J c (dpX N g i)))).2.1) (by omega) (by omega) q1 hP1 (by rw [ew]; exact hsl) o1 (by rw [fr1 _ _ (by omega)]; exact o2) (fun k hk => rfl) ?_ (fun D hD' => ?_) (by unfold dpX at *; omega) (by rw [ew]; exact q3) q4) ?_)
      · show ofC J _ _ = _
        rw [← ec]
        rfl
      · have := okl D (by omega)
        unfold okO at *
        rw [e4]
        exact this
      · rintro ⟨⟨z2, kd2, J2, M2, R2⟩, ck, cm⟩ ⟨z', kd', J', M', R', f4, f5, f6, len', w1, w2', w3, w4, w5, w6, w7, w8⟩
        dsimp only at w1 w8 ⊢
        obtain ⟨rfl, rfl, rfl, rfl, rfl⟩ : z2 = z' ∧ kd2 = kd' ∧ J2 = J' ∧ M2 = M' ∧ R2 = R' := by simpa using w1
        rw [ew] at w4
        refine Ev_adk (Ev_mono (two z2 kd2 J2 M2 R2 f4 f5 f6 len' w2' (LyT_t q2 w3) (by rw [eD]; exact w4) w5) ?_)
        rintro q ⟨z', kd', J', M', R', g4, g5, g6, g7, len2, sl2, y1, y2, y3, y4, y5, y6, y7, y8, y9, y10⟩
        exact ⟨z', kd', J', M', R', g4, g5, g6, g7, len2, sl2, y1, y2, y3, y4, y5, y6, y7, y8, y9, PotS_t w8 y10⟩
end KH
