section
set_option maxRecDepth 100000 in
theorem ev_121_0 {dp : Nat} {e : EN} {I : JI} {L : JI} {i1 : Int} {P_ : (Int × JI × JI) → Prop} (h : Ev (fun n => (if (I 2 0) ≤ i1 then (if -2147483648 ≤ (I 2 0) + (I 2 1) ∧ (I 2 0) + (I 2 1) ≤ 2147483647 then (if ((I 2 0) + (I 2 1)) ≤ i1 then (some ((2 : Int), I, L)) else (some ((1 : Int), I, L))) else none) else (some ((0 : Int), I, L)))) P_) : Ev (fun n => kf_121 n dp e 0 I L i1) P_ := Ev_step (fun n => ke_121_0 n dp e I L i1) h
set_option maxRecDepth 100000 in
theorem ev_117_0 {dp : Nat} {e : EN} {I : JI} {L : JI} {P_ : (Int × JI × JI) → Prop} (h : Ev (fun n => (if 1 ≤ dp then ((kf_94 n (dp - 1) e 0 I L (I 2 0) (I 2 1) (I 2 2)).bind (fun ⟨x0_31, I0_31, L0_31⟩ => (if 0 ≤ x0_31 ∧ x0_31 < 729 then (some (((I0_31 51 x0_31) : Int), I0_31, L0_31)) else none))) else none)) P_) : Ev (fun n => kf_117 n dp e 0 I L) P_ := Ev_step (fun n => ke_117_0 n dp e I L) h
set_option maxRecDepth 100000 in
theorem ev_118_0 {dp : Nat} {e : EN} {I : JI} {L : JI} {P_ : (Int × JI × JI) → Prop} (h : Ev (fun n => (if 1 ≤ dp then ((kf_94 n (dp - 1) e 0 I L (I 2 0) (I 2 1) (I 2 2)).bind (fun ⟨x0_31, I0_31, L0_31⟩ => (if 0 ≤ x0_31 ∧ x0_31 < 729 then (some (((I0_31 52 x0_31) : Int), I0_31, L0_31)) else none))) else none)) P_) : Ev (fun n => kf_118 n dp e 0 I L) P_ := Ev_step (fun n => ke_118_0 n dp e I L) h
set_option maxRecDepth 100000 in
theorem ev_120_1 {dp : Nat} {z : Nat} {kd : (Nat → Nat × Nat)} {I : JI} {L : JI} {R : (Nat → Nat → Option Nat)} {i1 : Int} {i2 : Int} {i3 : Int} {i4 : Int} {P_ : (PSi × Nat × Nat) → Prop} (h : Ev (fun n => (if i2 ≤ i4 then (if 1 ≤ dp then ((kf_36 n (dp - 1) (z, kd, R) 0 I L (-1) 0 0 56).bind (fun ⟨I_162, L_162⟩ => (stI (w2 I_162 24 15 0) (fun I_167 => (some ((z, kd, I_167, L_162, R), 0, 0)))))) else none) else (if 1 ≤ dp then ((kf_121 n (dp - 1) (z, kd, R) 0 I L i4).bind (fun ⟨x_90, I_90, L_90⟩ => (if 1 ≤ dp then (if (-2147483648 ≤ i2 - 1 ∧ i2 - 1 ≤ 2147483647) ∧ (-2147483648 ≤ (i2 - 1) - i4 ∧ (i2 - 1) - i4 ≤ 2147483647) then ((kf_122 n (dp - 1) (z, kd, R) 0 I_90 L_90 x_90 ((i2 - 1) - i4) i3 i1 0 0 0).bind (fun ⟨x_101, I_101, L_101⟩ => (if 0 ≤ x_101 ∧ x_101 < 192 then (if 0 ≤ i4 ∧ i4 < 8 then (stI (w2 I_101 55 i4 (I_101 30 x_101)) (fun I_122 => (if 0 ≤ x_101 ∧ x_101 < 192 then (if 1 ≤ dp then ((kf_111 n (dp - 1) (z, kd, R) 0 I_122 L_101 i3 (I_122 27 x_101)).bind (fun ⟨x_134, I_134, L_134⟩ => (if 0 ≤ x_101 ∧ x_101 < 192 then (if -2147483648 ≤ i1 - (I_134 28 x_101) ∧ i1 - (I_134 28 x_101) ≤ 2147483647 then (stI (i1 - (I_134 28 x_101)) (fun v_150 => (if -2147483648 ≤ i4 + 1 ∧ i4 + 1 ≤ 2147483647 then (kf_120 n dp 1 z kd I_134 L_134 R v_150 i2 x_134 (i4 + 1)) else none))) else none) else none))) else none) else none))) else none) else none))) else none) else none))) else none))) P_) : Ev (fun n => kf_120 n dp 1 z kd I L R i1 i2 i3 i4) P_ := Ev_step (fun n => ke_120_1 n dp z kd I L R i1 i2 i3 i4) h
set_option maxRecDepth 100000 in
theorem ev_120_0 {dp : Nat} {z : Nat} {kd : (Nat → Nat × Nat)} {I : JI} {L : JI} {R : (Nat → Nat → Option Nat)} {i1 : Int} {i2 : Int} {i3 : Int} {i4 : Int} {P_ : (PSi × Nat × Nat) → Prop} (h : Ev (fun n => (if (I 24 15) = 0 then (some ((z, kd, I, L, R), 0, 0)) else (if 1 ≤ dp then ((kf_117 n (dp - 1) (z, kd, R) 0 I L).bind (fun ⟨x_9, I_9, L_9⟩ => (if 1 ≤ dp then ((kf_95 n (dp - 1) 0 z kd I_9 L_9 R).bind (fun ⟨⟨z_17, kd_17, I_17, L_17, R_17⟩, ck_17, cm_17⟩ => (adk ck_17 cm_17 (if 1 ≤ dp then ((kf_105 n (dp - 1) (z_17, kd_17, R_17) 0 I_17 L_17 (I_17 2 0) (I_17 2 1) (I_17 2 2) 0 0).bind (fun ⟨x_48, I_48, L_48⟩ => (if 1 ≤ dp then (if -2147483648 ≤ x_48 - 1 ∧ x_48 - 1 ≤ 2147483647 then ((kf_106 n (dp - 1) 0 z_17 kd_17 I_48 L_48 R_17 (x_48 - 1) 0 0).bind (fun ⟨⟨z_63, kd_63, I_63, L_63, R_63⟩, ck_63, cm_63⟩ => (adk ck_63 cm_63 (if -2147483648 ≤ x_9 * 16 ∧ x_9 * 16 ≤ 2147483647 then (kf_120 n dp 1 z_63 kd_63 I_63 L_63 R_63 (x_9 * 16) x_48 (I_63 26 18) 0) else none)))) else none) else none))) else none)))) else none))) else none))) P_) : Ev (fun n => kf_120 n dp 0 z kd I L R i1 i2 i3 i4) P_ := Ev_step (fun n => ke_120_0 n dp z kd I L R i1 i2 i3 i4) h
end
/-! THE CLASS'S PLANS: findFirst -/
def XF (a : Nat) (i : Int) : Prop := XS a i ∨ XL a i ∨ a = 55 ∨ a = 56 ∨ (a = 24 ∧ i = 15)
section SHX
variable {X : Nat → Int → Prop} {b4 b5 b6 b7 c4 c5 c6 c7 z z1 : Nat} {kd kd1 : KD} {J M J1 M1 : JI} {R R1 : RF}
theorem arO_x {a n : Nat} (h : FrGx X b4 b5 b6 b7 z kd J M R c4 c5 c6 c7 z1 kd1 J1 M1 R1) (q : arO (z, kd, R) a n) : arO (z1, kd1, R1) a n := by
  have q1 : a < z := q.1
  have zz := h.1
  have e := (h.2.1 a q1).1
  exact ⟨by show a < z1; omega, by show (kd1 a).1 = 13; rw [e]; exact q.2.1, by show (kd1 a).2 = n; rw [e]; exact q.2.2⟩
theorem rO_x {a j v : Nat} (h : FrGx X b4 b5 b6 b7 z kd J M R c4 c5 c6 c7 z1 kd1 J1 M1 R1) (ha : a < z) (h4 : ¬ (a = 44 ∧ 4 ≤ j ∧ j ≤ 7)) (q : R a j = some v) : R1 a j = some v := by rw [(h.2.1 a ha).2.1 j h4]; exact q
theorem kO_x {a k : Nat} (h : FrGx X b4 b5 b6 b7 z kd J M R c4 c5 c6 c7 z1 kd1 J1 M1 R1) (q : a < z ∧ (kd a).1 = k) : a < z1 ∧ (kd1 a).1 = k := by
  have zz := h.1
  exact ⟨by omega, by rw [(h.2.1 a q.1).1]; exact q.2⟩
theorem CtO_x {a : Nat} (h : FrGx X b4 b5 b6 b7 z kd J M R c4 c5 c6 c7 z1 kd1 J1 M1 R1) (ha : ¬ a = 44) (q : CtO (z, kd, R) a) : CtO (z1, kd1, R1) a := by
  obtain ⟨q0, ⟨q1, q1'⟩, ⟨q2, q2'⟩, ⟨q3, q3'⟩, q4, q4'⟩ := q
  have az : a < z := q0.1
  exact ⟨kO_x h q0, ⟨rO_x h az (fun y => ha y.1) q1, arO_x h q1'⟩, ⟨rO_x h az (fun y => ha y.1) q2, arO_x h q2'⟩, ⟨rO_x h az (fun y => ha y.1) q3, arO_x h q3'⟩, rO_x h az (fun y => ha y.1) q4, arO_x h q4'⟩
theorem TrO_x {a : Nat} (h : FrGx X b4 b5 b6 b7 z kd J M R c4 c5 c6 c7 z1 kd1 J1 M1 R1) (ha : ¬ a = 44) (q : TrO (z, kd, R) a) : TrO (z1, kd1, R1) a := by
  obtain ⟨s0, ⟨s1, r1⟩, ⟨s2, r2⟩, ⟨s3, r3⟩, ⟨s4, r4⟩, ⟨s5, r5⟩, ⟨s6, r6⟩, ⟨s7, r7⟩, ⟨s8, r8⟩, ⟨s9, r9⟩, ⟨s10, r10⟩⟩ := q
  have az : a < z := s0.1
  have rr : ∀ {j v : Nat}, R a j = some v → R1 a j = some v := fun {j v} y => rO_x h az (fun y => ha y.1) y
  exact ⟨kO_x h s0, ⟨rr s1, arO_x h r1⟩, ⟨rr s2, arO_x h r2⟩, ⟨rr s3, arO_x h r3⟩, ⟨rr s4, arO_x h r4⟩, ⟨rr s5, arO_x h r5⟩, ⟨rr s6, arO_x h r6⟩, ⟨rr s7, arO_x h r7⟩, ⟨rr s8, arO_x h r8⟩, ⟨rr s9, arO_x h r9⟩, ⟨rr s10, arO_x h r10⟩⟩
theorem HlO_x {a t : Nat} (h : FrGx X b4 b5 b6 b7 z kd J M R c4 c5 c6 c7 z1 kd1 J1 M1 R1) (ha : ¬ a = 44) (q : HlO (z, kd, R) a t) : HlO (z1, kd1, R1) a t := by
  obtain ⟨s0, ⟨s1, r1⟩, ⟨s2, r2⟩, ⟨s3, r3⟩, ⟨s4, r4⟩, ⟨s5, r5⟩, ⟨s6, r6⟩, ⟨s7, r7⟩, s8⟩ := q
  have az : a < z := s0.1
  have rr : ∀ {j v : Nat}, R a j = some v → R1 a j = some v := fun {j v} y => rO_x h az (fun y => ha y.1) y
  exact ⟨kO_x h s0, ⟨rr s1, arO_x h r1⟩, ⟨rr s2, arO_x h r2⟩, ⟨rr s3, arO_x h r3⟩, ⟨rr s4, arO_x h r4⟩, ⟨rr s5, arO_x h r5⟩, ⟨rr s6, arO_x h r6⟩, ⟨rr s7, arO_x h r7⟩, rr s8⟩
theorem ShQ_x (h : FrGx X b4 b5 b6 b7 z kd J M R c4 c5 c6 c7 z1 kd1 J1 M1 R1) (hz : 144 ≤ z) (q : ShQ (z, kd, R)) : ShQ (z1, kd1, R1) := by
  obtain ⟨⟨q1, ⟨q2, q3, q4⟩, q5, q6, q7⟩, q8⟩ := q
  refine ⟨⟨arO_x h q1, ⟨arO_x h q2, arO_x h q3, arO_x h q4⟩, arO_x h q5, arO_x h q6, arO_x h q7⟩, fun c hc => ⟨CtO_x h (by omega) (q8 c hc).1, rO_x h (by omega) (by omega) (q8 c hc).2⟩⟩
end SHX
/-- the first, as it is kept -/
def FiI (J : JI) : Prop := FsO (wnC J) (bnC J) 16 (lyC J (J 2 0) (J 2 1) (J 2 2)) (fun _ => 0) (fun l => J 55 l)
def FfQ (b4 b5 b6 b7 len sl z : Nat) (kd : KD) (J M : JI) (R : RF) (q : (Nat × KD × JI × JI × RF) × Nat × Nat) : Prop := ∃ (z' : Nat) (kd' : KD) (J' M' : JI) (R' : RF) (c4 c5 c6 c7 len' sl' : Nat), q.1 = (z', kd', J', M', R') ∧ PlI z' kd' R' J' c4 c5 c6 c7 len' sl' ∧ FrGx XF b4 b5 b6 b7 z kd J M R c4 c5 c6 c7 z' kd' J' M' R' ∧ FiI J' ∧ J' 24 15 = 0 ∧ ((J 24 15 = 0 ∧ J' = J) ∨ ∀ c : Int, 0 ≤ c → c < 3 → J' 56 c = -1) ∧ PotS len sl len' sl' q.2.1 q.2.2
section KQ
variable {b4 b5 b6 b7 len sl : Nat}
theorem K121 {dp : Nat} {e : EN} {J L : JI} {i N : Nat} (hv : vlP (J 2 0) (J 2 1) (J 2 2)) (hN : J 2 0 + J 2 1 + J 2 2 = N) {l : Nat} (hl : i + l + 1 = N) : Ev (fun n => kf_121 n dp e 0 J L i) (fun r => r = (((clR (J 2 1) (J 2 2) l : Nat) : Int), J, L)) := by
  unfold vlP at hv
  unfold clR
  refine ev_121_0 ?_
  by_cases x : (i : Int) < J 2 0
  · refine Ev_f (by omega) (Ev_ret ?_)
    rw [if_neg (by omega), if_neg (by omega)]
    rfl
  · refine Ev_t (by omega) (Ev_t (by omega) ?_)
    by_cases y : (i : Int) < J 2 0 + J 2 1
    · refine Ev_f (by omega) (Ev_ret ?_)
      rw [if_neg (by omega), if_pos (by omega)]
      rfl
    · refine Ev_t (by omega) (Ev_ret ?_)
      rw [if_pos (by omega)]
      rfl
theorem K117 {dp : Nat} {e : EN} {J L : JI} (hd : 1 ≤ dp) (hv : vlP (J 2 0) (J 2 1) (J 2 2)) : Ev (fun n => kf_117 n dp e 0 J L) (fun r => r = (J 51 (spt (J 2 0) (J 2 1) (J 2 2)), J, L)) := by
  refine ev_117_0 ?_
  refine Ev_t hd (Ev_bind (K94 hv) ?_)
  rintro _ rfl
  exact Ev_t (spt_b hv) (Ev_ret rfl)
theorem K118 {dp : Nat} {e : EN} {J L : JI} (hd : 1 ≤ dp) (hv : vlP (J 2 0) (J 2 1) (J 2 2)) : Ev (fun n => kf_118 n dp e 0 J L) (fun r => r = (J 52 (spt (J 2 0) (J 2 1) (J 2 2)), J, L)) := by
  refine ev_118_0 ?_
  refine Ev_t hd (Ev_bind (K94 hv) ?_)
  rintro _ rfl
  exact Ev_t (spt_b hv) (Ev_ret rfl)
variable {rn : Nat} {od : Nat → Int}
set_option maxHeartbeats 2000000 in
theorem K120l {dp z N D : Nat} {kd : KD} {J M : JI} {R : RF} (hd : 3 ≤ dp) (hQ : ShQ (z, kd, R)) (h56 : arO (z, kd, R) 56 3) (hE : LyE (z, kd, R) b4 b5 b6 b7 len sl) (hP : OfP J rn od) (hv : vlP (J 2 0) (J 2 1) (J 2 2)) (hN : J 2 0 + J 2 1 + J 2 2 = N) (hK : PlK J (J 2 0) (J 2 1) (J 2 2)) (hA : LyA rn od (wnC J) J b4 b5 b6 len (fun i => of0 J (clR (J 2 1) (J 2 2) i)) D) (hD : D ≤ 7) (hDN : N ≤ D + 1) : ∀ (j i : Nat), i + j = N → ∀ (T : Int → Int) (K : JI) (due : Int), (∀ p, 0 ≤ T p) → (∀ a x, ¬ a = 55 → K a x = J a x) → MxB (Sq (lyL (fun i => of0 J (clR (J 2 1) (J 2 2) i)) j)) (vT (wnC J) (bnC J) 16 T) due → Ev (fun n => kf_120 n dp 1 z kd K M R due N (flC rn od (wnC J) T) i) (fun q => ∃ J' : JI, q = ((z, kd, J', M, R), 0, 0) ∧ (∀ a x, ¬ (a = 55 ∨ a = 56 ∨ (a = 24 ∧ x = 15)) → J' a x = J a x) ∧ (∀ x : Int, x < i → J' 55 x = K 55 x) ∧ FsO (wnC J) (bnC J) 16 (lyL (fun i => of0 J (clR (J 2 1) (J 2 2) i)) j) T (fun l => J' 55 ((i : Int) + l)) ∧ J' 24 15 = 0 ∧ ∀ c : Int, 0 ≤ c → c < 3 → J' 56 c = -1)
  | 0, i, e, T, K, due, hT, hK', hM => by
    refine ev_120_1 ?_
    refine Ev_t (by omega) (Ev_t (by omega) (Ev_bind (K36 h56 (by omega)) ?_))
    rintro _ rfl
    dsimp only
    refine Ev_st (Ev_ret ⟨_, rfl, fun a x y => ?_, fun x y => ?_, by rw [lyL, FsO]; trivial, by rw [w2_ap, if_pos ⟨rfl, rfl⟩], fun c x y => ?_⟩)
    · rw [w2_n (by omega)]
      unfold fl
      rw [if_neg (by omega)]
      exact hK' a x (by omega)
    · rw [w2_n (by omega)]
      unfold fl
      rw [if_neg (by omega)]
    · rw [w2_n (by omega)]
      unfold fl
      rw [if_pos (by omega)]
  | j + 1, i, e, T, K, due, hT, hK', hM => by
    have o7 := hE.2.2.2.1
    have eM : K 4 = J 4 := funext fun x => hK' _ _ (by omega)
    have ew : wnC K = wnC J := by unfold wnC; rw [eM]
    have eb : bnC K = bnC J := by unfold bnC; rw [eM]
    have hPK : OfP K rn od := OfP_c (fun a x y => hK' _ _ (by omega)) hP
    have hv0 := hv
    unfold vlP at hv0
    have hcl := PlK_c hK (i := j) (by omega) hv0.1 hv0.2.1 hv0.2.2.1
    have eo : of0 K (clR (J 2 1) (J 2 2) j) = of0 J (clR (J 2 1) (J 2 2) j) := of0_c eM (hK' _ _ (by omega)) (funext fun x => hK' _ _ (by omega))
    have okl : ∀ k, k < N → okO J (of0 J (clR (J 2 1) (J 2 2) k)) := fun k hk => by
      have q := PlK_c hK (i := k) (by omega) hv0.1 hv0.2.1 hv0.2.2.1
      exact okO_C hP q.1 q.2 (gnC_0 hP q.1 q.2)
    have hB := (okO_l (J := J) (o := fun i => of0 J (clR (J 2 1) (J 2 2) i)) j (fun k hk => okl k (by omega))).1
    have hB1 := (okO_l (J := J) (o := fun i => of0 J (clR (J 2 1) (J 2 2) i)) (j + 1) (fun k hk => okl k (by omega))).1
    have hO := RtO_o hP.1.1
    have hbd := (bdF_o hP.2.1 hP.1.1).1
    have db : -800000 ≤ due ∧ due ≤ 257000000 := by
      obtain ⟨_, x, hx, vx⟩ := hM
      have bx := hB1 x hx
      rw [lyL_n] at bx
      have bb := bo_b (bn := bnC J) hO hbd (ad_p bx.2 hT)
      rw [← bo_t hO hP.1.2.2.1] at vx
      omega
    refine ev_120_1 ?_
    have e20 : ∀ x, K 2 x = J 2 x := fun x => hK' _ _ (by omega)
    have k121 := K121 (dp := dp - 1) (e := (z, kd, R)) (J := K) (L := M) (i := i) (N := N) (l := j) (by rw [e20, e20, e20]; exact hv) (by rw [e20, e20, e20]; exact hN) (by omega)
    rw [e20, e20] at k121
    refine Ev_f (by omega) (Ev_t (by omega) (Ev_bind k121 ?_))
    rintro _ rfl
    dsimp only
    rw [show (N : Int) - 1 - (i : Int) = (j : Int) by omega]
    have k122 := K122 (dp := dp - 1) (e := (z, kd, R)) (L := M) (J := K) (rn := rn) (od := od) (o := fun i => of0 J (clR (J 2 1) (J 2 2) i)) (D := D) (l := j) (c := clR (J 2 1) (J 2 2) j) (T := T) (due := due) (by omega) hQ.2 hE hPK (by rw [ew]; exact LyA_c (Nat.le_refl _) (by rw [hK' _ _ (by omega)]; exact hA.1) (fun x => hK' _ _ (by omega)) (fun a x y => hK' _ _ (by omega)) hA) hD (by omega) hB hcl.1 (by rw [hK' _ _ (by omega)]; exact hcl.2) hT (by omega) (by rw [eo, ew, eb]; exact hM)
    rw [ew] at k122
    refine Ev_t (by omega) (Ev_t (by omega) (Ev_bind k122 ?_))
    rintro ⟨x, K1, M1⟩ ⟨q1, g, k, q2, q3, q4, q5, q6, q7, q8, q9⟩
    dsimp only at q1 q3 ⊢
    obtain ⟨rfl, rfl⟩ : K1 = K ∧ M1 = M := by simpa using q1
    subst q3
    rw [eo, eb] at q8 q9
    rw [eo] at q7 q5
    have lp : ∀ p, 0 ≤ lfC K1 (clR (J 2 1) (J 2 2) j) k p := by
      intro p
      have := ((okl j (by omega)).2.1 k q7).2 p
      rw [← eo] at this
      exact this
    have gb := ((okl j (by omega)).2.1 k q7).1
    have eT : (fun p => lfC K1 (clR (J 2 1) (J 2 2) j) k p + T p) = (fun p => T p + (of0 J (clR (J 2 1) (J 2 2) j)).2.2 k p) := funext fun p => by
      rw [← eo]
      show _ = T p + lfC K1 (clR (J 2 1) (J 2 2) j) k p
      omega
    have nn : ∀ a y, ¬ a = 55 → w2 K1 55 i (K1 30 (((clR (J 2 1) (J 2 2) j : Nat) : Int) * 64 + g)) a y = K1 a y := fun a y z => w2_o z
    have cl3 := hcl.1
    refine Ev_t (by omega) (Ev_t (by omega) (Ev_st (Ev_t (by omega) (Ev_t (by omega) ?_))))
    rw [nn 27 _ (by omega), q6]
    refine Ev_bind (K111j hO hT lp) ?_
    rintro _ rfl
    dsimp only
    have n28 := (nn 28 (((clR (J 2 1) (J 2 2) j : Nat) : Int) * 64 + g) (by omega)).trans q5
    simp only [n28]
    rw [eT]
    refine Ev_t (by omega) (Ev_t (by omega) (Ev_st (Ev_t (by omega) ?_)))
    rw [show (i : Int) + 1 = ((i + 1 : Nat) : Int) by omega, q4]
    have tp : ∀ p, 0 ≤ (fun p => T p + (of0 J (clR (J 2 1) (J 2 2) j)).2.2 k p) p := by rw [← eT]; exact ad_p hT lp
    refine Ev_mono (K120l hd hQ h56 hE hP hv hN hK hA hD hDN j (i + 1) (by omega) (fun p => T p + (of0 J (clR (J 2 1) (J 2 2) j)).2.2 k p) (w2 K1 55 i k) _ tp (fun a y z => by rw [w2_o z]; exact hK' a y z) q8) ?_
    rintro q ⟨J', w1, w2', w3, w4, w5, w6⟩
    refine ⟨J', w1, w2', fun y hy => by rw [w3 y (by omega), w2_n (by omega)], ?_, w5, w6⟩
    rw [lyL, FsO]
    have v0 : J' 55 ((i : Int) + ((0 : Nat) : Int)) = k := by rw [w3 _ (by omega), w2_ap, if_pos ⟨rfl, by omega⟩]
    refine ⟨⟨k, due, v0, q7, hM, q8, q9⟩, fun k' hk' => ?_⟩
    have hk' : J' 55 ((i : Int) + ((0 : Nat) : Int)) = k' := hk'
    have : k' = k := by omega
    subst this
    refine cast ?_ w4
    congr 1
    funext l
    congr 1
    omega
theorem S106 {dp z N : Nat} {kd : KD} {J M : JI} {R : RF} (hd : 4 ≤ dp) (hz : 144 ≤ z) (hE : LyE (z, kd, R) b4 b5 b6 b7 len sl) (hP : OfP J rn od) (hK : LyK J rn od b4 b5 b6 b7 len sl) (hS : ∀ p : Int, 0 ≤ p → p < sl → J b7 p = 0) (hm : N ≤ 8) (hc : ∀ i : Nat, i < N - 1 → ∃ c : Nat, c < 3 ∧ J 54 i = c ∧ J (58 + 5 * c) 4 ≤ 64) : Ev (fun n => kf_106 n dp 0 z kd J M R ((N : Int) - 1) 0 0) (fun q => ∃ (z' : Nat) (kd' : KD) (J' M' : JI) (R' : RF) (c4 c5 c6 len' : Nat), q.1 = (z', kd', J', M', R') ∧ LyE (z', kd', R') c4 c5 c6 b7 len' sl ∧ LyT b4 b5 b6 b7 z kd J M R c4 c5 c6 b7 z' kd' J' M' R' ∧ LyA rn od (wnC J) J' c4 c5 c6 len' (fun i => of0 J (J 54 i).toNat) (N - 1) ∧ (∀ p : Int, 0 ≤ p → p < sl → J' b7 p = 0) ∧ (∀ i : Nat, i < N - 1 → J' 46 i = J 54 i) ∧ PotS len sl len' sl q.2.1 q.2.2) := by
  by_cases c : N = 0
  · subst c
    have o7 := hE.2.2.2.1
    obtain ⟨_, D, hD, hcD, hA⟩ := hK
    refine ev_106_0 ?_
    refine ev_106_1 ?_
    refine Ev_t (by omega) ?_
    refine ev_106_2 ?_
    refine Ev_st ?_
    refine ev_106_3 ?_
    refine Ev_t (by omega) (Ev_ret ⟨z, kd, _, M, R, b4, b5, b6, len, rfl, hE, ⟨Nat.le_refl _, fun a _ => ⟨rfl, fun _ _ => rfl, fun i x _ _ => w2_n (by omega), fun _ => rfl⟩, Or.inl rfl, Or.inl rfl, Or.inl rfl, Or.inl rfl⟩, ?_, fun p x y => ?_, fun i hi => absurd hi (by omega), PotS_r⟩)
    · exact LyA_o (o := fun i => of0 J (J 46 i).toNat) (fun k hk => absurd hk (by omega)) (LyA_c (Nat.zero_le _) (by rw [w2_ap, if_pos ⟨rfl, rfl⟩]; rfl) (fun i => w2_n (by omega)) (fun a i x => w2_n (by omega)) hA)
    · rw [w2_n (by omega)]; exact hS p x y
  · have := K106 (M := M) (m := N - 1) hd hz hE hP hK hS (by omega) hc
    rw [show ((N - 1 : Nat) : Int) = (N : Int) - 1 by omega] at this
    exact this
set_option maxHeartbeats 2000000 in
theorem K120 {dp z : Nat} {kd : KD} {J M : JI} {R : RF} (hd : 6 ≤ dp) (hz : 144 ≤ z) (hQ : ShQ (z, kd, R)) (h56 : arO (z, kd, R) 56 3) (hI : PlI z kd R J b4 b5 b6 b7 len sl) (hm : mkO J) (hC : ∀ c : Nat, c < 3 → ctK J c) (hv : vlP (J 2 0) (J 2 1) (J 2 2)) (h53 : J 53 (spt (J 2 0) (J 2 1) (J 2 2)) = J 24 12) (hF : J 24 15 = 0 → FiI J) : Ev (fun n => kf_120 n dp 0 z kd J M R 0 0 0 0) (FfQ b4 b5 b6 b7 len sl z kd J M R) := by
  have hI' := hI
  obtain ⟨i1, i2, i3, i4, i5, i6⟩ := hI
  have hBs := i6 _ _ _ hv h53
  refine ev_120_0 ?_
  by_cases c : J 24 15 = 0
  · exact Ev_t c (Ev_ret ⟨z, kd, J, M, R, b4, b5, b6, b7, len, sl, rfl, hI', FrGx_J (fun _ _ _ => rfl), hF c, c, Or.inl ⟨c, rfl⟩, PotS_r⟩)
  · refine Ev_f c (Ev_t (by omega) (Ev_bind (K117 (by omega) hv) ?_))
    rintro _ rfl
    dsimp only
    have o7 := i1.2.2.2.1
    refine Ev_t (by omega) (Ev_bind (K95 (by omega) hz hQ i1 hm hC i4 i2) ?_)
    rintro ⟨⟨z1, kd1, J1, M1, R1⟩, ck, cm⟩ ⟨z', kd', J', M', R', c7, sl1, rn, od, w1, w2', w3, w4, w5, w6, w7, w8⟩
    dsimp only at w1 w8 ⊢
    obtain ⟨rfl, rfl, rfl, rfl, rfl⟩ : z1 = z' ∧ kd1 = kd' ∧ J1 = J' ∧ M1 = M' ∧ R1 = R' := by simpa using w1
    have fr : ∀ x i, (1 ≤ x ∧ x < 24) ∨ (x = 24 ∧ ¬ i = 14) ∨ (51 ≤ x ∧ x ≤ 72) → J1 x i = J x i := fun x i y => (w3.2.1 x (by omega)).2.2.1 i (by unfold XL X0; omega) (by omega)
    have zz := w3.1
    rw [fr 2 0 (by omega), fr 2 1 (by omega), fr 2 2 (by omega)]
    have hv0 := hv
    unfold vlP at hv0
    refine Ev_adk (Ev_t (by omega) (Ev_bind (K105 (by omega) hv0.1 hv0.2.1 hv0.2.2.1 hv0.2.2.2) ?_))
    rintro ⟨x, J2, M2⟩ ⟨r1, r2, r3, r4⟩
    dsimp only at r1 r2 r3 r4 ⊢
    subst r1 r2
    obtain ⟨N, hN⟩ : ∃ N : Nat, J 2 0 + J 2 1 + J 2 2 = N := ⟨(J 2 0 + J 2 1 + J 2 2).toNat, by omega⟩
    rw [hN]
    have o71 := w2'.2.2.2.1
    have hP2 : OfP J2 rn od := OfP_c (fun a i y => r3 _ _ (by omega)) w4
    have hK2 : LyK J2 rn od b4 b5 b6 c7 len sl1 := LyK_c (fun i => r3 _ _ (by omega)) (r3 _ _ (by omega)) (fun a i y => r3 _ _ (by omega)) w5
    have hcl : ∀ i : Nat, i < N → clR (J 2 1) (J 2 2) i < 3 ∧ J (58 + 5 * clR (J 2 1) (J 2 2) i) 4 ≤ 64 := fun i hi => PlK_c hBs.1 (by omega) hv0.1 hv0.2.1 hv0.2.2.1
    have fr2 : ∀ x i, (1 ≤ x ∧ x < 24) ∨ (x = 24 ∧ ¬ i = 14) ∨ (51 ≤ x ∧ x ≤ 72 ∧ ¬ x = 54) → J2 x i = J x i := fun x i y => by rw [r3 _ _ (by omega)]; exact fr x i (by omega)
    have slz : ∀ p : Int, 0 ≤ p → p < sl1 → J2 c7 p = 0 := fun p x y => by rw [r3 _ _ (by omega)]; exact w6 p x y
    have s106 := S106 (dp := dp - 1) (N := N) (M := M2) (by omega) (by omega) w2' hP2 hK2 slz (by omega) (fun i hi => ⟨clR (J 2 1) (J 2 2) i, (hcl i (by omega)).1, r4 i (by omega), by rw [fr2 _ _ (by have := (hcl i (by omega)).1; omega)]; exact (hcl i (by omega)).2⟩)
    refine Ev_t (by omega) (Ev_t (by omega) (Ev_bind s106 ?_))
    rintro ⟨⟨z2, kd2, J3, M3, R2⟩, ck2, cm2⟩ ⟨z', kd', J', M', R', f4, f5, f6, len', v1, v2, v3, v4, v5, v6, v7⟩
    dsimp only at v1 v7 ⊢
    obtain ⟨rfl, rfl, rfl, rfl, rfl⟩ : z2 = z' ∧ kd2 = kd' ∧ J3 = J' ∧ M3 = M' ∧ R2 = R' := by simpa using v1
    have fr3 : ∀ x i, (1 ≤ x ∧ x < 44) ∨ (51 ≤ x ∧ x ≤ 72) → J3 x i = J2 x i := fun x i y => (v3.2.1 x (by omega)).2.2.1 i (by omega) (by omega) (by omega)
    have g3 : ∀ x i, (1 ≤ x ∧ x < 24) ∨ (x = 24 ∧ ¬ i = 14) ∨ (51 ≤ x ∧ x ≤ 72 ∧ ¬ x = 54) → J3 x i = J x i := fun x i y => by rw [fr3 _ _ (by omega), fr2 _ _ (by omega)]
    have hP3 : OfP J3 rn od := OfP_c (fun a i y => fr3 _ _ (by omega)) hP2
    have o72 := v2.2.2.2.1
    have e4 : J3 4 = J 4 := funext fun i => g3 _ _ (by omega)
    have e42 : J2 4 = J 4 := funext fun i => fr2 _ _ (by omega)
    have ew : wnC J3 = wnC J := by unfold wnC; rw [e4]
    have eb : bnC J3 = bnC J := by unfold bnC; rw [e4]
    have ew2 : wnC J2 = wnC J := by unfold wnC; rw [e42]
    have e2 : ∀ i, J3 2 i = J 2 i := fun i => g3 _ _ (by omega)
    have hv3 : vlP (J3 2 0) (J3 2 1) (J3 2 2) := by rw [e2, e2, e2]; exact hv
    have hPK : PlK J3 (J3 2 0) (J3 2 1) (J3 2 2) := by rw [e2, e2, e2]; unfold PlK; rw [g3 58 _ (by omega), g3 63 _ (by omega), g3 68 _ (by omega)]; exact hBs.1
    have e0 : ∀ k, k < N → of0 J3 (clR (J 2 1) (J 2 2) k) = of0 J (clR (J 2 1) (J 2 2) k) := fun k hk => of0_c e4 (g3 _ _ (by have := (hcl k hk).1; omega)) (funext fun i => g3 _ _ (by have := (hcl k hk).1; omega))
    have e02 : ∀ k, k < N → of0 J2 (clR (J 2 1) (J 2 2) k) = of0 J (clR (J 2 1) (J 2 2) k) := fun k hk => of0_c e42 (fr2 _ _ (by have := (hcl k hk).1; omega)) (funext fun i => fr2 _ _ (by have := (hcl k hk).1; omega))
    have hA3 : LyA rn od (wnC J3) J3 f4 f5 f6 len' (fun i => of0 J3 (clR (J3 2 1) (J3 2 2) i)) (N - 1) := by
      rw [ew]
      rw [ew2] at v4
      refine LyA_o (fun k hk => ?_) v4
      rw [e2, e2, e0 k (by omega), r4 k (by omega), show ((clR (J 2 1) (J 2 2) k : Nat) : Int).toNat = clR (J 2 1) (J 2 2) k by omega, e02 k (by omega)]
    have q51 := hBs.2.2.1
    refine Ev_adk (Ev_t (by omega) ?_)
    have ah : J3 26 18 = flC rn od (wnC J3) (fun _ => 0) := by rw [fl_0 (RtO_o hP3.1.1)]; exact hP3.1.2.1
    rw [ah]
    have hQ2 : ShQ (z2, kd2, R2) := ShQ_x (LyT_Gx v3) (by omega) (ShQ_x w3 hz hQ)
    have h562 : arO (z2, kd2, R2) 56 3 := arO_x (LyT_Gx v3) (arO_x w3 h56)
    have lp := K120l (M := M3) (dp := dp) (D := N - 1) (N := N) (by omega) hQ2 h562 v2 hP3 hv3 (by rw [e2, e2, e2]; exact hN) hPK hA3 (by omega) (by omega) N 0 (by omega) (fun _ => 0) J3 (J 51 (spt (J 2 0) (J 2 1) (J 2 2)) * 16) (fun _ => Int.le_refl _) (fun _ _ _ => rfl) (by
      have q := MxH_B hBs.2.1
      rw [Int.mul_comm]
      rw [ew, eb, e2, e2]
      unfold lyC at q
      rw [hN, show ((N : Int)).toNat = N by omega] at q
      rw [lyL_c N (fun k hk => e0 k hk)]
      exact q)
    refine Ev_mono lp ?_
    rintro q ⟨J4, rfl, u2', u3, u4, u5, u6⟩
    have g4 : ∀ x i, (1 ≤ x ∧ x < 24) ∨ (x = 24 ∧ ¬ i = 14 ∧ ¬ i = 15) ∨ (51 ≤ x ∧ x ≤ 53) ∨ (57 ≤ x ∧ x ≤ 72) → J4 x i = J x i := fun x i y => by rw [u2' _ _ (by omega), g3 _ _ (by omega)]
    have e4' : J4 4 = J3 4 := funext fun i => u2' _ _ (by omega)
    refine ⟨z2, kd2, J4, M3, R2, f4, f5, f6, c7, len', sl1, rfl, ⟨v2, fun p x y => ?_, Or.inl ?_, fun _ => ⟨rn, od, ?_, ?_⟩, fun s x y => ?_, fun a' b' c' h' e' => ?_⟩, ?_, ?_, u5, Or.inr u6, ?_⟩
    · rw [u2' _ _ (by omega)]; exact v5 p x y
    · rw [u2' _ _ (by omega), fr3 _ _ (by omega), r3 _ _ (by omega)]; exact w7
    · exact (OfP_c (fun x i y => u2' x i (by omega)) hP3).1
    · refine LyK_c (J := J3) (fun i => u2' _ _ (by omega)) (u2' _ _ (by omega)) (fun x i y => u2' _ _ (by omega)) ⟨?_, N - 1, by omega, fun i hi => ⟨clR (J 2 1) (J 2 2) i, (hcl i (by omega)).1, ?_, ?_⟩, ?_⟩
      · rw [ew, ← ew2]; exact hK2.1
      · rw [v6 i hi]; exact r4 i (by omega)
      · rw [g3 _ _ (by have := (hcl i (by omega)).1; omega)]; exact (hcl i (by omega)).2
      · refine LyA_o (fun k hk => ?_) hA3
        rw [v6 k hk, r4 k (by omega), show ((clR (J 2 1) (J 2 2) k : Nat) : Int).toNat = clR (J 2 1) (J 2 2) k by omega, e2, e2]
    · rw [g4 _ _ (by omega), g4 24 _ (by omega)]; exact i5 s x y
    · rw [g4 _ _ (by omega), g4 24 _ (by omega)] at e'
      exact BsO_c (fun i => g4 _ _ (by omega)) (fun x i y z => g4 _ _ (by omega)) (g4 _ _ (by omega)) (g4 _ _ (by omega)) (i6 a' b' c' h' e')
    · refine FrGx_t (FrGx_m (fun x i y => Or.inr (Or.inl y)) w3) (FrGx_t (FrGx_J (fun x i y => r3 x i (fun z => y (Or.inl (Or.inr z))))) (FrGx_t (FrGx_m (fun x i y => Or.inl (Or.inl y)) (LyT_Gx v3)) (FrGx_J (fun x i y => u2' x i (fun z => y (Or.inr (Or.inr z)))))))
    · unfold FiI
      have ew4 : wnC J4 = wnC J3 := by unfold wnC; rw [e4']
      have eb4 : bnC J4 = bnC J3 := by unfold bnC; rw [e4']
      rw [ew4, eb4, g4 2 0 (by omega), g4 2 1 (by omega), g4 2 2 (by omega)]
      unfold lyC
      rw [hN, show ((N : Int)).toNat = N by omega, lyL_c (o := fun i => of0 J3 (clR (J3 2 1) (J3 2 2) i)) N (fun k hk => ?_)]
      · refine cast ?_ u4
        congr 1
        funext l
        congr 1
        omega
      · rw [e2, e2]
        exact of0_c e4' (u2' _ _ (by have := (hcl k hk).1; omega)) (funext fun i => u2' _ _ (by have := (hcl k hk).1; omega))
    · show PotS len sl len' sl1 (0 + ck2 + ck) (0 + cm2 + cm)
      rw [Nat.zero_add, Nat.zero_add]; exact PotS_t w8 v7
end KQ
