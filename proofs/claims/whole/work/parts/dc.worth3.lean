section
set_option maxRecDepth 100000 in
theorem ev_276_1 {dp : Nat} {e : EN} {I : JI} {L : JI} {i1 : Int} {i2 : Int} {P_ : (Int × JI × JI) → Prop} (h : Ev (fun n => (if 1 ≤ dp then ((kf_262 n (dp - 1) e 0 I L (I 107 0) (I 107 1) (I 107 2) 0 0 0).bind (fun ⟨x0_70, I0_70, L0_70⟩ => (if 0 ≤ i1 ∧ i1 < 10 then (if -2147483648 ≤ i2 + 1 ∧ i2 + 1 ≤ 2147483647 then (stI (w2 I0_70 127 i1 (i2 + 1)) (fun I_82 => (if x0_70 = 0 then (some (((-1) : Int), I_82, L0_70)) else (if 1 ≤ dp then ((kf_263 n (dp - 1) e 0 I_82 L0_70 0 0 0).bind (fun ⟨x1_88, I1_88, L1_88⟩ => (if -2147483648 ≤ x1_88 - (I1_88 105 53) ∧ x1_88 - (I1_88 105 53) ≤ 2147483647 then (some (((x1_88 - (I1_88 105 53)) : Int), I1_88, L1_88)) else none))) else none)))) else none) else none))) else none)) P_) : Ev (fun n => kf_276 n dp e 1 I L i1 i2) P_ := Ev_step (fun n => ke_276_1 n dp e I L i1 i2) h
set_option maxRecDepth 100000 in
theorem ev_130_0 {dp : Nat} {z : Nat} {kd : (Nat → Nat × Nat)} {I : JI} {L : JI} {R : (Nat → Nat → Option Nat)} {i1 : Int} {P_ : ((Int × PSi) × Nat × Nat) → Prop} (h : Ev (fun n => (if 1 ≤ dp then ((kf_14 n (dp - 1) (z, kd, R) 0 I L i1 0 9).bind (fun ⟨x_4, I_4, L_4⟩ => (if x_4 = 0 then (some ((((-1) : Int), z, kd, I_4, L_4, R), 0, 0)) else (if 1 ≤ dp then ((kf_91 n (dp - 1) 0 z kd I_4 L_4 R).bind (fun ⟨⟨x_11, z_11, kd_11, I_11, L_11, R_11⟩, ck_11, cm_11⟩ => (adk ck_11 cm_11 (if x_11 = 0 then (some ((((-1) : Int), z_11, kd_11, I_11, L_11, R_11), 0, 0)) else (if 1 ≤ dp then ((kf_131 n (dp - 1) 0 z_11 kd_11 I_11 L_11 R_11 i1 0 0 0).bind (fun ⟨⟨x_22, z_22, kd_22, I_22, L_22, R_22⟩, ck_22, cm_22⟩ => (adk ck_22 cm_22 (some (((x_22 : Int), z_22, kd_22, I_22, L_22, R_22), 0, 0))))) else none))))) else none)))) else none)) P_) : Ev (fun n => kf_130 n dp 0 z kd I L R i1) P_ := Ev_step (fun n => ke_130_0 n dp z kd I L R i1) h
set_option maxRecDepth 100000 in
theorem ev_276_0 {dp : Nat} {e : EN} {I : JI} {L : JI} {i1 : Int} {i2 : Int} {P_ : (Int × JI × JI) → Prop} (h : Ev (fun n => (stI (w2 I 105 0 0) (fun I_2 => (if 1 ≤ dp then ((kf_202 n (dp - 1) e 0 I_2 L i1).bind (fun ⟨x0_6, I0_6, L0_6⟩ => (if x0_6 = 0 then (some (((-1) : Int), I0_6, L0_6)) else (if 1 ≤ dp then ((kf_261 n (dp - 1) e 0 I0_6 L0_6 0 0 0 0).bind (fun ⟨x1_13, I1_13, L1_13⟩ => (if x1_13 = 0 then (some (((-1) : Int), I1_13, L1_13)) else (if -2147483648 ≤ 60 + i1 ∧ 60 + i1 ≤ 2147483647 then (if 0 ≤ (60 + i1) ∧ (60 + i1) < 1570 then (stI (I1_13 107 (60 + i1)) (fun v_30 => (if v_30 = 8 then (some (((-1) : Int), I1_13, L1_13)) else (if v_30 = 0 then (if 1 ≤ dp then ((kf_204 n (dp - 1) e 0 I1_13 L1_13 0 0).bind (fun ⟨x2_42, I2_42, L2_42⟩ => (if x2_42 = 5 then (some (((-1) : Int), I2_42, L2_42)) else (kf_276 n dp e 1 I2_42 L2_42 i1 v_30)))) else none) else (kf_276 n dp e 1 I1_13 L1_13 i1 v_30))))) else none) else none)))) else none)))) else none)))) P_) : Ev (fun n => kf_276 n dp e 0 I L i1 i2) P_ := Ev_step (fun n => ke_276_0 n dp e I L i1 i2) h
end
/-! PLANS: worth() -/
section WQ
variable {tr : Nat} {TS : Nat → Prop} {z : Nat} {kd : KD} {R : RF} {J M : JI} {b4 b5 b6 b7 len sl : Nat}
theorem M276 {dp : Nat} {p : Int} (hd : 8 ≤ dp) (h : PW tr TS z kd R J b4 b5 b6 b7 len sl) (hp : 0 ≤ p ∧ p ≤ 9) (hw : J 107 (60 + p) < 8) (h5 : sm (fun q => if 0 < wnP (fun p => J 107 (60 + p)) p q then 1 else 0) 10 ≤ 5) (hPl : PlN (cuS (J 107)) (J 107 0) (J 107 1) (J 107 2)) (hb : -1000000000 ≤ J 105 53 ∧ J 105 53 ≤ 1000000000) : Ev (fun n => kf_276 n dp (z, kd, R) 1 J M p (J 107 (60 + p))) (fun r => PW tr TS z kd R r.2.1 b4 b5 b6 b7 len sl ∧ FrMp J r.2.1 M r.2.2 ∧ ∃ w n, r.1 = w - J 105 53 ∧ MxH (Sq (ofLs (cuS (J 107)) (fun p => J 107 (50 + p)) 1 (fun _ _ => 0) (fun i => clA (J 107 0) (J 107 1) i) 0 (J 107 0 + J 107 1 + J 107 2).toNat)) (vT (wnP (fun p => J 107 (60 + p)) p) (bnR (J 107)) 1 (fun _ => 0)) (fun _ => True) w n) := by
  have m3 := h.2.2.1.2.2
  obtain ⟨v8, v5⟩ := rw_5 m3
  have hv : vlP (J 107 0) (J 107 1) (J 107 2) := ⟨(m3.1 0 (by omega) (by omega)).1, (m3.1 1 (by omega) (by omega)).1, (m3.1 2 (by omega) (by omega)).1, m3.2.1⟩
  have wp := v8 p (by omega) (by omega)
  refine ev_276_1 ?_
  refine Ev_t (by omega) (Ev_bind (M262 (by omega) h hv) ?_)
  rintro ⟨v, J1, M1⟩ ⟨r1, r2, r3, r4, r5⟩
  dsimp only at r1 r2 r3 r4 r5 ⊢
  have e7 : J1 107 = J 107 := funext fun i => r2.1 _ _ (by omega) (by omega)
  unfold vlP at hv
  rcases r5 with ⟨rfl, q⟩ | ⟨rfl, q, p1, p2, p3, p4⟩
  · exact absurd hPl q
  · refine Ev_t (by omega) (Ev_t (by omega) (Ev_st (Ev_f (by omega) (Ev_t (by omega) ?_))))
    have nn : ∀ a i, ¬ (a = 127 ∧ i = p) → w2 J1 127 p (J 107 (60 + p) + 1) a i = J1 a i := fun a i x => w2_n x
    have v127 : w2 J1 127 p (J 107 (60 + p) + 1) 127 p = J 107 (60 + p) + 1 := by rw [w2_ap, if_pos ⟨rfl, rfl⟩]
    generalize w2 J1 127 p (J 107 (60 + p) + 1) = J2 at nn v127 ⊢
    have e72 : J2 107 = J 107 := (funext fun i => nn _ _ (by omega)).trans e7
    have f2 : FrMp J1 J2 M1 M1 := ⟨fun a i x y => nn a i (by omega), fun _ _ _ _ _ => rfl⟩
    have c2 := CutI_x r1.1.2.1 (e72.trans e7.symm) (nn _ _ (by omega)) (nn _ _ (by omega)) (fun T hT a i x y => by
      rcases r1.1.2.1.2 T hT with rfl | rfl | u <;> exact nn _ _ (by omega)) (fun a i x => nn _ _ (by omega)) (fun a i x y => nn _ _ (by omega)) r1.2.1.2
    have W2 := PW_m r1 f2 c2 (by rw [nn _ _ (by omega)]; exact r1.2.1.1.2.2.2.2) (PlM_c (e72.trans e7.symm) (fun i x => nn _ _ (by omega)) (fun i => nn _ _ (by omega)) (fun i => nn _ _ (by omega)) r1.2.2.2.2.2.1) (by rw [nn _ _ (by omega)]; exact r1.2.2.2.2.2.2)
    have p1' : PlH J2 (J 107 0 + J 107 1 + J 107 2).toNat := by
      obtain ⟨a1, a2, a3, a4, a5⟩ := p1
      refine ⟨a1, by rw [nn _ _ (by omega)]; exact a2, fun i hi => ?_, by rw [nn _ _ (by omega)]; exact a4, fun i x y => by rw [nn _ _ (by omega)]; exact a5 i x y⟩
      rw [nn 126 _ (by omega), nn 120 _ (by omega)]
      refine ⟨(a3 i hi).1, (a3 i hi).2.1, fun k hk p x y => ?_⟩
      rw [nn 122 _ (by omega)]
      exact (a3 i hi).2.2 k hk p x y
    have l2 : ∀ c, 0 ≤ c → c < 3 → LsM c J2 (cuS (J2 107) c) := fun c x y => by
      have l := r4 c x y
      unfold LsM at *
      rw [e72, nn _ _ (by omega)]
      exact LsO_c (fun i _ _ => ⟨nn _ _ (by omega), nn _ _ (by omega)⟩) l
    refine Ev_bind (M263 (cl := fun i => clA (J 107 0) (J 107 1) i) (dl := fun _ _ => 0) (wn := wnP (fun p => J 107 (60 + p)) p) (by omega) W2 p1' l2 (fun q x y => ?_) h5 (fun i hi => by rw [nn _ _ (by omega)]; exact p3 i (by omega) (by omega)) (fun i k hi => by rw [nn 105 _ (by omega), p2, if_neg (by omega)])) ?_
    · unfold wnP
      by_cases e : q = p
      · subst e
        rw [if_pos rfl]
        exact ⟨v127, by dsimp only; omega, by dsimp only; omega⟩
      · rw [if_neg e, nn _ _ (by omega)]
        exact ⟨p4 q x y, v8 q x y⟩
    · rintro ⟨w, J3, M3⟩ ⟨s1, s2, s3, s4, s5⟩
      dsimp only at s1 s2 s3 s4 s5 ⊢
      rw [e72, nn 105 _ (by omega), p2] at s4
      have e53 : J3 105 53 = J 105 53 := by rw [s3 _ _ (by omega), nn _ _ (by omega), r3 _ _ (by omega)]
      simp only [e53]
      exact Ev_t (by omega) (Ev_ret ⟨s1, FrMp_t r2 (FrMp_t f2 s2), w, _, rfl, s4⟩)
theorem o_worth {dp : Nat} {x : Int} (hd : 20 ≤ dp) (hE : J 24 12 ≤ 999999) (h : PW tr TS z kd R J b4 b5 b6 b7 len sl) : Ev (fun n => kf_130 n dp 0 z kd J M R x) (PoQ tr TS b4 b5 b6 b7 len sl z kd J M R (fun n e J M => kf_276 n dp e 0 J M x 0)) := by
  refine ev_130_0 ?_
  refine Ev_t (by omega) (Ev14 (fun hx => ?_) (fun hx => ?_))
  case' refine_2 =>
    refine Ev_t rfl (Ev_ret (PoQ_r h ?_))
    refine ev_276_0 ?_
    exact Ev_th h.2.1.1.2.2.2.1 (Ev_t (by omega) (Ev202f (by omega) hx (Ev_t rfl (Ev_ret rfl))))
  dsimp only
  refine Ev_f (by omega) (Ev_t (by omega) (Ev_bind (R91 (by omega) hE h) ?_))
  rintro ⟨⟨v, z1, kd1, J1, M1, R1⟩, ck, cm⟩ ⟨z', kd', J', M', R', c4, c5, c6, c7, len1, sl1, w1, w2', w3, w4, w5, w6, w7⟩
  dsimp only at w1 w6 w7 ⊢
  obtain ⟨rfl, rfl, rfl, rfl, rfl⟩ : z1 = z' ∧ kd1 = kd' ∧ J1 = J' ∧ M1 = M' ∧ R1 = R' := by simpa using w1
  refine Ev_adk ?_
  rcases w6 with ⟨rfl, w6⟩ | ⟨rfl, w6⟩
  · refine Ev_t rfl (Ev_ret (PoQ_p (by rw [Nat.zero_add, Nat.zero_add]; exact w7) w3 w4.1 ?_))
    refine ev_276_0 ?_
    refine Ev_th w2'.2.1.1.2.2.2.1 (Ev_t (by omega) (Ev202t (by omega) hx (Ev_f (by omega) (Ev_t (by omega) (Ev_bind (M261 (by omega) w2') ?_)))))
    rintro ⟨a, J2, M2⟩ ⟨r1, r2, r3, r4⟩
    dsimp only at r1 r2 r3 r4 ⊢
    subst r4
    rcases plR_e w2' w5 r1 r2 r3 with ⟨p1, p2⟩ | ⟨p1, p2, p3⟩
    · exact Ev_t p1 (Ev_ret ⟨rfl, r1, r2⟩)
    · exact absurd p2 w6
  · refine Ev_f (by omega) (Ev_t (by omega) (Ev_bind (R131 (by omega) w2' w5 w6 hx) ?_))
    rintro ⟨⟨v, z2, kd2, J2, M2, R2⟩, ck2, cm2⟩ ⟨z', kd', J', M', R', d4, d5, d6, d7, len2, sl2, v1, v2, v3, v4, v5, v6, v7, v8⟩
    dsimp only at v1 v7 v8 ⊢
    obtain ⟨rfl, rfl, rfl, rfl, rfl⟩ : z2 = z' ∧ kd2 = kd' ∧ J2 = J' ∧ M2 = M' ∧ R2 = R' := by simpa using v1
    have pf : PotS len sl len2 sl2 (0 + ck2 + ck) (0 + cm2 + cm) := by rw [Nat.zero_add, Nat.zero_add]; exact PotS_t w7 v8
    have fg : FrGx XW b4 b5 b6 b7 z kd J M R d4 d5 d6 d7 z2 kd2 J2 M2 R2 := FrGx_t w3 (FrGx_m XP_W v3)
    have e12 : J2 24 12 ≤ J 24 12 + 1 := by rw [v6.2.2]; exact w4.1
    refine Ev_adk (Ev_ret (PoQ_p pf fg e12 ?_))
    have hv2 := PW_v v2
    have hB := v2.2.2.2.1.2.2.2.2.2 _ _ _ hv2 v5
    have m2 := v2.2.2.1.2.1
    have m1 := v2.2.2.1.1
    have m1' := w2'.2.2.1.1
    have m3 := v2.2.2.1.2.2
    have ew : J1 4 (20 + x) = J2 107 (60 + x) := by
      rw [m1' _ (by omega) (by omega), v6.1]
      congr 1; omega
    have ec : sm (odC J1) 10 = sm (odM J2) 10 := sm_congr 10 (fun q a b => by
      unfold odC odM
      rw [m1' _ (by omega) (by omega), v6.1, show (40 : Int) + (20 + q) = 60 + q by omega])
    rw [ew, ec] at v7
    have u12 := (rw_5 m3).1 x (by omega) (by omega)
    refine ev_276_0 ?_
    refine Ev_th v2.2.1.1.2.2.2.1 (Ev_t (by omega) (Ev202t (by omega) hx (Ev_f (by omega) (Ev_t (by omega) (Ev_bind (M261 (by omega) v2) ?_)))))
    rintro ⟨a, J3, M3⟩ ⟨r1, r2, r3, r4⟩
    dsimp only at r1 r2 r3 r4 ⊢
    subst r4
    have e7 : J3 107 = J2 107 := funext fun i => r2.1 _ _ (by omega) (by omega)
    rcases plR_e v2 v4 r1 r2 r3 with ⟨p1, p2⟩ | ⟨p1, p2, p3⟩
    · exact absurd hB.1 p2
    have eb := (plR_b v2 v4 p3 v5).1
    have pn := (PlK_N (a := J2 2 0) (b := J2 2 1) (c := J2 2 2) v4).1 hB.1
    refine Ev_f (by omega) (Ev_t (by omega) (Ev_t (by omega) (Ev_st ?_)))
    rw [e7]
    have go : ¬ (J2 107 (60 + x) = 8 ∨ J2 107 (60 + x) = 0 ∧ sm (odM J2) 10 = 5) → (∃ w, v = w - J2 51 (spt (J2 2 0) (J2 2 1) (J2 2 2)) ∧ (0 ≤ w ∧ w ≤ 100000000) ∧ MxB (Sq (lyC J2 (J2 2 0) (J2 2 1) (J2 2 2))) (vT (wnP (wnC J2) x) (bnC J2) 16 fun x => 0) (16 * w)) → Ev (fun n => kf_276 n dp (z2, kd2, R2) 1 J3 M3 x (J2 107 (60 + x))) (fun r => r.1 = v ∧ PW tr TS z2 kd2 R2 r.2.1 d4 d5 d6 d7 len2 sl2 ∧ FrMp J2 r.2.1 M2 r.2.2) := fun hn hw => by
      clear v7
      obtain ⟨w, q1, q2, q3⟩ := hw
      have k276 := M276 (dp := dp) (M := M3) (p := x) (by omega) r1 hx (by rw [e7]; omega) (by
        rw [e7, sm_up (g := fun q => if 0 < J2 107 (60 + q) then 1 else 0) (p := x) (by omega) 10 (fun i a b e => by unfold wnP; rw [if_neg e]), if_pos (by omega)]
        have c5 := (rw_5 m3).2
        have co : sm (odM J2) 10 = sm (fun q => if 0 < J2 107 (60 + q) then 1 else 0) 10 := sm_congr 10 (fun q a b => by
          unfold odM
          by_cases c : J2 107 (60 + q) ≤ 0
          · rw [if_pos c, if_neg (by omega)]
          · rw [if_neg c, if_pos (by omega)])
        unfold wnP
        rw [if_pos rfl, ← co]
        rw [← co] at c5
        dsimp only
        by_cases q0 : J2 107 (60 + x) = 0
        · split <;> split <;> omega
        · rw [if_pos (by omega), if_pos (by omega)]; omega) (by
        rw [e7, ← m2 0 (by omega) (by omega), ← m2 1 (by omega) (by omega), ← m2 2 (by omega) (by omega)]; exact pn) (by have := hB.2.2.1; omega)
      rw [e7] at k276
      refine Ev_mono k276 ?_
      rintro ⟨u, J4, M4⟩ ⟨s1, s2, w', n', s3, s4⟩
      dsimp only at s1 s2 s3 ⊢
      refine ⟨?_, s1, FrMp_t r2 s2⟩
      rw [← m2 0 (by omega) (by omega), ← m2 1 (by omega) (by omega), ← m2 2 (by omega) (by omega)] at s4
      have mb := MxB_16.2 (MxH_B s4)
      rw [← Sq_e (lyC_G v4 pn hv2.1 hv2.2.1 hv2.2.2.1 (PW_wn v2).1)] at mb
      rw [← vT_c (wn' := wnP (wnC J2) x) (bn' := bnC J2) (fun q a b => ?_)] at mb
      · have := MxB_u q3 mb
        omega
      · obtain ⟨_, e2⟩ := PW_wn v2
        refine ⟨?_, (e2 q a b).2⟩
        unfold wnP
        by_cases e : q = x
        · subst e
          rw [if_pos rfl, if_pos rfl, (e2 q a b).1]
        · rw [if_neg e, if_neg e]; exact (e2 q a b).1
    by_cases c8 : J2 107 (60 + x) = 8
    · refine Ev_t c8 (Ev_ret ⟨?_, r1, r2⟩)
      rcases v7 with ⟨q, _⟩ | ⟨q, _⟩
      · exact q.symm
      · exact absurd (Or.inl c8) q
    · refine Ev_f c8 ?_
      by_cases c0 : J2 107 (60 + x) = 0
      · refine Ev_t c0 (Ev_t (by omega) (Ev_bind K204 ?_))
        rintro _ rfl
        dsimp only
        have eo : sm (odM J3) 10 = sm (odM J2) 10 := by unfold odM; rw [e7]
        rw [eo]
        by_cases c5 : sm (odM J2) 10 = 5
        · refine Ev_t c5 (Ev_ret ⟨?_, r1, r2⟩)
          rcases v7 with ⟨q, _⟩ | ⟨q, _⟩
          · exact q.symm
          · exact absurd (Or.inr ⟨c0, c5⟩) q
        · rcases v7 with ⟨_, q⟩ | ⟨q, q'⟩
          · omega
          · exact Ev_f c5 (go q q')
      · rcases v7 with ⟨_, q⟩ | ⟨q, q'⟩
        · omega
        · exact Ev_f c0 (go q q')
end WQ
