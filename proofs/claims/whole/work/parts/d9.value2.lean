section
set_option maxRecDepth 100000 in
theorem ev_127_0 {dp : Nat} {z : Nat} {kd : (Nat → Nat × Nat)} {I : JI} {L : JI} {R : (Nat → Nat → Option Nat)} {i1 : Int} {P_ : ((Int × PSi) × Nat × Nat) → Prop} (h : Ev (fun n => (if 1 ≤ dp then ((kf_14 n (dp - 1) (z, kd, R) 0 I L i1 0 2).bind (fun ⟨x_3, I_3, L_3⟩ => (if x_3 = 0 then (some ((((-1) : Int), z, kd, I_3, L_3, R), 0, 0)) else (if 1 ≤ dp then ((kf_91 n (dp - 1) 0 z kd I_3 L_3 R).bind (fun ⟨⟨x_10, z_10, kd_10, I_10, L_10, R_10⟩, ck_10, cm_10⟩ => (adk ck_10 cm_10 (if x_10 = 0 then (some ((((-1) : Int), z_10, kd_10, I_10, L_10, R_10), 0, 0)) else (if 1 ≤ dp then ((kf_128 n (dp - 1) 0 z_10 kd_10 I_10 L_10 R_10 i1 1).bind (fun ⟨⟨x_24, z_24, kd_24, I_24, L_24, R_24⟩, ck_24, cm_24⟩ => (adk ck_24 cm_24 (if x_24 = (-1) then (some ((((-1) : Int), z_24, kd_24, I_24, L_24, R_24), 0, 0)) else (if 1 ≤ dp then ((kf_117 n (dp - 1) (z_24, kd_24, R_24) 0 I_24 L_24).bind (fun ⟨x_42, I_42, L_42⟩ => (if -2147483648 ≤ x_24 - x_42 ∧ x_24 - x_42 ≤ 2147483647 then (some ((((x_24 - x_42) : Int), z_24, kd_24, I_42, L_42, R_24), 0, 0)) else none))) else none))))) else none))))) else none)))) else none)) P_) : Ev (fun n => kf_127 n dp 0 z kd I L R i1) P_ := Ev_step (fun n => ke_127_0 n dp z kd I L R i1) h
set_option maxRecDepth 100000 in
theorem ev_273_0 {dp : Nat} {e : EN} {I : JI} {L : JI} {i1 : Int} {P_ : (Int × JI × JI) → Prop} (h : Ev (fun n => (stI (w2 I 105 0 0) (fun I_2 => (if 1 ≤ dp then ((kf_197 n (dp - 1) e 0 I_2 L i1).bind (fun ⟨x0_6, I0_6, L0_6⟩ => (if x0_6 = 0 then (some (((-1) : Int), I0_6, L0_6)) else (if 1 ≤ dp then ((kf_261 n (dp - 1) e 0 I0_6 L0_6 0 0 0 0).bind (fun ⟨x1_13, I1_13, L1_13⟩ => (if x1_13 = 0 then (some (((-1) : Int), I1_13, L1_13)) else (if 1 ≤ dp then ((kf_198 n (dp - 1) e 0 I1_13 L1_13).bind (fun ⟨x2_20, I2_20, L2_20⟩ => (if x2_20 = 8 then (some (((-1) : Int), I2_20, L2_20)) else (if 1 ≤ dp then ((kf_274 n (dp - 1) e 0 I2_20 L2_20 i1 1).bind (fun ⟨x3_33, I3_33, L3_33⟩ => (if x3_33 = (-1) then (some (((-1) : Int), I3_33, L3_33)) else (if -2147483648 ≤ x3_33 - (I3_33 105 53) ∧ x3_33 - (I3_33 105 53) ≤ 2147483647 then (some (((x3_33 - (I3_33 105 53)) : Int), I3_33, L3_33)) else none)))) else none)))) else none)))) else none)))) else none)))) P_) : Ev (fun n => kf_273 n dp e 0 I L i1) P_ := Ev_step (fun n => ke_273_0 n dp e I L i1) h
set_option maxRecDepth 100000 in
theorem ev_129_0 {dp : Nat} {z : Nat} {kd : (Nat → Nat × Nat)} {I : JI} {L : JI} {R : (Nat → Nat → Option Nat)} {i1 : Int} {P_ : ((Int × PSi) × Nat × Nat) → Prop} (h : Ev (fun n => (if 1 ≤ dp then ((kf_14 n (dp - 1) (z, kd, R) 0 I L i1 0 2).bind (fun ⟨x_3, I_3, L_3⟩ => (if x_3 = 0 then (some ((((-100000) : Int), z, kd, I_3, L_3, R), 0, 0)) else (if 1 ≤ dp then ((kf_91 n (dp - 1) 0 z kd I_3 L_3 R).bind (fun ⟨⟨x_10, z_10, kd_10, I_10, L_10, R_10⟩, ck_10, cm_10⟩ => (adk ck_10 cm_10 (if x_10 = 0 then (some ((((-100000) : Int), z_10, kd_10, I_10, L_10, R_10), 0, 0)) else (if 1 ≤ dp then ((kf_128 n (dp - 1) 0 z_10 kd_10 I_10 L_10 R_10 i1 (-1)).bind (fun ⟨⟨x_25, z_25, kd_25, I_25, L_25, R_25⟩, ck_25, cm_25⟩ => (adk ck_25 cm_25 (if x_25 = (-1) then (some ((((-100000) : Int), z_25, kd_25, I_25, L_25, R_25), 0, 0)) else (if 1 ≤ dp then ((kf_117 n (dp - 1) (z_25, kd_25, R_25) 0 I_25 L_25).bind (fun ⟨x_43, I_43, L_43⟩ => (if -2147483648 ≤ x_43 - x_25 ∧ x_43 - x_25 ≤ 2147483647 then (some ((((x_43 - x_25) : Int), z_25, kd_25, I_43, L_43, R_25), 0, 0)) else none))) else none))))) else none))))) else none)))) else none)) P_) : Ev (fun n => kf_129 n dp 0 z kd I L R i1) P_ := Ev_step (fun n => ke_129_0 n dp z kd I L R i1) h
set_option maxRecDepth 100000 in
theorem ev_275_0 {dp : Nat} {e : EN} {I : JI} {L : JI} {i1 : Int} {P_ : (Int × JI × JI) → Prop} (h : Ev (fun n => (stI (w2 I 105 0 0) (fun I_2 => (if 1 ≤ dp then ((kf_197 n (dp - 1) e 0 I_2 L i1).bind (fun ⟨x0_6, I0_6, L0_6⟩ => (if x0_6 = 0 then (some (((-100000) : Int), I0_6, L0_6)) else (if 1 ≤ dp then ((kf_261 n (dp - 1) e 0 I0_6 L0_6 0 0 0 0).bind (fun ⟨x1_13, I1_13, L1_13⟩ => (if x1_13 = 0 then (some (((-100000) : Int), I1_13, L1_13)) else (if 1 ≤ dp then ((kf_197 n (dp - 1) e 0 I1_13 L1_13 i1).bind (fun ⟨x2_25, I2_25, L2_25⟩ => (if x2_25 = 0 then (if (0 : Int) ≤ 0 ∧ (0 : Int) < 1570 then (if (I2_25 107 0) = 0 then (some (((-100000) : Int), I2_25, L2_25)) else (if 1 ≤ dp then ((kf_274 n (dp - 1) e 0 I2_25 L2_25 i1 (-1)).bind (fun ⟨x3_52, I3_52, L3_52⟩ => (if -2147483648 ≤ (I2_25 105 53) - x3_52 ∧ (I2_25 105 53) - x3_52 ≤ 2147483647 then (some ((((I2_25 105 53) - x3_52) : Int), I3_52, L3_52)) else none))) else none)) else none) else (if -2147483648 ≤ 0 + i1 ∧ 0 + i1 ≤ 2147483647 then (if 0 ≤ (0 + i1) ∧ (0 + i1) < 1570 then (if (I2_25 107 (0 + i1)) = 0 then (some (((-100000) : Int), I2_25, L2_25)) else (if 1 ≤ dp then ((kf_274 n (dp - 1) e 0 I2_25 L2_25 i1 (-1)).bind (fun ⟨x3_52, I3_52, L3_52⟩ => (if -2147483648 ≤ (I2_25 105 53) - x3_52 ∧ (I2_25 105 53) - x3_52 ≤ 2147483647 then (some ((((I2_25 105 53) - x3_52) : Int), I3_52, L3_52)) else none))) else none)) else none) else none)))) else none)))) else none)))) else none)))) P_) : Ev (fun n => kf_275 n dp e 0 I L i1) P_ := Ev_step (fun n => ke_275_0 n dp e I L i1) h
end
/-! PLANS: value, shorts, of both -/
section PV
variable {tr : Nat} {TS : Nat → Prop} {z : Nat} {kd : KD} {R : RF} {J M : JI} {b4 b5 b6 b7 len sl : Nat}
theorem o_value {dp : Nat} {x : Int} (hd : 20 ≤ dp) (hE : J 24 12 ≤ 999999) (h : PW tr TS z kd R J b4 b5 b6 b7 len sl) : Ev (fun n => kf_127 n dp 0 z kd J M R x) (PoQ tr TS b4 b5 b6 b7 len sl z kd J M R (fun n e J M => kf_273 n dp e 0 J M x)) := by
  refine ev_127_0 ?_
  refine Ev_t (by omega) (Ev14 (fun hx => ?_) (fun hx => ?_))
  case' refine_2 =>
    refine Ev_t rfl (Ev_ret (PoQ_r h ?_))
    refine ev_273_0 ?_
    exact Ev_th h.2.1.1.2.2.2.1 (Ev_t (by omega) (Ev197 (by omega) (fun q => absurd q hx) (fun _ => Ev_t rfl (Ev_ret rfl))))
  dsimp only
  have hc : x = 0 ∨ x = 1 ∨ x = 2 := by omega
  refine Ev_f (by omega) (Ev_t (by omega) (Ev_bind (R91 (by omega) hE h) ?_))
  rintro ⟨⟨v, z1, kd1, J1, M1, R1⟩, ck, cm⟩ ⟨z', kd', J', M', R', c4, c5, c6, c7, len1, sl1, w1, w2', w3, w4, w5, w6, w7⟩
  dsimp only at w1 w6 w7 ⊢
  obtain ⟨rfl, rfl, rfl, rfl, rfl⟩ : z1 = z' ∧ kd1 = kd' ∧ J1 = J' ∧ M1 = M' ∧ R1 = R' := by simpa using w1
  refine Ev_adk ?_
  /- the reference from a state in which the class has done its part -/
  have md : ∀ (z1 : Nat) (kd1 : KD) (J1 M1 : JI) (R1 : RF) (c4 c5 c6 c7 len1 sl1 : Nat) (u : Int), PW tr TS z1 kd1 R1 J1 c4 c5 c6 c7 len1 sl1 → (∀ J2 M2 : JI, FrMp J1 J2 M1 M2 → PW tr TS z1 kd1 R1 J2 c4 c5 c6 c7 len1 sl1 → J2 105 51 = 1 → (J2 105 52 = 0 → u = -1) ∧ (¬ J2 105 52 = 0 → J1 107 0 + J1 107 1 + J1 107 2 = 8 → u = -1) ∧ (¬ J2 105 52 = 0 → ¬ J1 107 0 + J1 107 1 + J1 107 2 = 8 → (¬ PlN (cuS (J1 107)) (adC (J1 107 0) x 0 1) (adC (J1 107 1) x 1 1) (adC (J1 107 2) x 2 1) → u = -1) ∧ (∀ w n, PlN (cuS (J1 107)) (adC (J1 107 0) x 0 1) (adC (J1 107 1) x 1 1) (adC (J1 107 2) x 2 1) → MxH (Sq (ofLs (cuS (J1 107)) (fun p => J1 107 (50 + p)) 1 (fun _ _ => 0) (fun i => clA (adC (J1 107 0) x 0 1) (adC (J1 107 1) x 1 1) i) 0 (adC (J1 107 0) x 0 1 + adC (J1 107 1) x 1 1 + adC (J1 107 2) x 2 1).toNat)) (vT (fun p => J1 107 (60 + p)) (bnR (J1 107)) 1 (fun _ => 0)) (fun _ => True) w n → ¬ w = -1 ∧ -1000000000 ≤ J2 105 53 ∧ J2 105 53 ≤ 1000000000 ∧ u = w - J2 105 53))) → Ev (fun n => kf_273 n dp (z1, kd1, R1) 0 J1 M1 x) (fun r => r.1 = u ∧ PW tr TS z1 kd1 R1 r.2.1 c4 c5 c6 c7 len1 sl1 ∧ FrMp J1 r.2.1 M1 r.2.2) := fun z1 kd1 J1 M1 R1 c4 c5 c6 c7 len1 sl1 u g hu => by
    refine ev_273_0 ?_
    refine Ev_th g.2.1.1.2.2.2.1 (Ev_t (by omega) (Ev197 (by omega) (fun _ => ?_) (fun q => absurd hx q)))
    refine Ev_f (by omega) (Ev_t (by omega) (Ev_bind (M261 (by omega) g) ?_))
    rintro ⟨a, J2, M2⟩ ⟨r1, r2, r3, r4⟩
    dsimp only at r1 r2 r3 r4 ⊢
    subst r4
    obtain ⟨u1, u2, u3⟩ := hu J2 M2 r2 r1 r3
    have e7 : J2 107 = J1 107 := funext fun i => r2.1 _ _ (by omega) (by omega)
    by_cases c : J2 105 52 = 0
    · exact Ev_t c (Ev_ret ⟨(u1 c).symm, r1, r2⟩)
    · have m3 := g.2.2.1.2.2
      have b0 := m3.1 0 (by omega) (by omega)
      have b1 := m3.1 1 (by omega) (by omega)
      have b2 := m3.1 2 (by omega) (by omega)
      have b8 := m3.2.1
      refine Ev_f c (Ev_t (by omega) (Ev_bind (K198 (by rw [e7]; omega)) ?_))
      rintro _ rfl
      dsimp only
      rw [e7]
      by_cases c8 : J1 107 0 + J1 107 1 + J1 107 2 = 8
      · exact Ev_t c8 (Ev_ret ⟨(u2 c c8).symm, r1, r2⟩)
      · obtain ⟨u4, u5⟩ := u3 c c8
        have hvv : vlP (adC (J2 107 0) x 0 1) (adC (J2 107 1) x 1 1) (adC (J2 107 2) x 2 1) := by
          rw [e7]
          unfold vlP adC
          rcases hc with rfl | rfl | rfl <;> simp only [Int.reduceEq, if_true, if_false] <;> omega
        refine Ev_f c8 (Ev_t (by omega) (Ev_bind (R274 (by omega) r1 hc (by omega) hvv) ?_))
        rintro ⟨w, J3, M3⟩ ⟨s1, s2, s3, s4⟩
        dsimp only at s1 s2 s3 s4 ⊢
        rw [e7] at s4
        rcases s4 with ⟨rfl, q⟩ | ⟨q, ⟨n, q1⟩, q2, q3⟩
        · exact Ev_t rfl (Ev_ret ⟨(u4 q).symm, s1, FrMp_t r2 s2⟩)
        · obtain ⟨t1, t2, t3, t4⟩ := u5 w n q q1
          refine Ev_f t1 ?_
          simp only [s3 53 (by omega) (by omega)]
          exact Ev_t (by omega) (Ev_ret ⟨t4.symm, s1, FrMp_t r2 s2⟩)
  rcases w6 with ⟨rfl, w6⟩ | ⟨rfl, w6⟩
  · refine Ev_t rfl (Ev_ret (PoQ_p (by rw [Nat.zero_add, Nat.zero_add]; exact w7) w3 w4.1 (md _ _ _ _ _ _ _ _ _ _ _ _ w2' (fun J2 M2 f2 g2 g3 => ?_))))
    rcases plR_e w2' w5 g2 f2 g3 with ⟨p1, p2⟩ | ⟨p1, p2, p3⟩
    · exact ⟨fun _ => rfl, fun q => absurd p1 q, fun q => absurd p1 q⟩
    · exact absurd p2 w6
  · refine Ev_f (by omega) (Ev_t (by omega) (Ev_bind (R128 (by omega) w2' w5 w6 hc (by omega)) ?_))
    rintro ⟨⟨v, z2, kd2, J2, M2, R2⟩, ck2, cm2⟩ ⟨z', kd', J', M', R', d4, d5, d6, d7, len2, sl2, v1, v2, v3, v4, v5, v6, v7, v8⟩
    dsimp only at v1 v7 v8 ⊢
    obtain ⟨rfl, rfl, rfl, rfl, rfl⟩ : z2 = z' ∧ kd2 = kd' ∧ J2 = J' ∧ M2 = M' ∧ R2 = R' := by simpa using v1
    have m2 := v2.2.2.1.2.1
    have hv2 := PW_v v2
    have hv0 := hv2
    unfold vlP at hv0
    have hB := v2.2.2.2.1.2.2.2.2.2 _ _ _ hv2 v5
    rw [← v6.2.1 0, ← v6.2.1 1, ← v6.2.1 2] at v7
    have pf : PotS len sl len2 sl2 (0 + ck2 + ck) (0 + cm2 + cm) := by rw [Nat.zero_add, Nat.zero_add]; exact PotS_t w7 v8
    have fg : FrGx XW b4 b5 b6 b7 z kd J M R d4 d5 d6 d7 z2 kd2 J2 M2 R2 := FrGx_t w3 (FrGx_m XP_W v3)
    have e12 : J2 24 12 ≤ J 24 12 + 1 := by rw [v6.2.2]; exact w4.1
    have vv : vlP (adC (J2 2 0) x 0 1) (adC (J2 2 1) x 1 1) (adC (J2 2 2) x 2 1) ↔ ¬ J2 2 0 + J2 2 1 + J2 2 2 = 8 := by
      unfold vlP adC
      rcases hc with rfl | rfl | rfl <;> simp only [Int.reduceEq, if_true, if_false] <;> omega
    have kn := PlK_N (a := adC (J2 2 0) x 0 1) (b := adC (J2 2 1) x 1 1) (c := adC (J2 2 2) x 2 1) v4
    refine Ev_adk ?_
    rcases v7 with ⟨rfl, v7⟩ | ⟨y1, rfl, y3⟩
    · refine Ev_t rfl (Ev_ret (PoQ_p pf fg e12 (md _ _ _ _ _ _ _ _ _ _ _ _ v2 (fun J3 M3 f2 g2 g3 => ?_))))
      rw [← m2 0 (by omega) (by omega), ← m2 1 (by omega) (by omega), ← m2 2 (by omega) (by omega)]
      refine ⟨fun _ => rfl, fun _ _ => rfl, fun _ q => ⟨fun _ => rfl, fun w n y => absurd ⟨vv.2 q, kn.2 y⟩ v7⟩⟩
    · have b1 := y3.2.2.1
      refine Ev_f (by omega) (Ev_t (by omega) (Ev_bind (K117 (by omega) hv2) ?_))
      rintro _ rfl
      dsimp only
      have b2 := hB.2.2.1
      refine Ev_t (by omega) (Ev_ret (PoQ_p pf fg e12 (md _ _ _ _ _ _ _ _ _ _ _ _ v2 (fun J3 M3 f2 g2 g3 => ?_))))
      rcases plR_e v2 v4 g2 f2 g3 with ⟨p1, p2⟩ | ⟨p1, p2, p3⟩
      · exact absurd hB.1 p2
      · have eb := (plR_b v2 v4 p3 v5).1
        rw [← m2 0 (by omega) (by omega), ← m2 1 (by omega) (by omega), ← m2 2 (by omega) (by omega)]
        refine ⟨fun q => by omega, fun _ q => absurd q (vv.1 y1), fun _ _ => ⟨fun q => absurd (kn.1 y3.1) q, fun w n y k => ?_⟩⟩
        obtain ⟨e1, e2⟩ := PW_wn v2
        have eq := (bs_e v4 y1 y e1 e2 y3 k).1
        refine ⟨by omega, ?_, ?_, by rw [← eb, ← eq]⟩ <;> omega
theorem o_shorts {dp : Nat} {x : Int} (hd : 20 ≤ dp) (hE : J 24 12 ≤ 999999) (h : PW tr TS z kd R J b4 b5 b6 b7 len sl) : Ev (fun n => kf_129 n dp 0 z kd J M R x) (PoQ tr TS b4 b5 b6 b7 len sl z kd J M R (fun n e J M => kf_275 n dp e 0 J M x)) := by
  refine ev_129_0 ?_
  refine Ev_t (by omega) (Ev14 (fun hx => ?_) (fun hx => ?_))
  case' refine_2 =>
    refine Ev_t rfl (Ev_ret (PoQ_r h ?_))
    refine ev_275_0 ?_
    exact Ev_th h.2.1.1.2.2.2.1 (Ev_t (by omega) (Ev197 (by omega) (fun q => absurd q hx) (fun _ => Ev_t rfl (Ev_ret rfl))))
  dsimp only
  have hc : x = 0 ∨ x = 1 ∨ x = 2 := by omega
  refine Ev_f (by omega) (Ev_t (by omega) (Ev_bind (R91 (by omega) hE h) ?_))
  rintro ⟨⟨v, z1, kd1, J1, M1, R1⟩, ck, cm⟩ ⟨z', kd', J', M', R', c4, c5, c6, c7, len1, sl1, w1, w2', w3, w4, w5, w6, w7⟩
  dsimp only at w1 w6 w7 ⊢
  obtain ⟨rfl, rfl, rfl, rfl, rfl⟩ : z1 = z' ∧ kd1 = kd' ∧ J1 = J' ∧ M1 = M' ∧ R1 = R' := by simpa using w1
  refine Ev_adk ?_
  have md : ∀ (z1 : Nat) (kd1 : KD) (J1 M1 : JI) (R1 : RF) (c4 c5 c6 c7 len1 sl1 : Nat) (u : Int), PW tr TS z1 kd1 R1 J1 c4 c5 c6 c7 len1 sl1 → (∀ J2 M2 : JI, FrMp J1 J2 M1 M2 → PW tr TS z1 kd1 R1 J2 c4 c5 c6 c7 len1 sl1 → J2 105 51 = 1 → (J2 105 52 = 0 → u = -100000) ∧ (¬ J2 105 52 = 0 → J1 107 x = 0 → u = -100000) ∧ (¬ J2 105 52 = 0 → ¬ J1 107 x = 0 → (PlN (cuS (J1 107)) (adC (J1 107 0) x 0 (-1)) (adC (J1 107 1) x 1 (-1)) (adC (J1 107 2) x 2 (-1))) ∧ (∀ w n, MxH (Sq (ofLs (cuS (J1 107)) (fun p => J1 107 (50 + p)) 1 (fun _ _ => 0) (fun i => clA (adC (J1 107 0) x 0 (-1)) (adC (J1 107 1) x 1 (-1)) i) 0 (adC (J1 107 0) x 0 (-1) + adC (J1 107 1) x 1 (-1) + adC (J1 107 2) x 2 (-1)).toNat)) (vT (fun p => J1 107 (60 + p)) (bnR (J1 107)) 1 (fun _ => 0)) (fun _ => True) w n → -1000000000 ≤ J2 105 53 ∧ J2 105 53 ≤ 1000000000 ∧ u = J2 105 53 - w))) → Ev (fun n => kf_275 n dp (z1, kd1, R1) 0 J1 M1 x) (fun r => r.1 = u ∧ PW tr TS z1 kd1 R1 r.2.1 c4 c5 c6 c7 len1 sl1 ∧ FrMp J1 r.2.1 M1 r.2.2) := fun z1 kd1 J1 M1 R1 c4 c5 c6 c7 len1 sl1 u g hu => by
    refine ev_275_0 ?_
    refine Ev_th g.2.1.1.2.2.2.1 (Ev_t (by omega) (Ev197 (by omega) (fun _ => ?_) (fun q => absurd hx q)))
    refine Ev_f (by omega) (Ev_t (by omega) (Ev_bind (M261 (by omega) g) ?_))
    rintro ⟨a, J2, M2⟩ ⟨r1, r2, r3, r4⟩
    dsimp only at r1 r2 r3 r4 ⊢
    subst r4
    obtain ⟨u1, u2, u3⟩ := hu J2 M2 r2 r1 r3
    have e7 : J2 107 = J1 107 := funext fun i => r2.1 _ _ (by omega) (by omega)
    by_cases c : J2 105 52 = 0
    · exact Ev_t c (Ev_ret ⟨(u1 c).symm, r1, r2⟩)
    · have m3 := g.2.2.1.2.2
      have b0 := m3.1 0 (by omega) (by omega)
      have b1 := m3.1 1 (by omega) (by omega)
      have b2 := m3.1 2 (by omega) (by omega)
      have b8 := m3.2.1
      refine Ev_f c (Ev_t (by omega) (Ev197 (by omega) (fun _ => ?_) (fun q => absurd hx q)))
      refine Ev_f (by omega) (Ev_t (by omega) (Ev_t (by omega) ?_))
      dsimp only
      simp only [Int.zero_add, e7]
      by_cases c8 : J1 107 x = 0
      · exact Ev_t c8 (Ev_ret ⟨(u2 c c8).symm, r1, r2⟩)
      · obtain ⟨u4, u5⟩ := u3 c c8
        have hvv : vlP (adC (J2 107 0) x 0 (-1)) (adC (J2 107 1) x 1 (-1)) (adC (J2 107 2) x 2 (-1)) := by
          rw [e7]
          unfold vlP adC
          rcases hc with rfl | rfl | rfl <;> simp only [Int.reduceEq, if_true, if_false] <;> omega
        refine Ev_f c8 (Ev_t (by omega) (Ev_bind (R274 (by omega) r1 hc (by omega) hvv) ?_))
        rintro ⟨w, J3, M3⟩ ⟨s1, s2, s3, s4⟩
        dsimp only at s1 s2 s3 s4 ⊢
        rw [e7] at s4
        rcases s4 with ⟨rfl, q⟩ | ⟨q, ⟨n, q1⟩, q2, q3⟩
        · exact absurd u4 q
        · obtain ⟨t2, t3, t4⟩ := u5 w n q1
          exact Ev_t (by omega) (Ev_ret ⟨t4.symm, s1, FrMp_t r2 s2⟩)
  rcases w6 with ⟨rfl, w6⟩ | ⟨rfl, w6⟩
  · refine Ev_t rfl (Ev_ret (PoQ_p (by rw [Nat.zero_add, Nat.zero_add]; exact w7) w3 w4.1 (md _ _ _ _ _ _ _ _ _ _ _ _ w2' (fun J2 M2 f2 g2 g3 => ?_))))
    rcases plR_e w2' w5 g2 f2 g3 with ⟨p1, p2⟩ | ⟨p1, p2, p3⟩
    · exact ⟨fun _ => rfl, fun q => absurd p1 q, fun q => absurd p1 q⟩
    · exact absurd p2 w6
  · refine Ev_f (by omega) (Ev_t (by omega) (Ev_bind (R128 (by omega) w2' w5 w6 hc (by omega)) ?_))
    rintro ⟨⟨v, z2, kd2, J2, M2, R2⟩, ck2, cm2⟩ ⟨z', kd', J', M', R', d4, d5, d6, d7, len2, sl2, v1, v2, v3, v4, v5, v6, v7, v8⟩
    dsimp only at v1 v7 v8 ⊢
    obtain ⟨rfl, rfl, rfl, rfl, rfl⟩ : z2 = z' ∧ kd2 = kd' ∧ J2 = J' ∧ M2 = M' ∧ R2 = R' := by simpa using v1
    have m2 := v2.2.2.1.2.1
    have hv2 := PW_v v2
    have hv0 := hv2
    unfold vlP at hv0
    have hB := v2.2.2.2.1.2.2.2.2.2 _ _ _ hv2 v5
    rw [← v6.2.1 0, ← v6.2.1 1, ← v6.2.1 2] at v7
    have pf : PotS len sl len2 sl2 (0 + ck2 + ck) (0 + cm2 + cm) := by rw [Nat.zero_add, Nat.zero_add]; exact PotS_t w7 v8
    have fg : FrGx XW b4 b5 b6 b7 z kd J M R d4 d5 d6 d7 z2 kd2 J2 M2 R2 := FrGx_t w3 (FrGx_m XP_W v3)
    have e12 : J2 24 12 ≤ J 24 12 + 1 := by rw [v6.2.2]; exact w4.1
    have vv : vlP (adC (J2 2 0) x 0 (-1)) (adC (J2 2 1) x 1 (-1)) (adC (J2 2 2) x 2 (-1)) ↔ ¬ J2 2 x = 0 := by
      unfold vlP adC
      rcases hc with rfl | rfl | rfl <;> simp only [Int.reduceEq, if_true, if_false] <;> omega
    have kk : ¬ J2 2 x = 0 → PlK J2 (adC (J2 2 0) x 0 (-1)) (adC (J2 2 1) x 1 (-1)) (adC (J2 2 2) x 2 (-1)) := fun q => by
      obtain ⟨k1, k2, k3⟩ := hB.1
      unfold PlK adC
      rcases hc with rfl | rfl | rfl <;> simp only [Int.reduceEq, if_true, if_false] <;> exact ⟨fun y => k1 (by omega), fun y => k2 (by omega), fun y => k3 (by omega)⟩
    have kn := PlK_N (a := adC (J2 2 0) x 0 (-1)) (b := adC (J2 2 1) x 1 (-1)) (c := adC (J2 2 2) x 2 (-1)) v4
    refine Ev_adk ?_
    rcases v7 with ⟨rfl, v7⟩ | ⟨y1, rfl, y3⟩
    · refine Ev_t rfl (Ev_ret (PoQ_p pf fg e12 (md _ _ _ _ _ _ _ _ _ _ _ _ v2 (fun J3 M3 f2 g2 g3 => ?_))))
      rw [← m2 0 (by omega) (by omega), ← m2 1 (by omega) (by omega), ← m2 2 (by omega) (by omega), ← m2 x (by omega) (by omega)]
      refine ⟨fun _ => rfl, fun _ _ => rfl, fun _ q => absurd ⟨vv.2 q, kk q⟩ v7⟩
    · have b1 := y3.2.2.1
      refine Ev_f (by omega) (Ev_t (by omega) (Ev_bind (K117 (by omega) hv2) ?_))
      rintro _ rfl
      dsimp only
      have b2 := hB.2.2.1
      refine Ev_t (by omega) (Ev_ret (PoQ_p pf fg e12 (md _ _ _ _ _ _ _ _ _ _ _ _ v2 (fun J3 M3 f2 g2 g3 => ?_))))
      rcases plR_e v2 v4 g2 f2 g3 with ⟨p1, p2⟩ | ⟨p1, p2, p3⟩
      · exact absurd hB.1 p2
      · have eb := (plR_b v2 v4 p3 v5).1
        rw [← m2 0 (by omega) (by omega), ← m2 1 (by omega) (by omega), ← m2 2 (by omega) (by omega), ← m2 x (by omega) (by omega)]
        refine ⟨fun q => by omega, fun _ q => absurd q (vv.1 y1), fun _ _ => ⟨kn.1 y3.1, fun w n k => ?_⟩⟩
        obtain ⟨e1, e2⟩ := PW_wn v2
        have eq := (bs_e v4 y1 (kn.1 y3.1) e1 e2 y3 k).1
        refine ⟨?_, ?_, by rw [← eb, ← eq]⟩ <;> omega
end PV
