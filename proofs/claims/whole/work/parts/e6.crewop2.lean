section
set_option maxRecDepth 100000 in
theorem ev_282_0 {dp : Nat} {e : EN} {I : JI} {L : JI} {i1 : Int} {i2 : Int} {i3 : Int} {P_ : (Int × JI × JI) → Prop} (h : Ev (fun n => (stI (w2 I 105 0 0) (fun I_2 => (if i1 = (-1) then (kf_282 n dp e 1 I_2 L i1 0 0) else (if 1 ≤ dp then ((kf_239 n (dp - 1) e 0 I_2 L i1).bind (fun ⟨x0_12, I0_12, L0_12⟩ => (if x0_12 = 0 then (some (((-1) : Int), I0_12, L0_12)) else (kf_282 n dp e 1 I0_12 L0_12 i1 0 0)))) else none))))) P_) : Ev (fun n => kf_282 n dp e 0 I L i1 i2 i3) P_ := Ev_step (fun n => ke_282_0 n dp e I L i1 i2 i3) h
set_option maxRecDepth 100000 in
theorem ev_144_0 {dp : Nat} {z : Nat} {kd : (Nat → Nat × Nat)} {I : JI} {L : JI} {R : (Nat → Nat → Option Nat)} {i1 : Int} {P_ : ((Int × PSi) × Nat × Nat) → Prop} (h : Ev (fun n => ((R 1 7).bind (fun b_6 => (if (b_6 < z) ∧ ((kd b_6).1 = 10) then (if 1 ≤ dp then (if -2147483648 ≤ (I b_6 11) - 1 ∧ (I b_6 11) - 1 ≤ 2147483647 then ((kf_14 n (dp - 1) (z, kd, R) 0 I L i1 (-1) ((I b_6 11) - 1)).bind (fun ⟨x_14, I_14, L_14⟩ => (if x_14 = 0 then (some ((((-1) : Int), z, kd, I_14, L_14, R), 0, 0)) else (if 1 ≤ dp then ((kf_91 n (dp - 1) 0 z kd I_14 L_14 R).bind (fun ⟨⟨x_21, z_21, kd_21, I_21, L_21, R_21⟩, ck_21, cm_21⟩ => (adk ck_21 cm_21 (if x_21 = 0 then (some ((((-1) : Int), z_21, kd_21, I_21, L_21, R_21), 0, 0)) else (if 1 ≤ dp then ((kf_120 n (dp - 1) 0 z_21 kd_21 I_21 L_21 R_21 0 0 0 0).bind (fun ⟨⟨z_33, kd_33, I_33, L_33, R_33⟩, ck_33, cm_33⟩ => (adk ck_33 cm_33 (if 1 ≤ dp then ((kf_145 n (dp - 1) (z_33, kd_33, R_33) 0 I_33 L_33 0 0).bind (fun ⟨I_40, L_40⟩ => (if i1 = (-1) then (some ((((I_40 73 11) : Int), z_33, kd_33, I_40, L_40, R_33), 0, 0)) else (if 0 ≤ i1 ∧ i1 < 16 then (some ((((I_40 74 i1) : Int), z_33, kd_33, I_40, L_40, R_33), 0, 0)) else none)))) else none)))) else none))))) else none)))) else none) else none) else none)))) P_) : Ev (fun n => kf_144 n dp 0 z kd I L R i1) P_ := Ev_step (fun n => ke_144_0 n dp z kd I L R i1) h
set_option maxRecDepth 100000 in
theorem ev_282_1 {dp : Nat} {e : EN} {I : JI} {L : JI} {i1 : Int} {i2 : Int} {i3 : Int} {P_ : (Int × JI × JI) → Prop} (h : Ev (fun n => (if 1 ≤ dp then ((kf_261 n (dp - 1) e 0 I L 0 0 0 0).bind (fun ⟨x0_19, I0_19, L0_19⟩ => (if x0_19 = 0 then (some (((-1) : Int), I0_19, L0_19)) else (if 1 ≤ dp then ((kf_283 n (dp - 1) e 0 I0_19 L0_19 0 0 0).bind (fun ⟨I1_28, L1_28⟩ => (kf_282 n dp e 2 I1_28 L1_28 i1 0 0))) else none)))) else none)) P_) : Ev (fun n => kf_282 n dp e 1 I L i1 i2 i3) P_ := Ev_step (fun n => ke_282_1 n dp e I L i1 i2 i3) h
set_option maxRecDepth 100000 in
theorem ev_285_0 {dp : Nat} {e : EN} {I : JI} {L : JI} {i1 : Int} {i2 : Int} {i3 : Int} {i4 : Int} {i5 : Int} {i6 : Int} {P_ : (Int × JI × JI) → Prop} (h : Ev (fun n => (stI (w2 I 105 0 0) (fun I_2 => (if i1 = (-1) then (kf_285 n dp e 1 I_2 L i1 0 0 0 0 0) else (if 1 ≤ dp then ((kf_239 n (dp - 1) e 0 I_2 L i1).bind (fun ⟨x0_12, I0_12, L0_12⟩ => (if x0_12 = 0 then (some (((-1) : Int), I0_12, L0_12)) else (kf_285 n dp e 1 I0_12 L0_12 i1 0 0 0 0 0)))) else none))))) P_) : Ev (fun n => kf_285 n dp e 0 I L i1 i2 i3 i4 i5 i6) P_ := Ev_step (fun n => ke_285_0 n dp e I L i1 i2 i3 i4 i5 i6) h
set_option maxRecDepth 100000 in
theorem ev_147_0 {dp : Nat} {z : Nat} {kd : (Nat → Nat × Nat)} {I : JI} {L : JI} {R : (Nat → Nat → Option Nat)} {i1 : Int} {P_ : ((Int × PSi) × Nat × Nat) → Prop} (h : Ev (fun n => ((R 1 7).bind (fun b_6 => (if (b_6 < z) ∧ ((kd b_6).1 = 10) then (if 1 ≤ dp then (if -2147483648 ≤ (I b_6 11) - 1 ∧ (I b_6 11) - 1 ≤ 2147483647 then ((kf_14 n (dp - 1) (z, kd, R) 0 I L i1 (-1) ((I b_6 11) - 1)).bind (fun ⟨x_14, I_14, L_14⟩ => (if x_14 = 0 then (some ((((-1) : Int), z, kd, I_14, L_14, R), 0, 0)) else (if 1 ≤ dp then ((kf_91 n (dp - 1) 0 z kd I_14 L_14 R).bind (fun ⟨⟨x_21, z_21, kd_21, I_21, L_21, R_21⟩, ck_21, cm_21⟩ => (adk ck_21 cm_21 (if x_21 = 0 then (some ((((-1) : Int), z_21, kd_21, I_21, L_21, R_21), 0, 0)) else (if 1 ≤ dp then ((kf_120 n (dp - 1) 0 z_21 kd_21 I_21 L_21 R_21 0 0 0 0).bind (fun ⟨⟨z_33, kd_33, I_33, L_33, R_33⟩, ck_33, cm_33⟩ => (adk ck_33 cm_33 (if 1 ≤ dp then ((kf_145 n (dp - 1) (z_33, kd_33, R_33) 0 I_33 L_33 0 0).bind (fun ⟨I_40, L_40⟩ => (if 1 ≤ dp then ((kf_148 n (dp - 1) (z_33, kd_33, R_33) 0 I_40 L_40).bind (fun ⟨I_47, L_47⟩ => (if i1 = (-1) then (some ((((I_47 73 12) : Int), z_33, kd_33, I_47, L_47, R_33), 0, 0)) else (if 0 ≤ i1 ∧ i1 < 16 then (some ((((I_47 76 i1) : Int), z_33, kd_33, I_47, L_47, R_33), 0, 0)) else none)))) else none))) else none)))) else none))))) else none)))) else none) else none) else none)))) P_) : Ev (fun n => kf_147 n dp 0 z kd I L R i1) P_ := Ev_step (fun n => ke_147_0 n dp z kd I L R i1) h
set_option maxRecDepth 100000 in
theorem ev_285_1 {dp : Nat} {e : EN} {I : JI} {L : JI} {i1 : Int} {i2 : Int} {i3 : Int} {i4 : Int} {i5 : Int} {i6 : Int} {P_ : (Int × JI × JI) → Prop} (h : Ev (fun n => (if 1 ≤ dp then ((kf_261 n (dp - 1) e 0 I L 0 0 0 0).bind (fun ⟨x0_19, I0_19, L0_19⟩ => (if x0_19 = 0 then (some (((-1) : Int), I0_19, L0_19)) else (if 1 ≤ dp then ((kf_283 n (dp - 1) e 0 I0_19 L0_19 0 0 0).bind (fun ⟨I1_28, L1_28⟩ => (if 10 < (I1_28 105 60) then (some (((-1) : Int), I1_28, L1_28)) else (if i1 = (-1) then (kf_285 n dp e 2 I1_28 L1_28 i1 0 0 0 0 0) else (if i1 = (-1) then (if (I1_28 138 0) = 0 then (some (((-1) : Int), I1_28, L1_28)) else (kf_285 n dp e 2 I1_28 L1_28 i1 0 0 0 0 0)) else (if 0 ≤ i1 ∧ i1 < 16 then (if (I1_28 138 i1) = 0 then (some (((-1) : Int), I1_28, L1_28)) else (kf_285 n dp e 2 I1_28 L1_28 i1 0 0 0 0 0)) else none)))))) else none)))) else none)) P_) : Ev (fun n => kf_285 n dp e 1 I L i1 i2 i3 i4 i5 i6) P_ := Ev_step (fun n => ke_285_1 n dp e I L i1 i2 i3 i4 i5 i6) h
end
/-! TASKS, SHARE: task() and share() of both, in the end -/
set_option maxRecDepth 100000 in
theorem Sh_x {X : Nat → Int → Prop} {z z' : Nat} {kd kd' : KD} {R R' : RF} {J J' M M' : JI} {b4 b5 b6 b7 c4 c5 c6 c7 : Nat} (h : Sh z kd R) (g : FrGx X b4 b5 b6 b7 z kd J M R c4 c5 c6 c7 z' kd' J' M' R') : Sh z' kd' R' := by
  have r0 : ∀ q ∈ R0, q.1 < 144 ∧ ¬ (q.1 = 44 ∧ 4 ≤ q.2.1) := by decide
  refine ⟨by have := h.1; have := g.1; omega, fun a ha => ?_, fun q hq => ?_⟩
  · rw [(g.2.1 a (by have := h.1; omega)).1]; exact h.2.1 a ha
  · have := r0 q hq
    rw [(g.2.1 q.1 (by have := h.1; omega)).2.1 q.2.1 (by omega)]
    exact h.2.2 q hq
section CP
variable {tr : Nat} {TS : Nat → Prop} {z : Nat} {kd : KD} {R : RF} {J M : JI} {b4 b5 b6 b7 len sl : Nat}
theorem CrI_mk {K : JI} {ρ : Int → Int} {f g : Nat → Int} {B n : Int} {lf : Int → Int} {N : Nat} (hN : (ρ 0 + ρ 1 + ρ 2).toNat = N) (h15 : K 73 15 = 0) (hK : PlN (cuS ρ) (ρ 0) (ρ 1) (ρ 2)) (hP : PlR (cuS ρ) ρ B n g lf) (hf : ∀ i, i < N → f i = g i) (hT : TkI K ρ f N) : CrI K ρ :=
  ⟨Or.inl h15, hT.2.2.1, fun _ => h15, fun _ => ⟨B, n, g, lf, hK, hP, by rw [hN]; exact TkI_f hf hT⟩⟩
set_option maxHeartbeats 2000000 in
theorem o_task {dp : Nat} {x : Int} (hSh : Sh z kd R) (hd : 26 ≤ dp) (hE : J 24 12 ≤ 999998) (h : PW tr TS z kd R J b4 b5 b6 b7 len sl) (hC : CrI J (J 107)) : Ev (fun n => kf_144 n dp 0 z kd J M R x) (CrQ tr TS b4 b5 b6 b7 len sl z kd J M R (fun n e J M => kf_282 n dp e 0 J M x 0 0)) := by
  have h' := h
  have hS := h.1.1
  have hH := h.2.1.1
  have h11 := hH.2.1.2.2.2.2
  have u9 := hH.1.2.2.1
  have hr := h.2.2.1.2.2
  have m2 := h.2.2.1.2.1
  have hv := PW_v h
  unfold vlP at hv
  obtain ⟨N, hN⟩ : ∃ N : Nat, J 2 0 + J 2 1 + J 2 2 = N := ⟨(J 2 0 + J 2 1 + J 2 2).toNat, by omega⟩
  /- the reference asks for the plan -/
  have ask : ∀ (z1 : Nat) (kd1 : KD) (J1 M1 : JI) (R1 : RF) (c4 c5 c6 c7 len1 sl1 : Nat) (Q : Int × JI × JI → Prop), PW tr TS z1 kd1 R1 J1 c4 c5 c6 c7 len1 sl1 → J1 107 9 = J 107 9 → (-1 ≤ x ∧ x ≤ J 107 9 - 1) → Ev (fun n => kf_282 n dp (z1, kd1, R1) 1 J1 M1 x 0 0) Q → Ev (fun n => kf_282 n dp (z1, kd1, R1) 0 J1 M1 x 0 0) Q := fun z1 kd1 J1 M1 R1 c4 c5 c6 c7 len1 sl1 Q g e9 hx q => by
    refine ev_282_0 ?_
    refine Ev_th g.2.1.1.2.2.2.1 (Ev_c (fun _ => q) (fun c => Ev_t (by omega) (Ev239t (by rw [e9]; omega) (by rw [e9]; omega) (Ev_f (by decide) q))))
  refine ev_144_0 ?_
  refine Ev_R hS.2.2.1 (Ev_t hS.2.1.1 (Ev_t (by omega) ?_))
  rw [h11]
  refine Ev_t (by omega) (Ev14 (fun hx => ?_) (fun hx => ?_))
  case' refine_2 =>
    refine Ev_t rfl (Ev_ret (CrQ_p PotS_r (FrGx_J (fun _ _ _ => rfl)) (by omega) ?_))
    refine ev_282_0 ?_
    refine Ev_th hH.2.2.2.1 (Ev_f (by omega) (Ev_t (by omega) (Ev239f (by omega) (by omega) (Ev_t rfl (Ev_ret ⟨rfl, h, ⟨fun _ _ _ _ => rfl, fun _ _ _ _ _ => rfl⟩, hC⟩)))))
  dsimp only
  refine Ev_f (by decide) (Ev_t (by omega) (Ev_bind (R91 (by omega) (by omega) h) ?_))
  rintro ⟨⟨v, z1, kd1, J1, M1, R1⟩, ck, cm⟩ ⟨z', kd', J', M', R', c4, c5, c6, c7, len1, sl1, w1, w2', w3, w4, w5, w6, w7⟩
  dsimp only at w1 w6 w7 ⊢
  obtain ⟨rfl, rfl, rfl, rfl, rfl⟩ : z1 = z' ∧ kd1 = kd' ∧ J1 = J' ∧ M1 = M' ∧ R1 = R' := by simpa using w1
  have z144 := h.1.2.2.2.2.1
  have o7 := h.2.2.2.1.1.2.2.2.1
  refine Ev_adk ?_
  rcases w6 with ⟨rfl, w6⟩ | ⟨rfl, w6⟩
  · refine Ev_t rfl (Ev_ret (CrQ_p (by rw [Nat.zero_add, Nat.zero_add]; exact w7) (FrGx_m XW_C w3) w4.1 (ask _ _ _ _ _ _ _ _ _ _ _ _ w2' (by rw [w4.2.1]) hx ?_)))
    refine ev_282_1 ?_
    refine Ev_t (by omega) (Ev_bind (M261 (by omega) w2') ?_)
    rintro ⟨a, J2, M2⟩ ⟨r1, r2, r3, r4⟩
    dsimp only at r1 r2 r3 r4 ⊢
    subst r4
    rcases plR_e w2' w5 r1 r2 r3 with ⟨p1, p2⟩ | ⟨p1, p2, p3⟩
    · refine Ev_t p1 (Ev_ret ⟨rfl, r1, FrMp_c r2, ?_⟩)
      have e7 : J2 107 = J 107 := (funext fun i => r2.1 _ _ (by omega) (by omega)).trans w4.2.1
      dsimp only
      rw [e7]
      exact CrI_c (fun a i x y => by rw [r2.1 _ _ (by omega) (by omega), (w3.2.1 a (by omega)).2.2.1 i (by unfold XW; omega) (by omega)]) hC
    · exact absurd p2 w6
  · refine Ev_f (by omega) (Ev_t (by omega) (Ev_bind (R120 (by omega) w2' w5 w6) ?_))
    rintro ⟨⟨z2, kd2, J2, M2, R2⟩, ck2, cm2⟩ ⟨z', kd', J', M', R', d4, d5, d6, d7, len2, sl2, v1, v2, v3, v4, v5, v6, v7⟩
    dsimp only at v1 v7 ⊢
    obtain ⟨rfl, rfl, rfl, rfl, rfl⟩ : z2 = z' ∧ kd2 = kd' ∧ J2 = J' ∧ M2 = M' ∧ R2 = R' := by simpa using v1
    have e2 : ∀ i, J2 2 i = J 2 i := fun i => (v6.2.1 i).trans (w4.2.2 i)
    have e7 : J2 107 = J 107 := v6.1.trans w4.2.1
    have g2 : FrGx XC b4 b5 b6 b7 z kd J M R d4 d5 d6 d7 z2 kd2 J2 M2 R2 := FrGx_m XW_C (FrGx_t w3 (FrGx_m XP_W v3))
    have cr : ∀ a i, 73 ≤ a → a ≤ 80 → J2 a i = J a i := fun a i x y => by
      have := (FrGx_t w3 (FrGx_m XP_W v3)).2.1 a (by omega)
      exact this.2.2.1 i (by unfold XW; omega) (by omega)
    have hC2 : CrI J2 (J2 107) := by rw [e7]; exact CrI_c cr hC
    have e12 : J2 24 12 ≤ J 24 12 + 1 := by rw [v6.2.2]; exact w4.1
    have hN2 : J2 2 0 + J2 2 1 + J2 2 2 = N := by rw [e2, e2, e2]; exact hN
    refine Ev_adk (Ev_t (by omega) (Ev_bind (R145 (M := M2) (Sh_x hSh g2) (by omega) v2 v4 v5.2 hN2 hC2) ?_))
    rintro ⟨K, L⟩ ⟨k1, k2, k3, k4⟩
    dsimp only at k1 k2 k3 k4 ⊢
    subst k1
    have fK : ∀ a i, ¬ (a = 21 ∧ (i = 3 ∨ i = 4)) → ¬ a = 22 → ¬ a = 23 → ¬ (73 ≤ a ∧ a ≤ 80) → K a i = J2 a i := fun a i x1 x2 x3 x4 => k2 a i x1 x2 x3 (by omega) (by omega) (by omega) (by omega) (by omega)
    have WK := PW_t v2 (by omega) fK
    have eK7 : K 107 = J 107 := (funext fun i => fK _ _ (by omega) (by omega) (by omega) (by omega)).trans e7
    have eN : (J 107 0 + J 107 1 + J 107 2).toNat = N := by
      rw [← m2 0 (by omega) (by omega), ← m2 1 (by omega) (by omega), ← m2 2 (by omega) (by omega), hN]
      omega
    rw [e7] at k4
    have fx := FxO_55 v2 v4 v5.2 hN2
    rw [e7] at fx
    have hm : ∀ w : Nat, 0 ≤ tkM (J 107) (fun i => J2 55 i) w N ∧ tkM (J 107) (fun i => J2 55 i) w N ≤ 96000 := fun w => by
      have := tkM_b hH.1 h11 (w := (w : Int)) (by omega) fx N (Nat.le_refl _)
      omega
    have k4' := k4
    have eK7' := eK7
    have fr : ∀ a i, (a = 2 ∨ a = 4 ∨ a = 24 ∨ (55 ≤ a ∧ a ≤ 72)) → K a i = J2 a i := fun a i x => fK a i (by omega) (by omega) (by omega) (by omega)
    have gK : FrGx XC b4 b5 b6 b7 z kd J M R d4 d5 d6 d7 z2 kd2 K L R2 := FrGx_t g2 (FrGx_J (tlX k2))
    have md : ∀ u : Int, (u = if x = -1 then lsum (fun w => tkM (J 107) (fun i => J2 55 i) w N) (tkL (J 107) (fun i => J2 55 i) N 16) else tkM (J 107) (fun i => J2 55 i) x N) → Ev (fun n => kf_282 n dp (z2, kd2, R2) 0 K L x 0 0) (fun r => r.1 = u ∧ PW tr TS z2 kd2 R2 r.2.1 d4 d5 d6 d7 len2 sl2 ∧ FrMc K r.2.1 L r.2.2 ∧ CrI r.2.1 (r.2.1 107)) := fun u hu => by
      refine ask _ _ _ _ _ _ _ _ _ _ _ _ WK (by rw [eK7]) hx ?_
      refine ev_282_1 ?_
      refine Ev_t (by omega) (Ev_bind (M261 (by omega) WK) ?_)
      rintro ⟨a, J3, M3⟩ ⟨r1, r2, r3, r4⟩
      dsimp only at r1 r2 r3 r4 ⊢
      subst r4
      have hLK : LsC K (cuS (K 107)) := by
        rw [eK7']
        rw [e7] at v4
        intro c hc
        rw [fr (58 + 5 * c) 4 (by omega)]
        exact LsO_c (fun i _ _ => ⟨fr _ _ (by omega), fr _ _ (by omega)⟩) (v4 c hc)
      have f15 : K 24 15 = 0 := (fr _ _ (by omega)).trans v5.2
      obtain ⟨f1, fi, _⟩ := WK.2.2.2.2.1 f15
      rcases plR_e WK hLK r1 r2 r3 with ⟨p1, p2⟩ | ⟨p1, p2, p3⟩
      · exact absurd f1 p2
      have ef : ∀ i : Nat, i < N → J2 55 i = J3 134 i := fun i hi => by
        have := plR_f WK hLK p3 f1 fi i (by rw [fr 2 _ (by omega), fr 2 _ (by omega), fr 2 _ (by omega)]; omega)
        rw [fr 55 _ (by omega)] at this
        exact this
      have e37 : J3 107 = J 107 := (funext fun i => r2.1 _ _ (by omega) (by omega)).trans eK7'
      have hKN := (r1.2.2.2.2.2.1 r3).2
      rw [e37] at hKN
      rw [eK7'] at p3
      have hKN : PlN (cuS (J 107)) (J 107 0) (J 107 1) (J 107 2) := by
        rcases hKN with ⟨y1, _⟩ | ⟨_, y2, _⟩
        · omega
        · exact y2
      refine Ev_f (by omega) (Ev_t (by omega) (Ev_bind (M283 (N := N) (f := fun i => J2 55 i) (B := J3 105 53) (n := J3 105 54) (lf := J3 135) (by omega) r1 r3 (by rw [e37]; exact eN) (by rw [e37]; exact hKN) (by rw [e37]; exact p3) (fun i hi => (ef i hi).symm)) ?_))
      rintro ⟨K4, L4⟩ ⟨s1, s2, s3, s4⟩
      dsimp only at s1 s2 s3 s4 ⊢
      rw [e37] at s3 s4
      have f4 : FrMc K K4 L L4 := ⟨fun a i x y => by rw [s1.1 a i x y, r2.1 a i (by omega) (by omega)], fun a i x y w => by rw [s1.2 a i x y w, r2.2 a i x y w]⟩
      have e47 : K4 107 = J 107 := (funext fun i => f4.1 _ _ (by omega) (by omega)).trans eK7'
      have cr4 : ∀ KZ : JI, (∀ a i, 73 ≤ a → a ≤ 80 → KZ a i = K a i) → KZ 107 = J 107 → CrI KZ (KZ 107) := fun KZ y1 y2 => by
        rw [y2]
        exact CrI_c y1 (CrI_mk eN k3 hKN p3 ef k4')
      refine Ev_mono (K282s s3 hm (by omega)) ?_
      rintro _ rfl
      exact ⟨hu.symm, s2, f4, cr4 K4 (fun a i x y => f4.1 _ _ (by omega) (by omega)) e47⟩
    have hTk := k4.1
    have h11' := k4.2.1
    by_cases c : x = -1
    · refine Ev_t c (Ev_ret (CrQ_p (by rw [Nat.zero_add, Nat.zero_add]; exact PotS_t w7 v7) gK (by rw [fr _ _ (by omega)]; exact e12) (md _ ?_)))
      rw [if_pos c]
      exact h11'
    · refine Ev_f c (Ev_t (by omega) (Ev_ret (CrQ_p (by rw [Nat.zero_add, Nat.zero_add]; exact PotS_t w7 v7) gK (by rw [fr _ _ (by omega)]; exact e12) (md _ ?_))))
      rw [if_neg c]
      exact (hTk x (by omega) (by omega)).1

set_option maxHeartbeats 2000000 in
theorem o_share {dp : Nat} {x : Int} (hSh : Sh z kd R) (hd : 26 ≤ dp) (hE : J 24 12 ≤ 999998) (h8 : J 1 8 = J 107 3) (h5 : ∀ m, 0 ≤ m → m < 4 → J 5 m = J 107 (70 + m)) (h : PW tr TS z kd R J b4 b5 b6 b7 len sl) (hC : CrI J (J 107)) : Ev (fun n => kf_147 n dp 0 z kd J M R x) (CrQ tr TS b4 b5 b6 b7 len sl z kd J M R (fun n e J M => kf_285 n dp e 0 J M x 0 0 0 0 0)) := by
  have h' := h
  have hS := h.1.1
  have hH := h.2.1.1
  have h11 := hH.2.1.2.2.2.2
  have u9 := hH.1.2.2.1
  have hr := h.2.2.1.2.2
  have m2 := h.2.2.1.2.1
  have hv := PW_v h
  unfold vlP at hv
  obtain ⟨N, hN⟩ : ∃ N : Nat, J 2 0 + J 2 1 + J 2 2 = N := ⟨(J 2 0 + J 2 1 + J 2 2).toNat, by omega⟩
  /- the reference asks for the plan -/
  have ask : ∀ (z1 : Nat) (kd1 : KD) (J1 M1 : JI) (R1 : RF) (c4 c5 c6 c7 len1 sl1 : Nat) (Q : Int × JI × JI → Prop), PW tr TS z1 kd1 R1 J1 c4 c5 c6 c7 len1 sl1 → J1 107 9 = J 107 9 → (-1 ≤ x ∧ x ≤ J 107 9 - 1) → Ev (fun n => kf_285 n dp (z1, kd1, R1) 1 J1 M1 x 0 0 0 0 0) Q → Ev (fun n => kf_285 n dp (z1, kd1, R1) 0 J1 M1 x 0 0 0 0 0) Q := fun z1 kd1 J1 M1 R1 c4 c5 c6 c7 len1 sl1 Q g e9 hx q => by
    refine ev_285_0 ?_
    refine Ev_th g.2.1.1.2.2.2.1 (Ev_c (fun _ => q) (fun c => Ev_t (by omega) (Ev239t (by rw [e9]; omega) (by rw [e9]; omega) (Ev_f (by decide) q))))
  refine ev_147_0 ?_
  refine Ev_R hS.2.2.1 (Ev_t hS.2.1.1 (Ev_t (by omega) ?_))
  rw [h11]
  refine Ev_t (by omega) (Ev14 (fun hx => ?_) (fun hx => ?_))
  case' refine_2 =>
    refine Ev_t rfl (Ev_ret (CrQ_p PotS_r (FrGx_J (fun _ _ _ => rfl)) (by omega) ?_))
    refine ev_285_0 ?_
    refine Ev_th hH.2.2.2.1 (Ev_f (by omega) (Ev_t (by omega) (Ev239f (by omega) (by omega) (Ev_t rfl (Ev_ret ⟨rfl, h, ⟨fun _ _ _ _ => rfl, fun _ _ _ _ _ => rfl⟩, hC⟩)))))
  dsimp only
  refine Ev_f (by decide) (Ev_t (by omega) (Ev_bind (R91 (by omega) (by omega) h) ?_))
  rintro ⟨⟨v, z1, kd1, J1, M1, R1⟩, ck, cm⟩ ⟨z', kd', J', M', R', c4, c5, c6, c7, len1, sl1, w1, w2', w3, w4, w5, w6, w7⟩
  dsimp only at w1 w6 w7 ⊢
  obtain ⟨rfl, rfl, rfl, rfl, rfl⟩ : z1 = z' ∧ kd1 = kd' ∧ J1 = J' ∧ M1 = M' ∧ R1 = R' := by simpa using w1
  have z144 := h.1.2.2.2.2.1
  have o7 := h.2.2.2.1.1.2.2.2.1
  refine Ev_adk ?_
  rcases w6 with ⟨rfl, w6⟩ | ⟨rfl, w6⟩
  · refine Ev_t rfl (Ev_ret (CrQ_p (by rw [Nat.zero_add, Nat.zero_add]; exact w7) (FrGx_m XW_C w3) w4.1 (ask _ _ _ _ _ _ _ _ _ _ _ _ w2' (by rw [w4.2.1]) hx ?_)))
    refine ev_285_1 ?_
    refine Ev_t (by omega) (Ev_bind (M261 (by omega) w2') ?_)
    rintro ⟨a, J2, M2⟩ ⟨r1, r2, r3, r4⟩
    dsimp only at r1 r2 r3 r4 ⊢
    subst r4
    rcases plR_e w2' w5 r1 r2 r3 with ⟨p1, p2⟩ | ⟨p1, p2, p3⟩
    · refine Ev_t p1 (Ev_ret ⟨rfl, r1, FrMp_c r2, ?_⟩)
      have e7 : J2 107 = J 107 := (funext fun i => r2.1 _ _ (by omega) (by omega)).trans w4.2.1
      dsimp only
      rw [e7]
      exact CrI_c (fun a i x y => by rw [r2.1 _ _ (by omega) (by omega), (w3.2.1 a (by omega)).2.2.1 i (by unfold XW; omega) (by omega)]) hC
    · exact absurd p2 w6
  · refine Ev_f (by omega) (Ev_t (by omega) (Ev_bind (R120 (by omega) w2' w5 w6) ?_))
    rintro ⟨⟨z2, kd2, J2, M2, R2⟩, ck2, cm2⟩ ⟨z', kd', J', M', R', d4, d5, d6, d7, len2, sl2, v1, v2, v3, v4, v5, v6, v7⟩
    dsimp only at v1 v7 ⊢
    obtain ⟨rfl, rfl, rfl, rfl, rfl⟩ : z2 = z' ∧ kd2 = kd' ∧ J2 = J' ∧ M2 = M' ∧ R2 = R' := by simpa using v1
    have e2 : ∀ i, J2 2 i = J 2 i := fun i => (v6.2.1 i).trans (w4.2.2 i)
    have e7 : J2 107 = J 107 := v6.1.trans w4.2.1
    have g2 : FrGx XC b4 b5 b6 b7 z kd J M R d4 d5 d6 d7 z2 kd2 J2 M2 R2 := FrGx_m XW_C (FrGx_t w3 (FrGx_m XP_W v3))
    have cr : ∀ a i, 73 ≤ a → a ≤ 80 → J2 a i = J a i := fun a i x y => by
      have := (FrGx_t w3 (FrGx_m XP_W v3)).2.1 a (by omega)
      exact this.2.2.1 i (by unfold XW; omega) (by omega)
    have hC2 : CrI J2 (J2 107) := by rw [e7]; exact CrI_c cr hC
    have e12 : J2 24 12 ≤ J 24 12 + 1 := by rw [v6.2.2]; exact w4.1
    have hN2 : J2 2 0 + J2 2 1 + J2 2 2 = N := by rw [e2, e2, e2]; exact hN
    refine Ev_adk (Ev_t (by omega) (Ev_bind (R145 (M := M2) (Sh_x hSh g2) (by omega) v2 v4 v5.2 hN2 hC2) ?_))
    rintro ⟨K, L⟩ ⟨k1, k2, k3, k4⟩
    dsimp only at k1 k2 k3 k4 ⊢
    subst k1
    have fK : ∀ a i, ¬ (a = 21 ∧ (i = 3 ∨ i = 4)) → ¬ a = 22 → ¬ a = 23 → ¬ (73 ≤ a ∧ a ≤ 80) → K a i = J2 a i := fun a i x1 x2 x3 x4 => k2 a i x1 x2 x3 (by omega) (by omega) (by omega) (by omega) (by omega)
    have WK := PW_t v2 (by omega) fK
    have eK7 : K 107 = J 107 := (funext fun i => fK _ _ (by omega) (by omega) (by omega) (by omega)).trans e7
    have eN : (J 107 0 + J 107 1 + J 107 2).toNat = N := by
      rw [← m2 0 (by omega) (by omega), ← m2 1 (by omega) (by omega), ← m2 2 (by omega) (by omega), hN]
      omega
    rw [e7] at k4
    have fx := FxO_55 v2 v4 v5.2 hN2
    rw [e7] at fx
    have hm : ∀ w : Nat, 0 ≤ tkM (J 107) (fun i => J2 55 i) w N ∧ tkM (J 107) (fun i => J2 55 i) w N ≤ 96000 := fun w => by
      have := tkM_b hH.1 h11 (w := (w : Int)) (by omega) fx N (Nat.le_refl _)
      omega
    have eK8 : K 1 8 = J 107 3 := by rw [fK _ _ (by omega) (by omega) (by omega) (by omega), g2.2.1 1 (by omega) |>.2.2.1 8 (by unfold XC XW; omega) (by omega)]; exact h8
    have eK5 : ∀ m, 0 ≤ m → m < 4 → K 5 m = J 107 (70 + m) := fun m a b => by rw [fK _ _ (by omega) (by omega) (by omega) (by omega), g2.2.1 5 (by omega) |>.2.2.1 m (by unfold XC XW; omega) (by omega)]; exact h5 m a b
    refine Ev_t (by omega) (Ev_bind (R148 (M := L) (ρ := J 107) (f := fun i => J2 55 i) (N := N) (tr := tr) (Sh_x hSh g2) (by omega) hr (by rw [← eK7]; exact WK.2.1.1.1) (by rw [← eK7]; exact WK.2.1.1.2.1.2.2.2.2) fx (by omega) eK8 eK5 k4) ?_)
    rintro ⟨K5, L5⟩ ⟨j1, j2, j3, j4⟩
    dsimp only at j1 j2 j3 j4 ⊢
    subst j1
    have fK5 : ∀ a i, ¬ (a = 21 ∧ (i = 3 ∨ i = 4)) → ¬ a = 22 → ¬ a = 23 → ¬ (73 ≤ a ∧ a ≤ 80) → K5 a i = J2 a i := fun a i x1 x2 x3 x4 => by rw [j2 a i (by omega) (by omega) (by omega) (by omega) (by omega) (by omega)]; exact fK a i x1 x2 x3 x4
    have WK5 := PW_t v2 (by omega) fK5
    have eK7' : K5 107 = J 107 := (funext fun i => fK5 _ _ (by omega) (by omega) (by omega) (by omega)).trans e7
    have fr : ∀ a i, (a = 2 ∨ a = 4 ∨ a = 24 ∨ (55 ≤ a ∧ a ≤ 72)) → K5 a i = J2 a i := fun a i x => fK5 a i (by omega) (by omega) (by omega) (by omega)
    have gK : FrGx XC b4 b5 b6 b7 z kd J M R d4 d5 d6 d7 z2 kd2 K5 L5 R2 := FrGx_t (FrGx_t g2 (FrGx_J (tlX k2))) (FrGx_J (fun a i y => j2 a i (fun s => y (by unfold XC; omega)) (fun s => y (by unfold XC; omega)) (fun s => y (by unfold XC; omega)) (fun s => y (by unfold XC; omega)) (fun s => y (by unfold XC; omega)) (fun s => y (by unfold XC; omega))))
    have k15 : K5 73 15 = 0 := by rw [j2 _ _ (by omega) (by omega) (by omega) (by omega) (by omega) (by omega)]; exact k3
    have k4' : TkI K5 (J 107) (fun i => J2 55 i) N := by
      obtain ⟨q1, q2, q3, q4, q5⟩ := k4
      refine ⟨fun w a b => by rw [j2 _ _ (by omega) (by omega) (by omega) (by omega) (by omega) (by omega), j2 _ _ (by omega) (by omega) (by omega) (by omega) (by omega) (by omega)]; exact q1 w a b, by rw [j2 _ _ (by omega) (by omega) (by omega) (by omega) (by omega) (by omega)]; exact q2, Or.inl j3, fun y => by omega, fun _ => j4⟩
    have hV : ∀ K6 : JI, TkR K6 (J 107) (fun i => J2 55 i) N 16 → K6 105 60 = ((tkL (J 107) (fun i => J2 55 i) N 16).length : Int) → K6 107 = J 107 → ShV K6 (J 107) (fun i => J2 55 i) N (J 107 3).toNat (fun m => J 107 (70 + m)) := fun K6 y1 y2 y3 => by
      have := hr.2.2.1
      exact ⟨y1, y2, by rw [y3]; omega, fun m _ => by rw [y3]⟩
    have md : ∀ u : Int, (u = if x = -1 then K5 73 12 else K5 76 x) → Ev (fun n => kf_285 n dp (z2, kd2, R2) 0 K5 L5 x 0 0 0 0 0) (fun r => r.1 = u ∧ PW tr TS z2 kd2 R2 r.2.1 d4 d5 d6 d7 len2 sl2 ∧ FrMc K5 r.2.1 L5 r.2.2 ∧ CrI r.2.1 (r.2.1 107)) := fun u hu => by
      refine ask _ _ _ _ _ _ _ _ _ _ _ _ WK5 (by rw [eK7']) hx ?_
      refine ev_285_1 ?_
      refine Ev_t (by omega) (Ev_bind (M261 (by omega) WK5) ?_)
      rintro ⟨a, J3, M3⟩ ⟨r1, r2, r3, r4⟩
      dsimp only at r1 r2 r3 r4 ⊢
      subst r4
      have hLK : LsC K5 (cuS (K5 107)) := by
        rw [eK7']
        rw [e7] at v4
        intro c hc
        rw [fr (58 + 5 * c) 4 (by omega)]
        exact LsO_c (fun i _ _ => ⟨fr _ _ (by omega), fr _ _ (by omega)⟩) (v4 c hc)
      have f15 : K5 24 15 = 0 := (fr _ _ (by omega)).trans v5.2
      obtain ⟨f1, fi, _⟩ := WK5.2.2.2.2.1 f15
      rcases plR_e WK5 hLK r1 r2 r3 with ⟨p1, p2⟩ | ⟨p1, p2, p3⟩
      · exact absurd f1 p2
      have ef : ∀ i : Nat, i < N → J2 55 i = J3 134 i := fun i hi => by
        have := plR_f WK5 hLK p3 f1 fi i (by rw [fr 2 _ (by omega), fr 2 _ (by omega), fr 2 _ (by omega)]; omega)
        rw [fr 55 _ (by omega)] at this
        exact this
      have e37 : J3 107 = J 107 := (funext fun i => r2.1 _ _ (by omega) (by omega)).trans eK7'
      have hKN := (r1.2.2.2.2.2.1 r3).2
      rw [e37] at hKN
      rw [eK7'] at p3
      have hKN : PlN (cuS (J 107)) (J 107 0) (J 107 1) (J 107 2) := by
        rcases hKN with ⟨y1, _⟩ | ⟨_, y2, _⟩
        · omega
        · exact y2
      refine Ev_f (by omega) (Ev_t (by omega) (Ev_bind (M283 (N := N) (f := fun i => J2 55 i) (B := J3 105 53) (n := J3 105 54) (lf := J3 135) (by omega) r1 r3 (by rw [e37]; exact eN) (by rw [e37]; exact hKN) (by rw [e37]; exact p3) (fun i hi => (ef i hi).symm)) ?_))
      rintro ⟨K4, L4⟩ ⟨s1, s2, s3, s4⟩
      dsimp only at s1 s2 s3 s4 ⊢
      rw [e37] at s3 s4
      have f4 : FrMc K5 K4 L5 L4 := ⟨fun a i x y => by rw [s1.1 a i x y, r2.1 a i (by omega) (by omega)], fun a i x y w => by rw [s1.2 a i x y w, r2.2 a i x y w]⟩
      have e47 : K4 107 = J 107 := (funext fun i => f4.1 _ _ (by omega) (by omega)).trans eK7'
      have cr4 : ∀ KZ : JI, (∀ a i, 73 ≤ a → a ≤ 80 → KZ a i = K5 a i) → KZ 107 = J 107 → CrI KZ (KZ 107) := fun KZ y1 y2 => by
        rw [y2]
        exact CrI_c y1 (CrI_mk eN k15 hKN p3 ef k4')
      have lT := tkL_n (ρ := J 107) (f := fun i => J2 55 i) (N := N) 16
      have r3' := hr.2.2.1
      have no : u = -1 → (-1 : Int) = u ∧ PW tr TS z2 kd2 R2 K4 d4 d5 d6 d7 len2 sl2 ∧ FrMc K5 K4 L5 L4 ∧ CrI K4 (K4 107) := fun y => ⟨y.symm, s2, f4, cr4 K4 (fun a i x y => f4.1 _ _ (by omega) (by omega)) e47⟩
      have big : 10 < (tkL (J 107) (fun i => J2 55 i) N 16).length → u = -1 := fun y => by
        rcases j4 with ⟨g1, g2', _⟩ | ⟨g1, _⟩
        · rw [hu]
          split
          · exact g1
          · exact g2' x (by omega) (by omega)
        · omega
      by_cases cb : (10 : Int) < ((tkL (J 107) (fun i => J2 55 i) N 16).length : Int)
      · exact Ev_t (by rw [s4]; exact cb) (Ev_ret (no (big (by omega))))
      refine Ev_f (by rw [s4]; exact cb) ?_
      have fin : (x = -1 ∨ (0 ≤ x ∧ x < 16 ∧ ¬ tkS (J 107) (fun i => J2 55 i) x N = -1)) → Ev (fun n => kf_285 n dp (z2, kd2, R2) 2 K4 L4 x 0 0 0 0 0) (fun r => r.1 = u ∧ PW tr TS z2 kd2 R2 r.2.1 d4 d5 d6 d7 len2 sl2 ∧ FrMc K5 r.2.1 L5 r.2.2 ∧ CrI r.2.1 (r.2.1 107)) := fun hx2 => by
        refine Ev_mono (K285t (by omega) (hV K4 s3 s4 e47) (by omega) hm (by omega) (by omega)) ?_
        rintro ⟨v, K6, L6⟩ ⟨t1, t2, t3⟩
        dsimp only at t1 t2 t3 ⊢
        subst t1
        have W6 : PW tr TS z2 kd2 R2 K6 d4 d5 d6 d7 len2 sl2 := PW_z s2 (fun a i y w => t2 a i (fun s => y (by unfold XZ; omega)) (fun s => y (by unfold XZ; omega))) (Or.inl ⟨t2 _ _ (by omega) (by omega), t2 _ _ (by omega) (by omega)⟩)
        have f6 : FrMc K5 K6 L5 L6 := ⟨fun a i x y => by rw [t2 a i (by omega) (by omega)]; exact f4.1 a i x y, f4.2⟩
        refine ⟨?_, W6, f6, cr4 K6 (fun a i x y => f6.1 _ _ (by omega) (by omega)) ((funext fun i => f6.1 _ _ (by omega) (by omega)).trans eK7')⟩
        rcases j4 with ⟨g1, g2', g3⟩ | ⟨g1, r, g2', g3, g4, g5⟩
        · have nr : ∀ r, ¬ okR (J 107 3).toNat (cnR (fun m => J 107 (70 + m)) (fun w => tkS (J 107) (fun i => J2 55 i) w N)) (tkL (J 107) (fun i => J2 55 i) N 16) r := by
            rcases g3 with g3 | g3
            · omega
            · exact g3
          have eu : u = -1 := by
            rw [hu]
            split
            · exact g1
            · exact g2' x (by omega) (by omega)
          rcases t3 with ⟨t3, _⟩ | ⟨r, t3, _⟩
          · rw [t3, eu]
          · exact absurd t3.1 (nr r)
        · rcases t3 with ⟨_, t3⟩ | ⟨r0, t3, t4, t5⟩
          · exact absurd g2'.1 (t3 r)
          · have er := Lst_u t3 g2'
            subst er
            by_cases c : x = -1
            · rw [hu, if_pos c, t4 c, g3]
            · rw [hu, if_neg c]
              have hx3 : 0 ≤ x ∧ x < 16 ∧ ¬ tkS (J 107) (fun i => J2 55 i) x N = -1 := by
                rcases hx2 with y | y
                · exact absurd y c
                · exact y
              obtain ⟨w, rfl⟩ : ∃ w : Nat, x = w := ⟨x.toNat, by omega⟩
              have hw : w ∈ tkL (J 107) (fun i => J2 55 i) N 16 := tkL_m.2 ⟨by omega, hx3.2.2⟩
              obtain ⟨j, hj, ej⟩ := List.getElem_of_mem hw
              have ew : (tkL (J 107) (fun i => J2 55 i) N 16)[j]? = some w := by rw [List.getElem?_eq_getElem hj, ej]
              have lr := okR_l t3.1
              have em : r0[j]? = some (r0[j]'(by omega)) := List.getElem?_eq_getElem (by omega)
              rw [t5 j w _ ew em rfl, g4 j w _ ew em]
      by_cases c : x = -1
      · exact Ev_t c (fin (Or.inl c))
      · refine Ev_f c (Ev_f c (Ev_t (by omega) ?_))
        have e138 := (s3 x.toNat (by omega)).2.1
        rw [show ((x.toNat : Nat) : Int) = x by omega] at e138
        by_cases cs : tkS (J 107) (fun i => J2 55 i) x N = -1
        · refine Ev_t (by rw [e138, if_pos cs]) (Ev_ret (no ?_))
          rw [hu, if_neg c]
          rcases j4 with ⟨g1, g2', g3⟩ | ⟨g1, r, g2', g3, g4, g5⟩
          · exact g2' x (by omega) (by omega)
          · refine g5 x (by omega) (by omega) (fun w hw => ?_)
            have := (tkL_m.1 hw).2
            intro y
            rw [← y] at this
            exact this cs
        · exact Ev_f (by rw [e138, if_neg cs]; decide) (fin (Or.inr ⟨by omega, by omega, cs⟩))
    by_cases c : x = -1
    · refine Ev_t c (Ev_ret (CrQ_p (by rw [Nat.zero_add, Nat.zero_add]; exact PotS_t w7 v7) gK (by rw [fr _ _ (by omega)]; exact e12) (md _ ?_)))
      rw [if_pos c]
    · refine Ev_f c (Ev_t (by omega) (Ev_ret (CrQ_p (by rw [Nat.zero_add, Nat.zero_add]; exact PotS_t w7 v7) gK (by rw [fr _ _ (by omega)]; exact e12) (md _ ?_))))
      rw [if_neg c]

end CP
