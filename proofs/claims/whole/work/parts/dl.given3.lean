section
set_option maxRecDepth 100000 in
theorem ev_137_0 {dp : Nat} {z : Nat} {kd : (Nat → Nat × Nat)} {I : JI} {L : JI} {R : (Nat → Nat → Option Nat)} {i1 : Int} {P_ : ((Int × PSi) × Nat × Nat) → Prop} (h : Ev (fun n => (if 1 ≤ dp then ((kf_14 n (dp - 1) (z, kd, R) 0 I L i1 0 3).bind (fun ⟨x_3, I_3, L_3⟩ => (if x_3 = 0 then (some ((((-1) : Int), z, kd, I_3, L_3, R), 0, 0)) else (if 1 ≤ dp then ((kf_91 n (dp - 1) 0 z kd I_3 L_3 R).bind (fun ⟨⟨x_10, z_10, kd_10, I_10, L_10, R_10⟩, ck_10, cm_10⟩ => (adk ck_10 cm_10 (if x_10 = 0 then (some ((((-1) : Int), z_10, kd_10, I_10, L_10, R_10), 0, 0)) else (if 1 ≤ dp then ((kf_120 n (dp - 1) 0 z_10 kd_10 I_10 L_10 R_10 0 0 0 0).bind (fun ⟨⟨z_22, kd_22, I_22, L_22, R_22⟩, ck_22, cm_22⟩ => (adk ck_22 cm_22 (if i1 = 0 then (if 1 ≤ dp then ((kf_138 n (dp - 1) (z_22, kd_22, R_22) 0 I_22 L_22 0 0).bind (fun ⟨x_56, I_56, L_56⟩ => (some (((x_56 : Int), z_22, kd_22, I_56, L_56, R_22), 0, 0)))) else none) else (if i1 = 1 then (if 1 ≤ dp then ((kf_117 n (dp - 1) (z_22, kd_22, R_22) 0 I_22 L_22).bind (fun ⟨x_64, I_64, L_64⟩ => (if 1 ≤ dp then ((kf_138 n (dp - 1) (z_22, kd_22, R_22) 0 I_64 L_64 0 0).bind (fun ⟨x_71, I_71, L_71⟩ => (if -2147483648 ≤ x_64 - x_71 ∧ x_64 - x_71 ≤ 2147483647 then (some ((((x_64 - x_71) : Int), z_22, kd_22, I_71, L_71, R_22), 0, 0)) else none))) else none))) else none) else (if i1 = 2 then (if 1 ≤ dp then ((kf_142 n (dp - 1) (z_22, kd_22, R_22) 0 I_22 L_22 0 0 0).bind (fun ⟨x_80, I_80, L_80⟩ => (some (((x_80 : Int), z_22, kd_22, I_80, L_80, R_22), 0, 0)))) else none) else (if 1 ≤ dp then ((kf_143 n (dp - 1) (z_22, kd_22, R_22) 0 I_22 L_22 0 0).bind (fun ⟨x_88, I_88, L_88⟩ => (some (((x_88 : Int), z_22, kd_22, I_88, L_88, R_22), 0, 0)))) else none))))))) else none))))) else none)))) else none)) P_) : Ev (fun n => kf_137 n dp 0 z kd I L R i1) P_ := Ev_step (fun n => ke_137_0 n dp z kd I L R i1) h
set_option maxRecDepth 100000 in
theorem ev_279_0 {dp : Nat} {e : EN} {I : JI} {L : JI} {i1 : Int} {i2 : Int} {i3 : Int} {i4 : Int} {i5 : Int} {i6 : Int} {i7 : Int} {P_ : (Int × JI × JI) → Prop} (h : Ev (fun n => (stI (w2 I 105 0 0) (fun I_2 => (if 1 ≤ dp then ((kf_193 n (dp - 1) e 0 I_2 L i1 0 3).bind (fun ⟨x0_11, I0_11, L0_11⟩ => (if x0_11 = 0 then (some (((-1) : Int), I0_11, L0_11)) else (if 1 ≤ dp then ((kf_261 n (dp - 1) e 0 I0_11 L0_11 0 0 0 0).bind (fun ⟨x1_18, I1_18, L1_18⟩ => (if x1_18 = 0 then (some (((-1) : Int), I1_18, L1_18)) else (kf_279 n dp e 1 I1_18 L1_18 i1 0 0 0 0 0 0)))) else none)))) else none)))) P_) : Ev (fun n => kf_279 n dp e 0 I L i1 i2 i3 i4 i5 i6 i7) P_ := Ev_step (fun n => ke_279_0 n dp e I L i1 i2 i3 i4 i5 i6 i7) h
end
/-! PLANS: given(), of both -/
theorem mnM_G {J : JI} {lc : Int → List CT} {f : Nat → Int} {N : Nat} {p : Int} (hL : ∀ c, 0 ≤ c → c < 3 → LsM c J (lc c)) (hf : ∀ i, i < N → 0 ≤ f i ∧ f i < J 120 (clA (J 107 0) (J 107 1) i) ∧ J 120 (clA (J 107 0) (J 107 1) i) ≤ 64) (hp : 0 ≤ p ∧ p < 10) : ∀ i : Nat, i ≤ N → mnM J f p i = lfG lc (fun i => clA (J 107 0) (J 107 1) i) f i p
  | 0, _ => rfl
  | i + 1, hi => by
    rw [mnM, lfG, mnM_G hL hf hp i (by omega)]
    obtain ⟨q1, q2, q3⟩ := hf i (by omega)
    have c3 := clA_3 (a := J 107 0) (b := J 107 1) (i := i)
    have l := hL _ c3.1 c3.2
    generalize clA (J 107 0) (J 107 1) i = cc at *
    have l1 := l.1
    have hk : (f i).toNat < (lc cc).length := by omega
    have z := (l.2 (f i).toNat (by omega) (lc cc)[(f i).toNat] (by simp [hk]) p hp.1 hp.2).2
    unfold lvG
    rw [if_pos hp, List.getElem?_eq_getElem hk]
    dsimp only at z ⊢
    rw [← z, show ((f i).toNat : Int) = f i by omega]
    congr 2
    omega
section GV
variable {tr : Nat} {TS : Nat → Prop} {z : Nat} {kd : KD} {R : RF} {J M : JI} {b4 b5 b6 b7 len sl : Nat}
theorem o_given {dp : Nat} {x : Int} (hd : 20 ≤ dp) (hE : J 24 12 ≤ 999999) (h6 : ∀ i, 0 ≤ i → i < 8 → J 6 i = J 107 (74 + i)) (h : PW tr TS z kd R J b4 b5 b6 b7 len sl) : Ev (fun n => kf_137 n dp 0 z kd J M R x) (PoQ tr TS b4 b5 b6 b7 len sl z kd J M R (fun n e J M => kf_279 n dp e 0 J M x 0 0 0 0 0 0)) := by
  refine ev_137_0 ?_
  refine Ev_t (by omega) (Ev14 (fun hx => ?_) (fun hx => ?_))
  case' refine_2 =>
    refine Ev_t rfl (Ev_ret (PoQ_r h ?_))
    refine ev_279_0 ?_
    exact Ev_th h.2.1.1.2.2.2.1 (Ev_t (by omega) (Ev193f hx (Ev_t rfl (Ev_ret rfl))))
  dsimp only
  have md : ∀ (z1 : Nat) (kd1 : KD) (J1 M1 : JI) (R1 : RF) (c4 c5 c6 c7 len1 sl1 : Nat) (u : Int), PW tr TS z1 kd1 R1 J1 c4 c5 c6 c7 len1 sl1 → (∀ J2 M2 : JI, FrMp J1 J2 M1 M2 → PW tr TS z1 kd1 R1 J2 c4 c5 c6 c7 len1 sl1 → J2 105 51 = 1 → (J2 105 52 = 0 → u = -1) ∧ (¬ J2 105 52 = 0 → Ev (fun n => kf_279 n dp (z1, kd1, R1) 1 J2 M2 x 0 0 0 0 0 0) (fun r => r = (u, J2, M2)))) → Ev (fun n => kf_279 n dp (z1, kd1, R1) 0 J1 M1 x 0 0 0 0 0 0) (fun r => r.1 = u ∧ PW tr TS z1 kd1 R1 r.2.1 c4 c5 c6 c7 len1 sl1 ∧ FrMp J1 r.2.1 M1 r.2.2) := fun z1 kd1 J1 M1 R1 c4 c5 c6 c7 len1 sl1 u g hu => by
    refine ev_279_0 ?_
    refine Ev_th g.2.1.1.2.2.2.1 (Ev_t (by omega) (Ev193t hx ?_))
    dsimp only
    refine Ev_f (by omega) (Ev_t (by omega) (Ev_bind (M261 (by omega) g) ?_))
    rintro ⟨a, J2, M2⟩ ⟨r1, r2, r3, r4⟩
    dsimp only at r1 r2 r3 r4 ⊢
    subst r4
    obtain ⟨u1, u2⟩ := hu J2 M2 r2 r1 r3
    by_cases cc : J2 105 52 = 0
    · exact Ev_t cc (Ev_ret ⟨(u1 cc).symm, r1, r2⟩)
    · refine Ev_f cc (Ev_mono (u2 cc) ?_)
      rintro _ rfl
      exact ⟨rfl, r1, r2⟩
  refine Ev_f (by omega) (Ev_t (by omega) (Ev_bind (R91 (by omega) hE h) ?_))
  rintro ⟨⟨v, z1, kd1, J1, M1, R1⟩, ck, cm⟩ ⟨z', kd', J', M', R', c4, c5, c6, c7, len1, sl1, w1, w2', w3, w4, w5, w6, w7⟩
  dsimp only at w1 w6 w7 ⊢
  obtain ⟨rfl, rfl, rfl, rfl, rfl⟩ : z1 = z' ∧ kd1 = kd' ∧ J1 = J' ∧ M1 = M' ∧ R1 = R' := by simpa using w1
  refine Ev_adk ?_
  rcases w6 with ⟨rfl, w6⟩ | ⟨rfl, w6⟩
  · refine Ev_t rfl (Ev_ret (PoQ_p (by rw [Nat.zero_add, Nat.zero_add]; exact w7) w3 w4.1 (md _ _ _ _ _ _ _ _ _ _ _ _ w2' (fun J2 M2 f2 g2 g3 => ?_))))
    rcases plR_e w2' w5 g2 f2 g3 with ⟨p1, p2⟩ | ⟨p1, p2, p3⟩
    · exact ⟨fun _ => rfl, fun q => absurd p1 q⟩
    · exact absurd p2 w6
  · refine Ev_f (by omega) (Ev_t (by omega) (Ev_bind (R120 (by omega) w2' w5 w6) ?_))
    rintro ⟨⟨z2, kd2, J2, M2, R2⟩, ck2, cm2⟩ ⟨z', kd', J', M', R', d4, d5, d6, d7, len2, sl2, v1, v2, v3, v4, v5, v6, v7⟩
    dsimp only at v1 v7 ⊢
    obtain ⟨rfl, rfl, rfl, rfl, rfl⟩ : z2 = z' ∧ kd2 = kd' ∧ J2 = J' ∧ M2 = M' ∧ R2 = R' := by simpa using v1
    have pf : PotS len sl len2 sl2 (0 + ck2 + ck) (0 + cm2 + cm) := by rw [Nat.zero_add, Nat.zero_add]; exact PotS_t w7 v7
    have fg : FrGx XW b4 b5 b6 b7 z kd J M R d4 d5 d6 d7 z2 kd2 J2 M2 R2 := FrGx_t w3 (FrGx_m XP_W v3)
    have e12 : J2 24 12 ≤ J 24 12 + 1 := by rw [v6.2.2]; exact w4.1
    have o7 := h.2.2.2.1.1.2.2.2.1
    have z144 := h.1.2.2.2.2.1
    have e7 : J2 107 = J 107 := v6.1.trans w4.2.1
    have h62 : ∀ i, 0 ≤ i → i < 8 → J2 6 i = J2 107 (74 + i) := fun i a b => by
      rw [(fg.2.1 6 (by omega)).2.2.1 i (by unfold XW; omega) (by omega), e7]; exact h6 i a b
    have hv2 := PW_v v2
    have hv0 := hv2
    unfold vlP at hv0
    have m2 := v2.2.2.1.2.1
    have m1 := v2.2.2.1.1
    have m3 := v2.2.2.1.2.2
    obtain ⟨u1, u2, u3, u4, u5, u6, u7, u8, u9, u10, u11, u12, u13, u14, u15, u16⟩ := m3
    have ct := PW_ct v2 v4
    have mk := PW_mk v2
    have hB := v2.2.2.2.1.2.2.2.2.2 _ _ _ hv2 v5.1
    obtain ⟨N, hN⟩ : ∃ N : Nat, J2 2 0 + J2 2 1 + J2 2 2 = N := ⟨(J2 2 0 + J2 2 1 + J2 2 2).toNat, by omega⟩
    obtain ⟨f1, fi, _⟩ := v2.2.2.2.2.1 v5.2
    have ft : fOk J2 (tdF J2 N) N := fun i hi => by
      have q := PlK_c f1 (i := N - 1 - i) (by omega) hv0.1 hv0.2.1 hv0.2.2.1
      have b := u15 (74 + i) (by omega) (by omega)
      have e := h62 i (by omega) (by omega)
      have cb := (ct _ q.1).1
      unfold tdF
      split <;> omega
    have mb : ∀ p : Int, 0 ≤ p → p < 10 → _ := fun p (a : 0 ≤ p) (b : p < 10) => mnF_b ct ft ⟨a, b⟩ N (Nat.le_refl _)
    have gbs := sm_bb (f := fun p => bgF (J2 4 (20 + p)) (J2 4 p) (J2 4 (10 + p)) (mnF J2 (tdF J2 N) N p N)) (A := 1606392) (by decide) 10 (fun p a b => by
      have m := mk.1 p a (by omega)
      exact (bgF_b (w := J2 4 (20 + p)) m.1 m.2.1 m.2.2 (by have := mb p a (by omega); omega)).2.2)
    /- the reference from here -/
    have ref : ∀ J3 M3 : JI, FrMp J2 J3 M2 M3 → PW tr TS z2 kd2 R2 J3 d4 d5 d6 d7 len2 sl2 → J3 105 51 = 1 → J3 105 52 = 1 ∧ Ev (fun n => kf_279 n dp (z2, kd2, R2) 1 J3 M3 x 0 0 0 0 0 0) (fun r => r = ((if x = 0 then sm (fun p => bgF (J2 4 (20 + p)) (J2 4 p) (J2 4 (10 + p)) (mnF J2 (tdF J2 N) N p N)) 10 else if x = 1 then J2 51 (spt (J2 2 0) (J2 2 1) (J2 2 2)) - sm (fun p => bgF (J2 4 (20 + p)) (J2 4 p) (J2 4 (10 + p)) (mnF J2 (tdF J2 N) N p N)) 10 else if x = 2 then otF (tdF J2 N) (fun i => J2 55 i) N else sm (fun p => max 0 (J2 4 (20 + p) - mnF J2 (tdF J2 N) N p N)) 10), J3, M3)) := fun J3 M3 f2 g2 g3 => by
      rcases plR_e v2 v4 g2 f2 g3 with ⟨p1, p2⟩ | ⟨p1, p2, p3⟩
      · exact absurd f1 p2
      refine ⟨p1, ?_⟩
      have e73 : J3 107 = J2 107 := funext fun i => f2.1 _ _ (by omega) (by omega)
      have h32 := (g2.2.2.2.2.2.1 g3).1
      have lm := g2.2.1.2.2.2.1 h32
      rw [e73] at lm
      have eb := (plR_b v2 v4 p3 v5.1).1
      have fe := plR_f v2 v4 p3 f1 fi
      have ec : ∀ i : Nat, i < N → clA (J3 107 0) (J3 107 1) i = ((clR (J2 2 1) (J2 2 2) (N - 1 - i) : Nat) : Int) ∧ J3 120 (clA (J3 107 0) (J3 107 1) i) = J2 (58 + 5 * clR (J2 2 1) (J2 2 2) (N - 1 - i)) 4 := fun i hi => by
        have e1 : clA (J3 107 0) (J3 107 1) i = ((clR (J2 2 1) (J2 2 2) (N - 1 - i) : Nat) : Int) := by
          rw [e73, ← m2 0 (by omega) (by omega), ← m2 1 (by omega) (by omega)]
          unfold clA clR
          by_cases a : (i : Int) < J2 2 0
          · rw [if_pos a, if_neg (by omega), if_neg (by omega)]; rfl
          · rw [if_neg a]
            by_cases b : (i : Int) < J2 2 0 + J2 2 1
            · rw [if_pos b, if_neg (by omega), if_pos (by omega)]; rfl
            · rw [if_neg b, if_pos (by omega)]; rfl
        refine ⟨e1, ?_⟩
        have c3 := clR_3 (b := J2 2 1) (c := J2 2 2) (i := N - 1 - i)
        rw [e1]
        have a := (lm (clR (J2 2 1) (J2 2 2) (N - 1 - i) : Nat) (by omega) (by omega)).1
        have b := (v4 _ c3).1
        rw [a, b]
      have et : ∀ i : Nat, i < N → tdM J3 i = tdF J2 N i := fun i hi => by
        unfold tdM tdF
        rw [(ec i hi).2, e73, ← h62 i (by omega) (by omega)]
      have fM : ∀ i : Nat, i < N → 0 ≤ tdM J3 i ∧ tdM J3 i < J3 120 (clA (J3 107 0) (J3 107 1) i) ∧ J3 120 (clA (J3 107 0) (J3 107 1) i) ≤ 64 := fun i hi => by
        have := ft i hi
        rw [et i hi, (ec i hi).2]; exact this
      have em : ∀ p : Int, 0 ≤ p → p < 10 → mnM J3 (tdM J3) p N = mnF J2 (tdF J2 N) N p N := fun p a b => by
        rw [mnM_G lm fM ⟨a, b⟩ N (Nat.le_refl _), mnF_G v4 hN hv2 ft ⟨a, b⟩ N (Nat.le_refl _), e73, ← m2 0 (by omega) (by omega), ← m2 1 (by omega) (by omega)]
        have : ∀ i : Nat, i ≤ N → lfG (cuS (J2 107)) (fun i => clA (J2 2 0) (J2 2 1) i) (tdM J3) i p = lfG (cuS (J2 107)) (fun i => clA (J2 2 0) (J2 2 1) i) (tdF J2 N) i p := by
          intro i
          induction i with
          | zero => intro _; rfl
          | succ i ih => intro hi; rw [lfG, lfG, ih (by omega), et i (by omega)]
        exact this N (Nat.le_refl _)
      have hbM : ∀ p : Int, 0 ≤ p → p < 10 → ∀ i : Nat, i < N → (0 ≤ tdM J3 i ∧ tdM J3 i < 64) ∧ 0 ≤ J3 122 (640 * clA (J3 107 0) (J3 107 1) i + 10 * tdM J3 i + p) ∧ J3 122 (640 * clA (J3 107 0) (J3 107 1) i + 10 * tdM J3 i + p) ≤ 200 := fun p a b i hi => by
        obtain ⟨q1, q2, q3⟩ := fM i hi
        have c3 := clA_3 (a := J3 107 0) (b := J3 107 1) (i := i)
        have l := lm _ c3.1 c3.2
        have lb := cuS_b v2.2.1.1.1 v2.2.1.1.2.1.2.2.2.2 (clA (J3 107 0) (J3 107 1) i)
        generalize tdM J3 i = td at *
        generalize clA (J3 107 0) (J3 107 1) i = cc at *
        have l1 := l.1
        have hk : td.toNat < (cuS (J2 107) cc).length := by omega
        have z := (l.2 td.toNat (by omega) (cuS (J2 107) cc)[td.toNat] (by simp [hk]) p a b).2
        have bb := lb.2 _ (List.getElem_mem hk) p a b
        dsimp only at z
        rw [show 640 * cc + (10 * (td.toNat : Int) + p) = 640 * cc + 10 * td + p by omega] at z
        rw [z]
        exact ⟨⟨q1, by omega⟩, bb⟩
      have k279 := K279 (e := (z2, kd2, R2)) (L := M3) (dp := dp) (J := J3) (x := x) (N := N) (by omega) (by rw [e73]; exact ⟨u1, u2, u3, u4, u5, u6, u7, u8, u9, u10, u11, u12, u13, u14, u15, u16⟩) (by rw [e73, ← m2 0 (by omega) (by omega), ← m2 1 (by omega) (by omega), ← m2 2 (by omega) (by omega)]; exact hN) hbM (by have := hB.2.2.1; omega)
      refine Ev_mono k279 ?_
      rintro _ rfl
      have s1 : sm (fun p => bgF (J3 107 (60 + p)) (J3 107 (40 + p)) (J3 107 (50 + p)) (mnM J3 (tdM J3) p N)) 10 = sm (fun p => bgF (J2 4 (20 + p)) (J2 4 p) (J2 4 (10 + p)) (mnF J2 (tdF J2 N) N p N)) 10 := sm_congr 10 (fun p a b => by
        rw [em p a (by omega), e73, m1 (20 + p) (by omega) (by omega), m1 p (by omega) (by omega), m1 (10 + p) (by omega) (by omega), show (40 : Int) + (20 + p) = 60 + p by omega, show (40 : Int) + (10 + p) = 50 + p by omega])
      have s2 : sm (fun p => max 0 (J3 107 (60 + p) - mnM J3 (tdM J3) p N)) 10 = sm (fun p => max 0 (J2 4 (20 + p) - mnF J2 (tdF J2 N) N p N)) 10 := sm_congr 10 (fun p a b => by
        rw [em p a (by omega), e73, m1 (20 + p) (by omega) (by omega), show (40 : Int) + (20 + p) = 60 + p by omega])
      have s3 : otF (tdM J3) (fun i => J3 134 i) N = otF (tdF J2 N) (fun i => J2 55 i) N := otF_c N (fun i hi => ⟨et i hi, (fe i (by omega)).symm⟩)
      rw [s1, s2, s3, eb]
    have fin : ∀ u : Int, u = (if x = 0 then sm (fun p => bgF (J2 4 (20 + p)) (J2 4 p) (J2 4 (10 + p)) (mnF J2 (tdF J2 N) N p N)) 10 else if x = 1 then J2 51 (spt (J2 2 0) (J2 2 1) (J2 2 2)) - sm (fun p => bgF (J2 4 (20 + p)) (J2 4 p) (J2 4 (10 + p)) (mnF J2 (tdF J2 N) N p N)) 10 else if x = 2 then otF (tdF J2 N) (fun i => J2 55 i) N else sm (fun p => max 0 (J2 4 (20 + p) - mnF J2 (tdF J2 N) N p N)) 10) → PoQ tr TS b4 b5 b6 b7 len sl z kd J M R (fun n e J M => kf_279 n dp e 0 J M x 0 0 0 0 0 0) ((u, z2, kd2, J2, M2, R2), 0 + ck2 + ck, 0 + cm2 + cm) := fun u hu => by
      refine PoQ_p pf fg e12 (md _ _ _ _ _ _ _ _ _ _ _ _ v2 (fun J3 M3 f2 g2 g3 => ?_))
      obtain ⟨p1, k⟩ := ref J3 M3 f2 g2 g3
      rw [← hu] at k
      exact ⟨fun q => by omega, fun _ => k⟩
    refine Ev_adk ?_
    by_cases x0 : x = 0
    · refine Ev_t x0 (Ev_t (by omega) (Ev_bind (K138 (by omega) v2.1.2.2.1.2 hv2 hN mk ct ft) ?_))
      rintro _ rfl
      exact Ev_ret (fin _ (by rw [if_pos x0]))
    · refine Ev_f x0 ?_
      by_cases x1 : x = 1
      · refine Ev_t x1 (Ev_t (by omega) (Ev_bind (K117 (by omega) hv2) ?_))
        rintro _ rfl
        dsimp only
        refine Ev_t (by omega) (Ev_bind (K138 (by omega) v2.1.2.2.1.2 hv2 hN mk ct ft) ?_)
        rintro _ rfl
        dsimp only
        have b1 := hB.2.2.1
        exact Ev_t (by omega) (Ev_ret (fin _ (by rw [if_neg x0, if_pos x1])))
      · refine Ev_f x1 ?_
        by_cases x2 : x = 2
        · refine Ev_t x2 (Ev_t (by omega) (Ev_bind (K142 (by omega) v2.1.2.2.1.2 hv2 hN) ?_))
          rintro _ rfl
          exact Ev_ret (fin _ (by rw [if_neg x0, if_neg x1, if_pos x2]))
        · refine Ev_f x2 (Ev_t (by omega) (Ev_bind (K143 (by omega) v2.1.2.2.1.2 hv2 hN mk ct ft) ?_))
          rintro _ rfl
          exact Ev_ret (fin _ (by rw [if_neg x0, if_neg x1, if_neg x2]))
end GV
