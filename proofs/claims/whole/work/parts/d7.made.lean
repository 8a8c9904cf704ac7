section
set_option maxRecDepth 100000 in
theorem ev_125_1 {dp : Nat} {e : EN} {I : JI} {L : JI} {i1 : Int} {i2 : Int} {i3 : Int} {i4 : Int} {P_ : (Int × JI × JI) → Prop} (h : Ev (fun n => (if i3 ≤ i4 then (some ((i2 : Int), I, L)) else (if 1 ≤ dp then ((kf_121 n (dp - 1) e 0 I L i4).bind (fun ⟨x0_30, I0_30, L0_30⟩ => (if 0 ≤ x0_30 ∧ x0_30 < 3 then ((e.2.2 25 (Int.toNat x0_30)).bind (fun b_33 => (if (b_33 < e.1) ∧ ((e.2.1 b_33).1 = 2) then ((e.2.2 b_33 1).bind (fun b_34 => (if 0 ≤ i4 ∧ i4 < 8 then (if (-2147483648 ≤ (I0_30 55 i4) * 10 ∧ (I0_30 55 i4) * 10 ≤ 2147483647) ∧ (-2147483648 ≤ ((I0_30 55 i4) * 10) + i1 ∧ ((I0_30 55 i4) * 10) + i1 ≤ 2147483647) then (if ((b_34 < e.1) ∧ (((e.2.1 b_34).1 = 13) ∧ ((e.2.1 b_34).2 < (2 ^ 31)))) ∧ (0 ≤ (((I0_30 55 i4) * 10) + i1) ∧ (((I0_30 55 i4) * 10) + i1) < (((e.2.1 b_34).2 : Nat) : Int)) then (if -2147483648 ≤ i2 + (I0_30 b_34 (((I0_30 55 i4) * 10) + i1)) ∧ i2 + (I0_30 b_34 (((I0_30 55 i4) * 10) + i1)) ≤ 2147483647 then (stI (i2 + (I0_30 b_34 (((I0_30 55 i4) * 10) + i1))) (fun v_51 => (if -2147483648 ≤ i4 + 1 ∧ i4 + 1 ≤ 2147483647 then (kf_125 n dp e 1 I0_30 L0_30 i1 v_51 i3 (i4 + 1)) else none))) else none) else none) else none) else none))) else none))) else none))) else none))) P_) : Ev (fun n => kf_125 n dp e 1 I L i1 i2 i3 i4) P_ := Ev_step (fun n => ke_125_1 n dp e I L i1 i2 i3 i4) h
set_option maxRecDepth 100000 in
theorem ev_125_0 {dp : Nat} {e : EN} {I : JI} {L : JI} {i1 : Int} {i2 : Int} {i3 : Int} {i4 : Int} {P_ : (Int × JI × JI) → Prop} (h : Ev (fun n => (if 1 ≤ dp then ((kf_16 n (dp - 1) e 0 I L).bind (fun ⟨x0_6, I0_6, L0_6⟩ => (kf_125 n dp e 1 I0_6 L0_6 i1 0 x0_6 0))) else none)) P_) : Ev (fun n => kf_125 n dp e 0 I L i1 i2 i3 i4) P_ := Ev_step (fun n => ke_125_0 n dp e I L i1 i2 i3 i4) h
set_option maxRecDepth 100000 in
theorem ev_119_0 {dp : Nat} {z : Nat} {kd : (Nat → Nat × Nat)} {I : JI} {L : JI} {R : (Nat → Nat → Option Nat)} {i1 : Int} {P_ : ((Int × PSi) × Nat × Nat) → Prop} (h : Ev (fun n => (if 1 ≤ dp then ((kf_16 n (dp - 1) (z, kd, R) 0 I L).bind (fun ⟨x_6, I_6, L_6⟩ => (if 1 ≤ dp then (if -2147483648 ≤ x_6 - 1 ∧ x_6 - 1 ≤ 2147483647 then ((kf_14 n (dp - 1) (z, kd, R) 0 I_6 L_6 i1 0 (x_6 - 1)).bind (fun ⟨x_11, I_11, L_11⟩ => (if x_11 = 0 then (some ((((-1) : Int), z, kd, I_11, L_11, R), 0, 0)) else (if 1 ≤ dp then ((kf_91 n (dp - 1) 0 z kd I_11 L_11 R).bind (fun ⟨⟨x_18, z_18, kd_18, I_18, L_18, R_18⟩, ck_18, cm_18⟩ => (adk ck_18 cm_18 (if x_18 = 0 then (some ((((-1) : Int), z_18, kd_18, I_18, L_18, R_18), 0, 0)) else (if 1 ≤ dp then ((kf_120 n (dp - 1) 0 z_18 kd_18 I_18 L_18 R_18 0 0 0 0).bind (fun ⟨⟨z_30, kd_30, I_30, L_30, R_30⟩, ck_30, cm_30⟩ => (adk ck_30 cm_30 (if 0 ≤ i1 ∧ i1 < 8 then (some ((((I_30 55 i1) : Int), z_30, kd_30, I_30, L_30, R_30), 0, 0)) else none)))) else none))))) else none)))) else none) else none))) else none)) P_) : Ev (fun n => kf_119 n dp 0 z kd I L R i1) P_ := Ev_step (fun n => ke_119_0 n dp z kd I L R i1) h
set_option maxRecDepth 100000 in
theorem ev_270_0 {dp : Nat} {e : EN} {I : JI} {L : JI} {i1 : Int} {P_ : (Int × JI × JI) → Prop} (h : Ev (fun n => (stI (w2 I 105 0 0) (fun I_2 => (if 1 ≤ dp then ((kf_261 n (dp - 1) e 0 I_2 L 0 0 0 0).bind (fun ⟨x0_6, I0_6, L0_6⟩ => (if x0_6 = 0 then (some (((-1) : Int), I0_6, L0_6)) else (if 1 ≤ dp then ((kf_198 n (dp - 1) e 0 I0_6 L0_6).bind (fun ⟨x1_16, I1_16, L1_16⟩ => (if 1 ≤ dp then (if -9223372036854775808 ≤ x1_16 - 1 ∧ x1_16 - 1 ≤ 9223372036854775807 then ((kf_193 n (dp - 1) e 0 I1_16 L1_16 i1 0 (x1_16 - 1)).bind (fun ⟨x2_22, I2_22, L2_22⟩ => (if x2_22 = 0 then (some (((-1) : Int), I2_22, L2_22)) else (if 0 ≤ i1 ∧ i1 < 8 then (some (((I2_22 134 i1) : Int), I2_22, L2_22)) else none)))) else none) else none))) else none)))) else none)))) P_) : Ev (fun n => kf_270 n dp e 0 I L i1) P_ := Ev_step (fun n => ke_270_0 n dp e I L i1) h
set_option maxRecDepth 100000 in
theorem ev_124_0 {dp : Nat} {z : Nat} {kd : (Nat → Nat × Nat)} {I : JI} {L : JI} {R : (Nat → Nat → Option Nat)} {i1 : Int} {i2 : Int} {P_ : ((Int × PSi) × Nat × Nat) → Prop} (h : Ev (fun n => (if 1 ≤ dp then ((kf_14 n (dp - 1) (z, kd, R) 0 I L i1 0 9).bind (fun ⟨x_4, I_4, L_4⟩ => (if x_4 = 0 then (some ((((-1) : Int), z, kd, I_4, L_4, R), 0, 0)) else (if 1 ≤ dp then ((kf_14 n (dp - 1) (z, kd, R) 0 I_4 L_4 i2 0 1).bind (fun ⟨x_13, I_13, L_13⟩ => (if x_13 = 0 then (some ((((-1) : Int), z, kd, I_13, L_13, R), 0, 0)) else (if 1 ≤ dp then ((kf_91 n (dp - 1) 0 z kd I_13 L_13 R).bind (fun ⟨⟨x_20, z_20, kd_20, I_20, L_20, R_20⟩, ck_20, cm_20⟩ => (adk ck_20 cm_20 (if x_20 = 0 then (some ((((-1) : Int), z_20, kd_20, I_20, L_20, R_20), 0, 0)) else (if 1 ≤ dp then ((kf_120 n (dp - 1) 0 z_20 kd_20 I_20 L_20 R_20 0 0 0 0).bind (fun ⟨⟨z_32, kd_32, I_32, L_32, R_32⟩, ck_32, cm_32⟩ => (adk ck_32 cm_32 (if 1 ≤ dp then ((kf_125 n (dp - 1) (z_32, kd_32, R_32) 0 I_32 L_32 i1 0 0 0).bind (fun ⟨x_40, I_40, L_40⟩ => (if i2 = 0 then (some (((x_40 : Int), z_32, kd_32, I_40, L_40, R_32), 0, 0)) else (if 1 ≤ dp then ((kf_126 n (dp - 1) (z_32, kd_32, R_32) 0 I_40 L_40 i1 x_40).bind (fun ⟨x_58, I_58, L_58⟩ => (some (((x_58 : Int), z_32, kd_32, I_58, L_58, R_32), 0, 0)))) else none)))) else none)))) else none))))) else none)))) else none)))) else none)) P_) : Ev (fun n => kf_124 n dp 0 z kd I L R i1 i2) P_ := Ev_step (fun n => ke_124_0 n dp z kd I L R i1 i2) h
set_option maxRecDepth 100000 in
theorem ev_271_0 {dp : Nat} {e : EN} {I : JI} {L : JI} {i1 : Int} {i2 : Int} {P_ : (Int × JI × JI) → Prop} (h : Ev (fun n => (stI (w2 I 105 0 0) (fun I_2 => (if 1 ≤ dp then ((kf_202 n (dp - 1) e 0 I_2 L i1).bind (fun ⟨x0_6, I0_6, L0_6⟩ => (if x0_6 = 0 then (some (((-1) : Int), I0_6, L0_6)) else (if 1 ≤ dp then ((kf_193 n (dp - 1) e 0 I0_6 L0_6 i2 0 1).bind (fun ⟨x1_16, I1_16, L1_16⟩ => (if x1_16 = 0 then (some (((-1) : Int), I1_16, L1_16)) else (if 1 ≤ dp then ((kf_261 n (dp - 1) e 0 I1_16 L1_16 0 0 0 0).bind (fun ⟨x2_23, I2_23, L2_23⟩ => (if x2_23 = 0 then (some (((-1) : Int), I2_23, L2_23)) else (if i2 = 0 then (if 0 ≤ i1 ∧ i1 < 10 then (some (((I2_23 135 i1) : Int), I2_23, L2_23)) else none) else (if -2147483648 ≤ 60 + i1 ∧ 60 + i1 ≤ 2147483647 then (if 0 ≤ (60 + i1) ∧ (60 + i1) < 1570 then (if 0 ≤ i1 ∧ i1 < 10 then (if 1 ≤ dp then ((kf_272 n (dp - 1) e 0 I2_23 L2_23 (I2_23 107 (60 + i1)) (I2_23 135 i1)).bind (fun ⟨x3_59, I3_59, L3_59⟩ => (some ((x3_59 : Int), I3_59, L3_59)))) else none) else none) else none) else none))))) else none)))) else none)))) else none)))) P_) : Ev (fun n => kf_271 n dp e 0 I L i1 i2) P_ := Ev_step (fun n => ke_271_0 n dp e I L i1 i2) h
set_option maxRecDepth 100000 in
theorem ev_272_0 {dp : Nat} {e : EN} {I : JI} {L : JI} {i0 : Int} {i1 : Int} {P_ : (Int × JI × JI) → Prop} (h : Ev (fun n => (if i0 ≤ i1 then (some ((0 : Int), I, L)) else (if -2147483648 ≤ i0 - i1 ∧ i0 - i1 ≤ 2147483647 then (some (((i0 - i1) : Int), I, L)) else none))) P_) : Ev (fun n => kf_272 n dp e 0 I L i0 i1) P_ := Ev_step (fun n => ke_272_0 n dp e I L i0 i1) h
set_option maxRecDepth 100000 in
theorem ev_126_0 {dp : Nat} {e : EN} {I : JI} {L : JI} {i1 : Int} {i2 : Int} {P_ : (Int × JI × JI) → Prop} (h : Ev (fun n => (if -2147483648 ≤ 20 + i1 ∧ 20 + i1 ≤ 2147483647 then (if 0 ≤ (20 + i1) ∧ (20 + i1) < 30 then (if 1 ≤ dp then (if -2147483648 ≤ (I 4 (20 + i1)) - i2 ∧ (I 4 (20 + i1)) - i2 ≤ 2147483647 then (some (((max 0 ((I 4 (20 + i1)) - i2)) : Int), I, L)) else none) else none) else none) else none)) P_) : Ev (fun n => kf_126 n dp e 0 I L i1 i2) P_ := Ev_step (fun n => ke_126_0 n dp e I L i1 i2) h
end
/-! PLANS: plan, made -/
theorem lyL_g {o : Nat → OF} : ∀ (N i l : Nat), i + l + 1 = N → (lyL o N)[i]? = some (o l)
  | 0, i, l, h => by omega
  | N + 1, 0, l, h => by rw [lyL, show l = N by omega]; rfl
  | N + 1, i + 1, l, h => by rw [lyL, List.getElem?_cons_succ]; exact lyL_g N i l (by omega)
/-- the first is among the cuttings -/
theorem FiI_b {J : JI} {N : Nat} (hN : J 2 0 + J 2 1 + J 2 2 = N) (h : FiI J) : ∀ i l : Nat, i + l + 1 = N → 0 ≤ J 55 i ∧ J 55 i < J (58 + 5 * clR (J 2 1) (J 2 2) l) 4 := fun i l e => by
  have := FsO_b h i (of0 J (clR (J 2 1) (J 2 2) l)) (by unfold lyC; rw [hN, show ((N : Int)).toNat = N by omega]; exact lyL_g N i l e)
  have q : ((of0 J (clR (J 2 1) (J 2 2) l)).1 : Int) = ((J (58 + 5 * clR (J 2 1) (J 2 2) l) 4).toNat : Int) := rfl
  omega
/-- how many of part p the first i carcasses leave, if they are cut by f -/
def mnF (J : JI) (f : Nat → Int) (N : Nat) (p : Int) : Nat → Int
  | 0 => 0
  | i + 1 => mnF J f N p i + J (58 + 5 * clR (J 2 1) (J 2 2) (N - 1 - i) + 2) (10 * f i + p)
theorem mnF_c {J J' : JI} {f f' : Nat → Int} {N : Nat} {p : Int} : ∀ i : Nat, i ≤ N → (∀ k, k < i → J' (58 + 5 * clR (J' 2 1) (J' 2 2) (N - 1 - k) + 2) (10 * f' k + p) = J (58 + 5 * clR (J 2 1) (J 2 2) (N - 1 - k) + 2) (10 * f k + p)) → mnF J' f' N p i = mnF J f N p i
  | 0, _, _ => rfl
  | i + 1, hi, h => by rw [mnF, mnF, mnF_c i (by omega) (fun k hk => h k (by omega)), h i (by omega)]
theorem clR_3 {b c : Int} {i : Nat} : clR b c i < 3 := by unfold clR; (repeat' split) <;> omega
/-- cuttings f that are there -/
def fOk (J : JI) (f : Nat → Int) (N : Nat) : Prop := ∀ i, i < N → 0 ≤ f i ∧ f i < J (58 + 5 * clR (J 2 1) (J 2 2) (N - 1 - i)) 4 ∧ J (58 + 5 * clR (J 2 1) (J 2 2) (N - 1 - i)) 4 ≤ 64
theorem mnF_b {J : JI} {f : Nat → Int} {N : Nat} {p : Int} (hC : ∀ c : Nat, c < 3 → ctK J c) (hf : fOk J f N) (hp : 0 ≤ p ∧ p < 10) : ∀ i : Nat, i ≤ N → 0 ≤ mnF J f N p i ∧ mnF J f N p i ≤ 200 * (i : Int)
  | 0, _ => by rw [mnF]; omega
  | i + 1, hi => by
    have r := mnF_b hC hf hp i (by omega)
    obtain ⟨q1, q2, q3⟩ := hf i (by omega)
    have b := (hC _ (clR_3 (b := J 2 1) (c := J 2 2) (i := N - 1 - i))).2 q3 (f i).toNat (by omega) p hp.1 hp.2
    rw [show ((f i).toNat : Int) = f i by omega] at b
    rw [mnF]
    omega
/-- the same in lists -/
theorem mnF_G {J : JI} {lc : Int → List CT} {f : Nat → Int} {N : Nat} {p : Int} (hL : LsC J lc) (hN : J 2 0 + J 2 1 + J 2 2 = N) (hv : vlP (J 2 0) (J 2 1) (J 2 2)) (hf : fOk J f N) (hp : 0 ≤ p ∧ p < 10) : ∀ i : Nat, i ≤ N → mnF J f N p i = lfG lc (fun i => clA (J 2 0) (J 2 1) i) f i p
  | 0, _ => rfl
  | i + 1, hi => by
    rw [mnF, lfG, mnF_G hL hN hv hf hp i (by omega)]
    obtain ⟨q1, q2, q3⟩ := hf i (by omega)
    have ec : clA (J 2 0) (J 2 1) i = ((clR (J 2 1) (J 2 2) (N - 1 - i) : Nat) : Int) := by
      unfold vlP at hv
      unfold clA clR
      by_cases x : (i : Int) < J 2 0
      · rw [if_pos x, if_neg (by omega), if_neg (by omega)]; rfl
      · rw [if_neg x]
        by_cases y : (i : Int) < J 2 0 + J 2 1
        · rw [if_pos y, if_neg (by omega), if_pos (by omega)]; rfl
        · rw [if_neg y, if_pos (by omega)]; rfl
    have l := hL _ (clR_3 (b := J 2 1) (c := J 2 2) (i := N - 1 - i))
    rw [ec]
    generalize clR (J 2 1) (J 2 2) (N - 1 - i) = cc at *
    have l1 := l.1
    have hk : (f i).toNat < (lc cc).length := by omega
    have z := (l.2 (f i).toNat (by omega) (lc cc)[(f i).toNat] (by simp [hk]) p hp.1 hp.2).2
    unfold lvG
    rw [if_pos hp, List.getElem?_eq_getElem hk]
    dsimp only
    rw [← z, show ((f i).toNat : Int) = f i by omega]
section KM
variable {e : EN} {L : JI}
theorem K125 {dp N : Nat} {J : JI} {p : Int} (hd : 2 ≤ dp) (hQ : ∀ c : Nat, c < 3 → CtO e (58 + 5 * c) ∧ e.2.2 25 c = some (58 + 5 * c)) (hv : vlP (J 2 0) (J 2 1) (J 2 2)) (hN : J 2 0 + J 2 1 + J 2 2 = N) (hC : ∀ c : Nat, c < 3 → ctK J c) (hf : fOk J (fun i => J 55 i) N) (hp : 0 ≤ p ∧ p < 10) : Ev (fun n => kf_125 n dp e 0 J L p 0 0 0) (fun r => r = (mnF J (fun i => J 55 i) N p N, J, L)) := by
  have hv0 := hv
  unfold vlP at hv0
  have key : ∀ i : Nat, i ≤ N → Ev (fun n => kf_125 n dp e 1 J L p (mnF J (fun i => J 55 i) N p i) N i) (fun r => r = (mnF J (fun i => J 55 i) N p N, J, L)) := by
    refine dec_ind N (fun i hi ih => ?_)
    refine ev_125_1 ?_
    by_cases ci : i < N
    · have ih := ih ci
      have mb := mnF_b hC hf hp i (by omega)
      obtain ⟨q1, q2, q3⟩ := hf i ci
      have c3 := clR_3 (b := J 2 1) (c := J 2 2) (i := N - 1 - i)
      have b := (hC _ c3).2 q3 (J 55 i).toNat (by dsimp only at q1 q2; omega) p hp.1 hp.2
      dsimp only at q1 q2
      rw [show ((J 55 i).toNat : Int) = J 55 i by omega] at b
      refine Ev_f (by omega) (Ev_t (by omega) (Ev_bind (K121 hv hN (show i + (N - 1 - i) + 1 = N by omega)) ?_))
      rintro _ rfl
      dsimp only
      rw [mnF] at ih
      generalize clR (J 2 1) (J 2 2) (N - 1 - i) = cc at *
      obtain ⟨t1, t2⟩ := hQ cc c3
      have t2' : e.2.2 25 (Int.toNat (cc : Int)) = some (58 + 5 * cc) := by rw [show (cc : Int).toNat = cc by omega]; exact t2
      refine Ev_t (by omega) (Ev_R t2' (Ev_t t1.1 (Ev_R t1.2.2.1.1 (Ev_t (by omega) (Ev_t (by omega) (Ev_t (arI t1.2.2.1.2 (by omega) (by omega)) ?_))))))
      rw [show J 55 i * 10 + p = 10 * J 55 i + p by omega]
      refine Ev_t (by omega) (Ev_st (Ev_t (by omega) ?_))
      rw [show (i : Int) + 1 = ((i + 1 : Nat) : Int) by omega]
      exact ih
    · have : i = N := by omega
      subst this
      exact Ev_t (by omega) (Ev_ret rfl)
  refine ev_125_0 ?_
  refine Ev_t (by omega) (Ev_bind (K16 (by omega)) ?_)
  rintro _ rfl
  dsimp only
  rw [hN]
  exact key 0 (by omega)
end KM
section PO
variable {tr : Nat} {TS : Nat → Prop} {z : Nat} {kd : KD} {R : RF} {J M : JI} {b4 b5 b6 b7 len sl : Nat}
theorem PW_fo {N : Nat} (h : PW tr TS z kd R J b4 b5 b6 b7 len sl) (h15 : J 24 15 = 0) (hN : J 2 0 + J 2 1 + J 2 2 = N) : fOk J (fun i => J 55 i) N := by
  obtain ⟨f1, f2, f3⟩ := h.2.2.2.2.1 h15
  have hv := PW_v h
  unfold vlP at hv
  intro i hi
  have b := FiI_b hN f2 i (N - 1 - i) (by omega)
  have q := PlK_c f1 (i := N - 1 - i) (by omega) hv.1 hv.2.1 hv.2.2.1
  exact ⟨b.1, b.2, q.2⟩
theorem o_plan {dp : Nat} {x : Int} (hd : 20 ≤ dp) (hE : J 24 12 ≤ 999999) (h : PW tr TS z kd R J b4 b5 b6 b7 len sl) : Ev (fun n => kf_119 n dp 0 z kd J M R x) (PoQ tr TS b4 b5 b6 b7 len sl z kd J M R (fun n e J M => kf_270 n dp e 0 J M x)) := by
  have hv := PW_v h
  unfold vlP at hv
  refine ev_119_0 ?_
  refine Ev_t (by omega) (Ev_bind (K16 (by omega)) ?_)
  rintro _ rfl
  dsimp only
  have md : ∀ (z1 : Nat) (kd1 : KD) (J1 M1 : JI) (R1 : RF) (c4 c5 c6 c7 len1 sl1 : Nat) (u : Int), PW tr TS z1 kd1 R1 J1 c4 c5 c6 c7 len1 sl1 → J1 107 = J 107 → (∀ J2 M2 : JI, FrMp J1 J2 M1 M2 → PW tr TS z1 kd1 R1 J2 c4 c5 c6 c7 len1 sl1 → J2 105 51 = 1 → u = if J2 105 52 = 0 then -1 else if 0 ≤ x ∧ x ≤ J 2 0 + J 2 1 + J 2 2 - 1 then J2 134 x else -1) → Ev (fun n => kf_270 n dp (z1, kd1, R1) 0 J1 M1 x) (fun r => r.1 = u ∧ PW tr TS z1 kd1 R1 r.2.1 c4 c5 c6 c7 len1 sl1 ∧ FrMp J1 r.2.1 M1 r.2.2) := fun z1 kd1 J1 M1 R1 c4 c5 c6 c7 len1 sl1 u g e7 hu => by
    refine ev_270_0 ?_
    refine Ev_th g.2.1.1.2.2.2.1 (Ev_t (by omega) (Ev_bind (M261 (by omega) g) ?_))
    rintro ⟨a, J2, M2⟩ ⟨r1, r2, r3, r4⟩
    dsimp only at r1 r2 r3 r4 ⊢
    subst r4
    have e := hu J2 M2 r2 r1 r3
    by_cases c : J2 105 52 = 0
    · rw [if_pos c] at e
      exact Ev_t c (Ev_ret ⟨e.symm, r1, r2⟩)
    · rw [if_neg c] at e
      have e72 : J2 107 = J 107 := (funext fun i => r2.1 _ _ (by omega) (by omega)).trans e7
      have m2 := h.2.2.1.2.1
      rw [m2 0 (by omega) (by omega), m2 1 (by omega) (by omega), m2 2 (by omega) (by omega)] at e hv
      refine Ev_f c (Ev_t (by omega) (Ev_bind (K198 (by rw [e72]; omega)) ?_))
      rintro _ rfl
      dsimp only
      rw [e72]
      refine Ev_t (by omega) (Ev_t (by omega) (Ev193 (fun hx => ?_) (fun hx => ?_)))
      · rw [if_pos hx] at e
        exact Ev_f (by omega) (Ev_t (by omega) (Ev_ret ⟨e.symm, r1, r2⟩))
      · rw [if_neg hx] at e
        exact Ev_t rfl (Ev_ret ⟨e.symm, r1, r2⟩)
  refine Ev_t (by omega) (Ev_t (by omega) (Ev14 (fun hx => ?_) (fun hx => ?_)))
  case' refine_2 =>
    dsimp only
    refine Ev_t rfl (Ev_ret (PoQ_p PotS_r (FrGx_J (fun _ _ _ => rfl)) (by omega) (md _ _ _ _ _ _ _ _ _ _ _ _ h rfl (fun J2 M2 _ _ _ => ?_))))
    rw [if_neg hx]; split <;> rfl
  dsimp only
  refine Ev_f (by omega) (Ev_t (by omega) (Ev_bind (R91 (by omega) hE h) ?_))
  rintro ⟨⟨v, z1, kd1, J1, M1, R1⟩, ck, cm⟩ ⟨z', kd', J', M', R', c4, c5, c6, c7, len1, sl1, w1, w2', w3, w4, w5, w6, w7⟩
  dsimp only at w1 w6 w7 ⊢
  obtain ⟨rfl, rfl, rfl, rfl, rfl⟩ : z1 = z' ∧ kd1 = kd' ∧ J1 = J' ∧ M1 = M' ∧ R1 = R' := by simpa using w1
  refine Ev_adk ?_
  rcases w6 with ⟨rfl, w6⟩ | ⟨rfl, w6⟩
  · refine Ev_t rfl (Ev_ret (PoQ_p (by rw [Nat.zero_add, Nat.zero_add]; exact w7) w3 w4.1 (md _ _ _ _ _ _ _ _ _ _ _ _ w2' w4.2.1 (fun J2 M2 f2 g2 g3 => ?_))))
    rcases plR_e w2' w5 g2 f2 g3 with ⟨p1, p2⟩ | ⟨p1, p2, p3⟩
    · rw [if_pos p1]
    · exact absurd p2 w6
  · refine Ev_f (by omega) (Ev_t (by omega) (Ev_bind (R120 (by omega) w2' w5 w6) ?_))
    rintro ⟨⟨z2, kd2, J2, M2, R2⟩, ck2, cm2⟩ ⟨z', kd', J', M', R', d4, d5, d6, d7, len2, sl2, v1, v2, v3, v4, v5, v6, v7⟩
    dsimp only at v1 v7 ⊢
    obtain ⟨rfl, rfl, rfl, rfl, rfl⟩ : z2 = z' ∧ kd2 = kd' ∧ J2 = J' ∧ M2 = M' ∧ R2 = R' := by simpa using v1
    have e2 : ∀ i, J2 2 i = J 2 i := fun i => (v6.2.1 i).trans (w4.2.2 i)
    refine Ev_adk (Ev_t (by omega) (Ev_ret (PoQ_p (by rw [Nat.zero_add, Nat.zero_add]; exact PotS_t w7 v7) (FrGx_t w3 (FrGx_m XP_W v3)) (by rw [v6.2.2]; exact w4.1) (md _ _ _ _ _ _ _ _ _ _ _ _ v2 (v6.1.trans w4.2.1) (fun J3 M3 f2 g2 g3 => ?_)))))
    obtain ⟨f1, fi, _⟩ := v2.2.2.2.2.1 v5.2
    rcases plR_e v2 v4 g2 f2 g3 with ⟨p1, p2⟩ | ⟨p1, p2, p3⟩
    · exact absurd f1 p2
    · rw [if_neg (by omega), if_pos hx]
      have := plR_f v2 v4 p3 f1 fi x.toNat (by rw [e2, e2, e2]; omega)
      rw [show ((x.toNat : Nat) : Int) = x by omega] at this
      exact this
theorem o_made {dp : Nat} {x y : Int} (hd : 20 ≤ dp) (hE : J 24 12 ≤ 999999) (h : PW tr TS z kd R J b4 b5 b6 b7 len sl) : Ev (fun n => kf_124 n dp 0 z kd J M R x y) (PoQ tr TS b4 b5 b6 b7 len sl z kd J M R (fun n e J M => kf_271 n dp e 0 J M x y)) := by
  refine ev_124_0 ?_
  refine Ev_t (by omega) (Ev14 (fun hx => ?_) (fun hx => ?_))
  case' refine_2 =>
    refine Ev_t rfl (Ev_ret (PoQ_r h ?_))
    refine ev_271_0 ?_
    exact Ev_th h.2.1.1.2.2.2.1 (Ev_t (by omega) (Ev202f (by omega) hx (Ev_t rfl (Ev_ret rfl))))
  dsimp only
  refine Ev_f (by omega) (Ev_t (by omega) (Ev14 (fun hy => ?_) (fun hy => ?_)))
  case' refine_2 =>
    refine Ev_t rfl (Ev_ret (PoQ_r h ?_))
    refine ev_271_0 ?_
    exact Ev_th h.2.1.1.2.2.2.1 (Ev_t (by omega) (Ev202t (by omega) hx (Ev_f (by omega) (Ev_t (by omega) (Ev193f hy (Ev_t rfl (Ev_ret rfl)))))))
  dsimp only
  have md : ∀ (z1 : Nat) (kd1 : KD) (J1 M1 : JI) (R1 : RF) (c4 c5 c6 c7 len1 sl1 : Nat) (u : Int), PW tr TS z1 kd1 R1 J1 c4 c5 c6 c7 len1 sl1 → J1 107 = J 107 → (∀ J2 M2 : JI, FrMp J1 J2 M1 M2 → PW tr TS z1 kd1 R1 J2 c4 c5 c6 c7 len1 sl1 → J2 105 51 = 1 → (¬ J2 105 52 = 0 → 0 ≤ J2 135 x ∧ J2 135 x ≤ 100000) ∧ u = if J2 105 52 = 0 then -1 else if y = 0 then J2 135 x else max 0 (J 107 (60 + x) - J2 135 x)) → Ev (fun n => kf_271 n dp (z1, kd1, R1) 0 J1 M1 x y) (fun r => r.1 = u ∧ PW tr TS z1 kd1 R1 r.2.1 c4 c5 c6 c7 len1 sl1 ∧ FrMp J1 r.2.1 M1 r.2.2) := fun z1 kd1 J1 M1 R1 c4 c5 c6 c7 len1 sl1 u g e7 hu => by
    refine ev_271_0 ?_
    refine Ev_th g.2.1.1.2.2.2.1 (Ev_t (by omega) (Ev202t (by omega) hx (Ev_f (by omega) (Ev_t (by omega) (Ev193t hy (Ev_f (by omega) (Ev_t (by omega) (Ev_bind (M261 (by omega) g) ?_))))))))
    rintro ⟨a, J2, M2⟩ ⟨r1, r2, r3, r4⟩
    dsimp only at r1 r2 r3 r4 ⊢
    subst r4
    obtain ⟨eb, e⟩ := hu J2 M2 r2 r1 r3
    have e72 : J2 107 = J 107 := (funext fun i => r2.1 _ _ (by omega) (by omega)).trans e7
    by_cases c : J2 105 52 = 0
    · rw [if_pos c] at e
      exact Ev_t c (Ev_ret ⟨e.symm, r1, r2⟩)
    · rw [if_neg c] at e
      have eb := eb c
      refine Ev_f c ?_
      by_cases cy : y = 0
      · rw [if_pos cy] at e
        exact Ev_t cy (Ev_t (by omega) (Ev_ret ⟨e.symm, r1, r2⟩))
      · rw [if_neg cy] at e
        have u12 := h.2.2.1.2.2.2.2.2.2.2.2.2.2.2.2.2.1 (60 + x) (by omega) (by omega)
        refine Ev_f cy (Ev_t (by omega) (Ev_t (by omega) (Ev_t (by omega) (Ev_t (by omega) ?_))))
        rw [e72]
        have k272 : Ev (fun n => kf_272 n (dp - 1) (z1, kd1, R1) 0 J2 M2 (J 107 (60 + x)) (J2 135 x)) (fun r => r = (max 0 (J 107 (60 + x) - J2 135 x), J2, M2)) := by
          refine ev_272_0 ?_
          by_cases q : J 107 (60 + x) ≤ J2 135 x
          · refine Ev_t q (Ev_ret ?_)
            rw [show max (0 : Int) (J 107 (60 + x) - J2 135 x) = 0 by omega]
          · refine Ev_f q (Ev_t (by omega) (Ev_ret ?_))
            rw [show max (0 : Int) (J 107 (60 + x) - J2 135 x) = J 107 (60 + x) - J2 135 x by omega]
        refine Ev_bind k272 ?_
        rintro _ rfl
        exact Ev_ret ⟨e.symm, r1, r2⟩
  refine Ev_f (by omega) (Ev_t (by omega) (Ev_bind (R91 (by omega) hE h) ?_))
  rintro ⟨⟨v, z1, kd1, J1, M1, R1⟩, ck, cm⟩ ⟨z', kd', J', M', R', c4, c5, c6, c7, len1, sl1, w1, w2', w3, w4, w5, w6, w7⟩
  dsimp only at w1 w6 w7 ⊢
  obtain ⟨rfl, rfl, rfl, rfl, rfl⟩ : z1 = z' ∧ kd1 = kd' ∧ J1 = J' ∧ M1 = M' ∧ R1 = R' := by simpa using w1
  refine Ev_adk ?_
  rcases w6 with ⟨rfl, w6⟩ | ⟨rfl, w6⟩
  · refine Ev_t rfl (Ev_ret (PoQ_p (by rw [Nat.zero_add, Nat.zero_add]; exact w7) w3 w4.1 (md _ _ _ _ _ _ _ _ _ _ _ _ w2' w4.2.1 (fun J2 M2 f2 g2 g3 => ?_))))
    rcases plR_e w2' w5 g2 f2 g3 with ⟨p1, p2⟩ | ⟨p1, p2, p3⟩
    · exact ⟨fun q => absurd p1 q, by rw [if_pos p1]⟩
    · exact absurd p2 w6
  · refine Ev_f (by omega) (Ev_t (by omega) (Ev_bind (R120 (by omega) w2' w5 w6) ?_))
    rintro ⟨⟨z2, kd2, J2, M2, R2⟩, ck2, cm2⟩ ⟨z', kd', J', M', R', d4, d5, d6, d7, len2, sl2, v1, v2, v3, v4, v5, v6, v7⟩
    dsimp only at v1 v7 ⊢
    obtain ⟨rfl, rfl, rfl, rfl, rfl⟩ : z2 = z' ∧ kd2 = kd' ∧ J2 = J' ∧ M2 = M' ∧ R2 = R' := by simpa using v1
    have hv2 := PW_v v2
    have hv0 := hv2
    unfold vlP at hv0
    obtain ⟨N, hN⟩ : ∃ N : Nat, J2 2 0 + J2 2 1 + J2 2 2 = N := ⟨(J2 2 0 + J2 2 1 + J2 2 2).toNat, by omega⟩
    have fo := PW_fo v2 v5.2 hN
    have mb := mnF_b (p := x) (PW_ct v2 v4) fo (by omega) N (Nat.le_refl _)
    refine Ev_adk (Ev_t (by omega) (Ev_bind (K125 (by omega) v2.1.2.2.1.2 hv2 hN (PW_ct v2 v4) fo (by omega)) ?_))
    rintro _ rfl
    dsimp only
    obtain ⟨f1, fi, _⟩ := v2.2.2.2.2.1 v5.2
    have cmp : ∀ J3 M3 : JI, FrMp J2 J3 M2 M3 → PW tr TS z2 kd2 R2 J3 d4 d5 d6 d7 len2 sl2 → J3 105 51 = 1 → J3 105 52 = 1 ∧ J3 135 x = mnF J2 (fun i => J2 55 i) N x N := fun J3 M3 f2 g2 g3 => by
      rcases plR_e v2 v4 g2 f2 g3 with ⟨p1, p2⟩ | ⟨p1, p2, p3⟩
      · exact absurd f1 p2
      · refine ⟨p1, ?_⟩
        have m2 := v2.2.2.1.2.1
        rw [p3.2.2.2.2 x (by omega) (by omega), ← m2 0 (by omega) (by omega), ← m2 1 (by omega) (by omega), ← m2 2 (by omega) (by omega), hN, show ((N : Int)).toNat = N by omega]
        have fe := plR_f v2 v4 p3 f1 fi
        have fo' : fOk J2 (fun i => J3 134 i) N := fun i hi => by
          have := fo i hi
          dsimp only at this ⊢
          rw [← fe i (by omega)]; exact this
        rw [← mnF_G v4 hN hv2 fo' (by omega) N (Nat.le_refl _)]
        exact mnF_c N (Nat.le_refl _) (fun k hk => by rw [fe k (by omega)])
    have pf : PotS len sl len2 sl2 (0 + ck2 + ck) (0 + cm2 + cm) := by rw [Nat.zero_add, Nat.zero_add]; exact PotS_t w7 v7
    have fg : FrGx XW b4 b5 b6 b7 z kd J M R d4 d5 d6 d7 z2 kd2 J2 M2 R2 := FrGx_t w3 (FrGx_m XP_W v3)
    by_cases cy : y = 0
    · refine Ev_t cy (Ev_ret (PoQ_p pf fg (by rw [v6.2.2]; exact w4.1) (md _ _ _ _ _ _ _ _ _ _ _ _ v2 (v6.1.trans w4.2.1) (fun J3 M3 f2 g2 g3 => ?_))))
      obtain ⟨p1, p2⟩ := cmp J3 M3 f2 g2 g3
      rw [p2, if_neg (by omega), if_pos cy]
      exact ⟨fun _ => by omega, rfl⟩
    · have mk := PW_mk v2
      have m1 := v2.2.2.1.1 (20 + x) (by omega) (by omega)
      have mw := (mk.1 x (by omega) (by omega)).1
      unfold wnC at mw
      have k126 : Ev (fun n => kf_126 n (dp - 1) (z2, kd2, R2) 0 J2 M2 x (mnF J2 (fun i => J2 55 i) N x N)) (fun r => r = (max 0 (J2 4 (20 + x) - mnF J2 (fun i => J2 55 i) N x N), J2, M2)) := by
        refine ev_126_0 ?_
        exact Ev_t (by omega) (Ev_t (by omega) (Ev_t (by omega) (Ev_t (by omega) (Ev_ret rfl))))
      refine Ev_f cy (Ev_t (by omega) (Ev_bind k126 ?_))
      rintro _ rfl
      dsimp only
      refine Ev_ret (PoQ_p pf fg (by rw [v6.2.2]; exact w4.1) (md _ _ _ _ _ _ _ _ _ _ _ _ v2 (v6.1.trans w4.2.1) (fun J3 M3 f2 g2 g3 => ?_)))
      obtain ⟨p1, p2⟩ := cmp J3 M3 f2 g2 g3
      rw [p2, if_neg (by omega), if_neg cy]
      refine ⟨fun _ => by omega, ?_⟩
      rw [m1, show (40 : Int) + (20 + x) = 60 + x by omega, v6.1.trans w4.2.1]
end PO
