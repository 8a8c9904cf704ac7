section
set_option maxRecDepth 100000 in
theorem ev_133_0 {dp : Nat} {z : Nat} {kd : (Nat → Nat × Nat)} {I : JI} {L : JI} {R : (Nat → Nat → Option Nat)} {i1 : Int} {i2 : Int} {P_ : ((Int × PSi) × Nat × Nat) → Prop} (h : Ev (fun n => (if 1 ≤ dp then ((kf_14 n (dp - 1) (z, kd, R) 0 I L i1 0 2).bind (fun ⟨x_3, I_3, L_3⟩ => (if x_3 = 0 then (some ((((-1) : Int), z, kd, I_3, L_3, R), 0, 0)) else (if 1 ≤ dp then ((kf_14 n (dp - 1) (z, kd, R) 0 I_3 L_3 i2 0 1).bind (fun ⟨x_12, I_12, L_12⟩ => (if x_12 = 0 then (some ((((-1) : Int), z, kd, I_12, L_12, R), 0, 0)) else (if 0 ≤ i1 ∧ i1 < 3 then (if (I_12 2 i1) = 0 then (some ((((-1) : Int), z, kd, I_12, L_12, R), 0, 0)) else (if 1 ≤ dp then ((kf_91 n (dp - 1) 0 z kd I_12 L_12 R).bind (fun ⟨⟨x_31, z_31, kd_31, I_31, L_31, R_31⟩, ck_31, cm_31⟩ => (adk ck_31 cm_31 (if x_31 = 0 then (some ((((-1) : Int), z_31, kd_31, I_31, L_31, R_31), 0, 0)) else (if 1 ≤ dp then ((kf_120 n (dp - 1) 0 z_31 kd_31 I_31 L_31 R_31 0 0 0 0).bind (fun ⟨⟨z_43, kd_43, I_43, L_43, R_43⟩, ck_43, cm_43⟩ => (adk ck_43 cm_43 (if 1 ≤ dp then ((kf_134 n (dp - 1) 0 z_43 kd_43 I_43 L_43 R_43 i1 0 0 0 0).bind (fun ⟨⟨z_51, kd_51, I_51, L_51, R_51⟩, ck_51, cm_51⟩ => (adk ck_51 cm_51 (if i2 = 0 then (if 0 ≤ i1 ∧ i1 < 3 then (some ((((I_51 56 i1) : Int), z_51, kd_51, I_51, L_51, R_51), 0, 0)) else none) else (if 0 ≤ i1 ∧ i1 < 3 then (some ((((I_51 57 i1) : Int), z_51, kd_51, I_51, L_51, R_51), 0, 0)) else none))))) else none)))) else none))))) else none)) else none)))) else none)))) else none)) P_) : Ev (fun n => kf_133 n dp 0 z kd I L R i1 i2) P_ := Ev_step (fun n => ke_133_0 n dp z kd I L R i1 i2) h
set_option maxRecDepth 100000 in
theorem ev_277_0 {dp : Nat} {e : EN} {I : JI} {L : JI} {i1 : Int} {i2 : Int} {i3 : Int} {i4 : Int} {i5 : Int} {P_ : (Int × JI × JI) → Prop} (h : Ev (fun n => (stI (w2 I 105 0 0) (fun I_2 => (if 1 ≤ dp then ((kf_197 n (dp - 1) e 0 I_2 L i1).bind (fun ⟨x0_6, I0_6, L0_6⟩ => (if x0_6 = 0 then (some (((-1) : Int), I0_6, L0_6)) else (if 1 ≤ dp then ((kf_193 n (dp - 1) e 0 I0_6 L0_6 i2 0 1).bind (fun ⟨x1_16, I1_16, L1_16⟩ => (if x1_16 = 0 then (some (((-1) : Int), I1_16, L1_16)) else (if 1 ≤ dp then ((kf_261 n (dp - 1) e 0 I1_16 L1_16 0 0 0 0).bind (fun ⟨x2_23, I2_23, L2_23⟩ => (if x2_23 = 0 then (some (((-1) : Int), I2_23, L2_23)) else (if 1 ≤ dp then ((kf_197 n (dp - 1) e 0 I2_23 L2_23 i1).bind (fun ⟨x3_35, I3_35, L3_35⟩ => (if x3_35 = 0 then (if (0 : Int) ≤ 0 ∧ (0 : Int) < 1570 then (if (I3_35 107 0) = 0 then (some (((-1) : Int), I3_35, L3_35)) else (if i1 ≤ 0 then (if i1 ≤ 1 then (if (-2147483648 ≤ (I3_35 107 0) + 0 ∧ (I3_35 107 0) + 0 ≤ 2147483647) ∧ (-2147483648 ≤ ((I3_35 107 0) + 0) + 0 ∧ ((I3_35 107 0) + 0) + 0 ≤ 2147483647) ∧ (-2147483648 ≤ (((I3_35 107 0) + 0) + 0) - 1 ∧ (((I3_35 107 0) + 0) + 0) - 1 ≤ 2147483647) then (stI ((((I3_35 107 0) + 0) + 0) - 1) (fun v_92 => (kf_277 n dp e 1 I3_35 L3_35 i1 i2 v_92 0 0))) else none) else (if (-2147483648 ≤ (I3_35 107 0) + 0 ∧ (I3_35 107 0) + 0 ≤ 2147483647) ∧ (-2147483648 ≤ ((I3_35 107 0) + 0) + (I3_35 107 2) ∧ ((I3_35 107 0) + 0) + (I3_35 107 2) ≤ 2147483647) ∧ (-2147483648 ≤ (((I3_35 107 0) + 0) + (I3_35 107 2)) - 1 ∧ (((I3_35 107 0) + 0) + (I3_35 107 2)) - 1 ≤ 2147483647) then (stI ((((I3_35 107 0) + 0) + (I3_35 107 2)) - 1) (fun v_92 => (kf_277 n dp e 1 I3_35 L3_35 i1 i2 v_92 0 0))) else none)) else (if i1 ≤ 1 then (if (-2147483648 ≤ (I3_35 107 0) + (I3_35 107 1) ∧ (I3_35 107 0) + (I3_35 107 1) ≤ 2147483647) ∧ (-2147483648 ≤ ((I3_35 107 0) + (I3_35 107 1)) + 0 ∧ ((I3_35 107 0) + (I3_35 107 1)) + 0 ≤ 2147483647) ∧ (-2147483648 ≤ (((I3_35 107 0) + (I3_35 107 1)) + 0) - 1 ∧ (((I3_35 107 0) + (I3_35 107 1)) + 0) - 1 ≤ 2147483647) then (stI ((((I3_35 107 0) + (I3_35 107 1)) + 0) - 1) (fun v_92 => (kf_277 n dp e 1 I3_35 L3_35 i1 i2 v_92 0 0))) else none) else (if (-2147483648 ≤ (I3_35 107 0) + (I3_35 107 1) ∧ (I3_35 107 0) + (I3_35 107 1) ≤ 2147483647) ∧ (-2147483648 ≤ ((I3_35 107 0) + (I3_35 107 1)) + (I3_35 107 2) ∧ ((I3_35 107 0) + (I3_35 107 1)) + (I3_35 107 2) ≤ 2147483647) ∧ (-2147483648 ≤ (((I3_35 107 0) + (I3_35 107 1)) + (I3_35 107 2)) - 1 ∧ (((I3_35 107 0) + (I3_35 107 1)) + (I3_35 107 2)) - 1 ≤ 2147483647) then (stI ((((I3_35 107 0) + (I3_35 107 1)) + (I3_35 107 2)) - 1) (fun v_92 => (kf_277 n dp e 1 I3_35 L3_35 i1 i2 v_92 0 0))) else none)))) else none) else (if -2147483648 ≤ 0 + i1 ∧ 0 + i1 ≤ 2147483647 then (if 0 ≤ (0 + i1) ∧ (0 + i1) < 1570 then (if (I3_35 107 (0 + i1)) = 0 then (some (((-1) : Int), I3_35, L3_35)) else (if i1 ≤ 0 then (if i1 ≤ 1 then (if (-2147483648 ≤ (I3_35 107 0) + 0 ∧ (I3_35 107 0) + 0 ≤ 2147483647) ∧ (-2147483648 ≤ ((I3_35 107 0) + 0) + 0 ∧ ((I3_35 107 0) + 0) + 0 ≤ 2147483647) ∧ (-2147483648 ≤ (((I3_35 107 0) + 0) + 0) - 1 ∧ (((I3_35 107 0) + 0) + 0) - 1 ≤ 2147483647) then (stI ((((I3_35 107 0) + 0) + 0) - 1) (fun v_92 => (kf_277 n dp e 1 I3_35 L3_35 i1 i2 v_92 0 0))) else none) else (if (-2147483648 ≤ (I3_35 107 0) + 0 ∧ (I3_35 107 0) + 0 ≤ 2147483647) ∧ (-2147483648 ≤ ((I3_35 107 0) + 0) + (I3_35 107 2) ∧ ((I3_35 107 0) + 0) + (I3_35 107 2) ≤ 2147483647) ∧ (-2147483648 ≤ (((I3_35 107 0) + 0) + (I3_35 107 2)) - 1 ∧ (((I3_35 107 0) + 0) + (I3_35 107 2)) - 1 ≤ 2147483647) then (stI ((((I3_35 107 0) + 0) + (I3_35 107 2)) - 1) (fun v_92 => (kf_277 n dp e 1 I3_35 L3_35 i1 i2 v_92 0 0))) else none)) else (if i1 ≤ 1 then (if (-2147483648 ≤ (I3_35 107 0) + (I3_35 107 1) ∧ (I3_35 107 0) + (I3_35 107 1) ≤ 2147483647) ∧ (-2147483648 ≤ ((I3_35 107 0) + (I3_35 107 1)) + 0 ∧ ((I3_35 107 0) + (I3_35 107 1)) + 0 ≤ 2147483647) ∧ (-2147483648 ≤ (((I3_35 107 0) + (I3_35 107 1)) + 0) - 1 ∧ (((I3_35 107 0) + (I3_35 107 1)) + 0) - 1 ≤ 2147483647) then (stI ((((I3_35 107 0) + (I3_35 107 1)) + 0) - 1) (fun v_92 => (kf_277 n dp e 1 I3_35 L3_35 i1 i2 v_92 0 0))) else none) else (if (-2147483648 ≤ (I3_35 107 0) + (I3_35 107 1) ∧ (I3_35 107 0) + (I3_35 107 1) ≤ 2147483647) ∧ (-2147483648 ≤ ((I3_35 107 0) + (I3_35 107 1)) + (I3_35 107 2) ∧ ((I3_35 107 0) + (I3_35 107 1)) + (I3_35 107 2) ≤ 2147483647) ∧ (-2147483648 ≤ (((I3_35 107 0) + (I3_35 107 1)) + (I3_35 107 2)) - 1 ∧ (((I3_35 107 0) + (I3_35 107 1)) + (I3_35 107 2)) - 1 ≤ 2147483647) then (stI ((((I3_35 107 0) + (I3_35 107 1)) + (I3_35 107 2)) - 1) (fun v_92 => (kf_277 n dp e 1 I3_35 L3_35 i1 i2 v_92 0 0))) else none)))) else none) else none)))) else none)))) else none)))) else none)))) else none)))) P_) : Ev (fun n => kf_277 n dp e 0 I L i1 i2 i3 i4 i5) P_ := Ev_step (fun n => ke_277_0 n dp e I L i1 i2 i3 i4 i5) h
end
/-! PLANS: change(), of both -/
theorem okK_G {J : JI} {c : Nat} {l : List CT} {ov : Int → Int} {k0 : Int} (hL : LsO (J (58 + 5 * c) 4) (J (58 + 5 * c + 1)) (J (58 + 5 * c + 2)) l) (h64 : l.length ≤ 64) (hov : ∀ p : Int, 0 ≤ p → p < 10 → J 4 (10 + p) = ov p) : eqO (okK J c k0) (ofG ov 16 (fun k => if (k : Int) = k0 then 0 else 1) l) := by
  obtain ⟨e1, e2⟩ := of0_G hL h64 hov
  refine ⟨e1, fun k hk => ?_⟩
  obtain ⟨f1, f2⟩ := e2 k hk
  refine ⟨?_, f2⟩
  have f1 : 16 * ovK J (58 + 5 * c) k = 16 * (1 * sm (fun p => ov p * lvG l k p) 10 - 0) := f1
  show 16 * ovK J (58 + 5 * c) k - (if (k : Int) = k0 then 0 else 1) = 16 * sm (fun p => ov p * lvG l k p) 10 - (if (k : Int) = k0 then 0 else 1)
  omega
section CJ
variable {tr : Nat} {TS : Nat → Prop} {z : Nat} {kd : KD} {R : RF} {J M : JI} {b4 b5 b6 b7 len sl : Nat}
theorem lyX_G {c N g : Nat} {ov : Int → Int} {f : Int → Int} {lc : Int → List CT} (h : LsC J lc) (hv : vlP (J 2 0) (J 2 1) (J 2 2)) (hN : J 2 0 + J 2 1 + J 2 2 = N) (hc : c < 3) (hc0 : 0 < J 2 c) (hg : goI J c = g) (hgN : g < N) (hP : PlN lc (J 2 0) (J 2 1) (J 2 2)) (hov : ∀ p : Int, 0 ≤ p → p < 10 → J 4 (10 + p) = ov p) (hf : ∀ i : Int, 0 ≤ i → i < N → J 55 i = f i) : eqOs (lyX J c) (ofLs lc ov 16 (fun i k => if (k : Int) = f (phX g i) then 0 else 1) (fun i => clA (J 2 0 - oneL c 0) (J 2 1 - oneL c 1) i) 0 (N - 1)) := by
  unfold lyX
  rw [hN, hg, show ((N : Int) - 1).toNat = N - 1 by omega]
  unfold vlP at hv
  have hs : (J 2 0 - oneL c 0) + (J 2 1 - oneL c 1) + (J 2 2 - oneL c 2) = (N : Int) - 1 ∧ 0 ≤ J 2 0 - oneL c 0 ∧ 0 ≤ J 2 1 - oneL c 1 ∧ 0 ≤ J 2 2 - oneL c 2 ∧ J 2 0 - oneL c 0 ≤ J 2 0 ∧ J 2 1 - oneL c 1 ≤ J 2 1 ∧ J 2 2 - oneL c 2 ≤ J 2 2 := by
    unfold oneL
    rcases (show c = 0 ∨ c = 1 ∨ c = 2 by omega) with rfl | rfl | rfl
    · have : 0 < J 2 0 := hc0
      simp only [if_true, if_false, Nat.reduceEqDiff]; omega
    · have : 0 < J 2 1 := hc0
      simp only [if_true, if_false, Nat.reduceEqDiff]; omega
    · have : 0 < J 2 2 := hc0
      simp only [if_true, if_false, Nat.reduceEqDiff]; omega
  generalize J 2 0 - oneL c 0 = a at *
  generalize J 2 1 - oneL c 1 = b at *
  generalize J 2 2 - oneL c 2 = c' at *
  have key : ∀ (j i : Nat), i + j = N - 1 → eqOs (lyL (fun i => okK J (clR b c' i) (J 55 (if (N : Int) - 2 - (i : Int) < g then (N : Int) - 2 - i else (N : Int) - 1 - i))) j) (ofLs lc ov 16 (fun i k => if (k : Int) = f (phX g i) then 0 else 1) (fun i => clA a b i) i j) := by
    intro j
    induction j with
    | zero => intro i _; rw [lyL, ofLs, eqOs]; trivial
    | succ j ih =>
      intro i e
      rw [lyL, ofLs, eqOs]
      refine ⟨?_, ih (i + 1) (by omega)⟩
      have ec : clA a b i = ((clR b c' j : Nat) : Int) := by
        unfold clA clR
        by_cases x : (i : Int) < a
        · rw [if_pos x, if_neg (by omega), if_neg (by omega)]; rfl
        · rw [if_neg x]
          by_cases y : (i : Int) < a + b
          · rw [if_pos y, if_neg (by omega), if_pos (by omega)]; rfl
          · rw [if_neg y, if_pos (by omega)]; rfl
      have h64 : (lc (clA a b i)).length ≤ 64 := by
        unfold clA
        by_cases x : (i : Int) < a
        · rw [if_pos x]; exact hP.1 (by omega)
        · rw [if_neg x]
          by_cases y : (i : Int) < a + b
          · rw [if_pos y]; exact hP.2.1 (by omega)
          · rw [if_neg y]; exact hP.2.2 (by omega)
      have ek : (if (N : Int) - 2 - (j : Int) < g then (N : Int) - 2 - j else (N : Int) - 1 - j) = phX g i := by
        unfold phX
        by_cases q : (i : Int) < g
        · rw [if_pos (by omega), if_pos q]; omega
        · rw [if_neg (by omega), if_neg q]; omega
      have c3 : clR b c' j < 3 := clR_3
      rw [ek, hf _ (by unfold phX; split <;> omega) (by unfold phX; split <;> omega)]
      rw [ec] at h64 ⊢
      exact okK_G (h _ c3) h64 hov
  exact key (N - 1) 0 (by omega)
theorem o_change {dp : Nat} {x y : Int} (hd : 20 ≤ dp) (hE : J 24 12 ≤ 999999) (h : PW tr TS z kd R J b4 b5 b6 b7 len sl) : Ev (fun n => kf_133 n dp 0 z kd J M R x y) (PoQ tr TS b4 b5 b6 b7 len sl z kd J M R (fun n e J M => kf_277 n dp e 0 J M x y 0 0 0)) := by
  refine ev_133_0 ?_
  refine Ev_t (by omega) (Ev14 (fun hx => ?_) (fun hx => ?_))
  case' refine_2 =>
    refine Ev_t rfl (Ev_ret (PoQ_r h ?_))
    refine ev_277_0 ?_
    exact Ev_th h.2.1.1.2.2.2.1 (Ev_t (by omega) (Ev197 (by omega) (fun q => absurd q hx) (fun _ => Ev_t rfl (Ev_ret rfl))))
  dsimp only
  refine Ev_f (by omega) (Ev_t (by omega) (Ev14 (fun hy => ?_) (fun hy => ?_)))
  case' refine_2 =>
    refine Ev_t rfl (Ev_ret (PoQ_r h ?_))
    refine ev_277_0 ?_
    exact Ev_th h.2.1.1.2.2.2.1 (Ev_t (by omega) (Ev197 (by omega) (fun _ => Ev_f (by omega) (Ev_t (by omega) (Ev193f hy (Ev_t rfl (Ev_ret rfl))))) (fun q => absurd hx q)))
  dsimp only
  have m2 := h.2.2.1.2.1
  obtain ⟨c, rfl⟩ : ∃ c : Nat, x = c := ⟨x.toNat, by omega⟩
  have hc : c < 3 := by omega
  /- the reference, as far as the loop -/
  have md : ∀ (z1 : Nat) (kd1 : KD) (J1 M1 : JI) (R1 : RF) (c4 c5 c6 c7 len1 sl1 : Nat) (u : Int), PW tr TS z1 kd1 R1 J1 c4 c5 c6 c7 len1 sl1 → (∀ J2 M2 : JI, FrMp J1 J2 M1 M2 → PW tr TS z1 kd1 R1 J2 c4 c5 c6 c7 len1 sl1 → J2 105 51 = 1 → (J2 105 52 = 0 → u = -1) ∧ (¬ J2 105 52 = 0 → J1 107 c = 0 → u = -1) ∧ (¬ J2 105 52 = 0 → ¬ J1 107 c = 0 → ∀ g : Nat, goI (fun _ => J1 107) c = g → Ev (fun n => kf_277 n dp (z1, kd1, R1) 1 J2 M2 c y g 0 0) (fun r => r.1 = u ∧ PW tr TS z1 kd1 R1 r.2.1 c4 c5 c6 c7 len1 sl1 ∧ FrMp J1 r.2.1 M1 r.2.2))) → Ev (fun n => kf_277 n dp (z1, kd1, R1) 0 J1 M1 c y 0 0 0) (fun r => r.1 = u ∧ PW tr TS z1 kd1 R1 r.2.1 c4 c5 c6 c7 len1 sl1 ∧ FrMp J1 r.2.1 M1 r.2.2) := fun z1 kd1 J1 M1 R1 c4 c5 c6 c7 len1 sl1 u g hu => by
    refine ev_277_0 ?_
    refine Ev_th g.2.1.1.2.2.2.1 (Ev_t (by omega) (Ev197 (by omega) (fun _ => ?_) (fun q => absurd hx q)))
    dsimp only
    refine Ev_f (by omega) (Ev_t (by omega) (Ev193t hy ?_))
    dsimp only
    refine Ev_f (by omega) (Ev_t (by omega) (Ev_bind (M261 (by omega) g) ?_))
    rintro ⟨a, J2, M2⟩ ⟨r1, r2, r3, r4⟩
    dsimp only at r1 r2 r3 r4 ⊢
    subst r4
    obtain ⟨u1, u2, u3⟩ := hu J2 M2 r2 r1 r3
    have e7 : J2 107 = J1 107 := funext fun i => r2.1 _ _ (by omega) (by omega)
    by_cases cc : J2 105 52 = 0
    · exact Ev_t cc (Ev_ret ⟨(u1 cc).symm, r1, r2⟩)
    · have m3 := g.2.2.1.2.2
      have b0 := m3.1 0 (by omega) (by omega)
      have b1 := m3.1 1 (by omega) (by omega)
      have b2 := m3.1 2 (by omega) (by omega)
      refine Ev_f cc (Ev_t (by omega) (Ev197 (by omega) (fun _ => ?_) (fun q => absurd hx q)))
      dsimp only
      simp only [Int.zero_add, e7]
      refine Ev_f (by omega) (Ev_t (by omega) (Ev_t (by omega) ?_))
      by_cases c8 : J1 107 c = 0
      · exact Ev_t c8 (Ev_ret ⟨(u2 cc c8).symm, r1, r2⟩)
      · have u3 := u3 cc c8
        refine Ev_f c8 ?_
        rcases (show c = 0 ∨ c = 1 ∨ c = 2 by omega) with rfl | rfl | rfl
        · have p0 : ¬ J1 107 0 = 0 := c8
          obtain ⟨gg, hgg⟩ : ∃ gg : Nat, J1 107 0 - 1 = gg := ⟨(J1 107 0 - 1).toNat, by omega⟩
          refine Ev_t (by omega) (Ev_t (by omega) (Ev_t (by omega) (Ev_st ?_)))
          rw [Int.add_zero, Int.add_zero, hgg]
          exact u3 gg hgg
        · have p0 : ¬ J1 107 1 = 0 := c8
          obtain ⟨gg, hgg⟩ : ∃ gg : Nat, J1 107 0 + J1 107 1 - 1 = gg := ⟨(J1 107 0 + J1 107 1 - 1).toNat, by omega⟩
          refine Ev_f (by omega) (Ev_t (by omega) (Ev_t (by omega) (Ev_st ?_)))
          rw [Int.add_zero, hgg]
          exact u3 gg hgg
        · have p0 : ¬ J1 107 2 = 0 := c8
          obtain ⟨gg, hgg⟩ : ∃ gg : Nat, J1 107 0 + J1 107 1 + J1 107 2 - 1 = gg := ⟨(J1 107 0 + J1 107 1 + J1 107 2 - 1).toNat, by omega⟩
          refine Ev_f (by omega) (Ev_f (by omega) (Ev_t (by omega) (Ev_st ?_)))
          rw [hgg]
          exact u3 gg hgg
  refine Ev_f (by omega) (Ev_t (by omega) ?_)
  by_cases c0 : J 2 c = 0
  · refine Ev_t c0 (Ev_ret (PoQ_p PotS_r (FrGx_J (fun _ _ _ => rfl)) (by omega) (md _ _ _ _ _ _ _ _ _ _ _ _ h (fun J2 M2 _ _ _ => ⟨fun _ => rfl, fun _ _ => rfl, fun _ q => absurd (by rw [← m2 c (by omega) (by omega)]; exact c0) q⟩))))
  refine Ev_f c0 (Ev_t (by omega) (Ev_bind (R91 (by omega) hE h) ?_))
  rintro ⟨⟨v, z1, kd1, J1, M1, R1⟩, ck, cm⟩ ⟨z', kd', J', M', R', c4, c5, c6, c7, len1, sl1, w1, w2', w3, w4, w5, w6, w7⟩
  dsimp only at w1 w6 w7 ⊢
  obtain ⟨rfl, rfl, rfl, rfl, rfl⟩ : z1 = z' ∧ kd1 = kd' ∧ J1 = J' ∧ M1 = M' ∧ R1 = R' := by simpa using w1
  refine Ev_adk ?_
  rcases w6 with ⟨rfl, w6⟩ | ⟨rfl, w6⟩
  · refine Ev_t rfl (Ev_ret (PoQ_p (by rw [Nat.zero_add, Nat.zero_add]; exact w7) w3 w4.1 (md _ _ _ _ _ _ _ _ _ _ _ _ w2' (fun J2 M2 f2 g2 g3 => ?_))))
    rcases plR_e w2' w5 g2 f2 g3 with ⟨p1, p2⟩ | ⟨p1, p2, p3⟩
    · exact ⟨fun _ => rfl, fun q => absurd p1 q, fun q => absurd p1 q⟩
    · exact absurd p2 w6
  · refine Ev_f (by omega) (Ev_t (by omega) (Ev_bind (R120 (by omega) w2' w5 w6) ?_))
    rintro ⟨⟨z2, kd2, J2, M2, R2⟩, ck2, cm2⟩ ⟨z', kd', J', M', R', d4, d5, d6, d7, len2, sl2, v1, v2, v3, v4, v5, v6, v7⟩
    dsimp only at v1 v7 ⊢
    obtain ⟨rfl, rfl, rfl, rfl, rfl⟩ : z2 = z' ∧ kd2 = kd' ∧ J2 = J' ∧ M2 = M' ∧ R2 = R' := by simpa using v1
    have e2 : ∀ i, J2 2 i = J 2 i := fun i => (v6.2.1 i).trans (w4.2.2 i)
    have hv := PW_v h
    unfold vlP at hv
    have pc : 0 < J2 2 c := by
      rw [e2]
      rcases (show c = 0 ∨ c = 1 ∨ c = 2 by omega) with rfl | rfl | rfl
      · have : ¬ J 2 0 = 0 := c0
        show 0 < J 2 0; omega
      · have : ¬ J 2 1 = 0 := c0
        show 0 < J 2 1; omega
      · have : ¬ J 2 2 = 0 := c0
        show 0 < J 2 2; omega
    refine Ev_adk (Ev_t (by omega) (Ev_bind (R134 (by omega) v2 v4 v5.1 v5.2 hc pc) ?_))
    rintro ⟨⟨z3, kd3, J3, M3, R3⟩, ck3, cm3⟩ ⟨z', kd', J', M', R', f4, f5, f6, f7, len3, sl3, x1, x2, x3, x4, x5, x6, x7, x8⟩
    dsimp only at x1 x8 ⊢
    obtain ⟨rfl, rfl, rfl, rfl, rfl⟩ : z3 = z' ∧ kd3 = kd' ∧ J3 = J' ∧ M3 = M' ∧ R3 = R' := by simpa using x1
    have pf : PotS len sl len3 sl3 (0 + ck3 + ck2 + ck) (0 + cm3 + cm2 + cm) := by
      have := PotS_t w7 (PotS_t v7 x8)
      rw [Nat.zero_add, Nat.zero_add]; exact this
    have fg : FrGx XW b4 b5 b6 b7 z kd J M R f4 f5 f6 f7 z3 kd3 J3 M3 R3 := FrGx_t w3 (FrGx_t (FrGx_m XP_W v3) (FrGx_m XP_W x3))
    have e12 : J3 24 12 ≤ J 24 12 + 1 := by rw [x6.2.2, v6.2.2]; exact w4.1
    have pc3 : 0 < J3 2 c := by rw [x6.2.1]; exact pc
    obtain ⟨q1, q2, q3⟩ := x7 pc3
    have m23 := x2.2.2.1.2.1
    obtain ⟨f1, fi, _⟩ := x2.2.2.2.2.1 x5.2
    have hv3 := PW_v x2
    have hv30 := hv3
    unfold vlP at hv30
    obtain ⟨N, hN⟩ : ∃ N : Nat, J3 2 0 + J3 2 1 + J3 2 2 = N := ⟨(J3 2 0 + J3 2 1 + J3 2 2).toNat, by omega⟩
    have pn := (PlK_N (a := J3 2 0) (b := J3 2 1) (c := J3 2 2) x4).1 f1
    have mdl : ∀ u : Int, u = (if y = 0 then J3 56 c else J3 57 c) → Ev (fun n => kf_277 n dp (z3, kd3, R3) 0 J3 M3 c y 0 0 0) (fun r => r.1 = u ∧ PW tr TS z3 kd3 R3 r.2.1 f4 f5 f6 f7 len3 sl3 ∧ FrMp J3 r.2.1 M3 r.2.2) := fun u hu => by
      refine md _ _ _ _ _ _ _ _ _ _ _ _ x2 (fun J4 M4 f2 g2 g3 => ?_)
      rcases plR_e x2 x4 g2 f2 g3 with ⟨p1, p2⟩ | ⟨p1, p2, p3⟩
      · exact absurd f1 p2
      refine ⟨fun q => by omega, fun _ q => ?_, fun _ _ g hg => ?_⟩
      · rw [← m23 c (by omega) (by omega)] at q
        omega
      · have e7 : J4 107 = J3 107 := funext fun i => f2.1 _ _ (by omega) (by omega)
        have hg3 : goI J3 c = g := by
          unfold goI at *
          rw [m23 0 (by omega) (by omega), m23 1 (by omega) (by omega), m23 2 (by omega) (by omega)]
          exact hg
        have hgN : g < N := by
          unfold goI at hg3
          rcases (show c = 0 ∨ c = 1 ∨ c = 2 by omega) with rfl | rfl | rfl
          · have hg3 : J3 2 0 - 1 = g := hg3
            omega
          · have hg3 : J3 2 0 + J3 2 1 - 1 = g := hg3
            omega
          · have hg3 : J3 2 0 + J3 2 1 + J3 2 2 - 1 = g := hg3
            omega
        have k277 := M277 (M := M4) (dp := dp) (c := c) (N := N) (g := g) (x := y) (by omega) g2 hc (by omega) (by rw [e7, ← m23 c (by omega) (by omega)]; exact pc3) (by rw [e7, ← m23 0 (by omega) (by omega), ← m23 1 (by omega) (by omega), ← m23 2 (by omega) (by omega)]; exact hN) hgN (by rw [e7, ← m23 0 (by omega) (by omega), ← m23 1 (by omega) (by omega), ← m23 2 (by omega) (by omega)]; exact pn)
        rw [e7] at k277
        refine Ev_mono k277 ?_
        rintro ⟨a, J5, M5⟩ ⟨s1, s2, w, n, s3, s4, s5⟩
        dsimp only at s1 s2 s4 ⊢
        refine ⟨?_, s1, FrMp_t f2 s2⟩
        rw [← m23 0 (by omega) (by omega), ← m23 1 (by omega) (by omega)] at s5
        have fe := plR_f x2 x4 p3 f1 fi
        have eo := lyX_G (c := c) (g := g) (f := fun i => J4 134 i) x4 hv3 hN hc pc3 hg3 hgN pn (PW_wn x2).1 (fun i a b => by
          have := fe i.toNat (by omega)
          rw [show ((i.toNat : Nat) : Int) = i by omega] at this
          exact this)
        have s6 := MxH_B s5
        rw [← Sq_e eo, ← vT_c (wn' := wnC J3) (bn' := bnC J3) (fun q a b => (PW_wn x2).2 q a b)] at s6
        have ewe := MxB_u q1 s6
        have etd : Int.tdiv (w + 15) 16 = J3 57 c := by
          rw [Int.tdiv_eq_ediv_of_nonneg (by omega)]
          omega
        rw [s4, hu, etd]
        split <;> omega
    refine Ev_adk ?_
    by_cases cy : y = 0
    · refine Ev_t cy (Ev_t (by omega) (Ev_ret (PoQ_p pf fg e12 (mdl _ (by rw [if_pos cy])))))
    · refine Ev_f cy (Ev_t (by omega) (Ev_ret (PoQ_p pf fg e12 (mdl _ (by rw [if_neg cy])))))
end CJ
