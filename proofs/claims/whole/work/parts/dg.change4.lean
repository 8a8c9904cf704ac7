section
set_option maxRecDepth 100000 in
theorem ev_134_0 {dp : Nat} {z : Nat} {kd : (Nat → Nat × Nat)} {I : JI} {L : JI} {R : (Nat → Nat → Option Nat)} {i1 : Int} {i2 : Int} {i3 : Int} {i4 : Int} {i5 : Int} {P_ : (PSi × Nat × Nat) → Prop} (h : Ev (fun n => (if 0 ≤ i1 ∧ i1 < 3 then (if (I 56 i1) = (-1) then (if 1 ≤ dp then ((kf_16 n (dp - 1) (z, kd, R) 0 I L).bind (fun ⟨x_15, I_15, L_15⟩ => (if i1 = 0 then (if -2147483648 ≤ (I_15 2 0) - 1 ∧ (I_15 2 0) - 1 ≤ 2147483647 then (stI ((I_15 2 0) - 1) (fun v_65 => (if v_65 = 0 then (if 0 ≤ i1 ∧ i1 < 3 then (stI (w2 I_15 56 i1 0) (fun I_83 => (if 0 ≤ i1 ∧ i1 < 3 then (stI (w2 I_83 57 i1 0) (fun I_90 => (if 2 ≤ x_15 then (if 1 ≤ dp then ((kf_95 n (dp - 1) 0 z kd I_90 L_15 R).bind (fun ⟨⟨z_98, kd_98, I_98, L_98, R_98⟩, ck_98, cm_98⟩ => (adk ck_98 cm_98 (if 1 ≤ dp then ((kf_103 n (dp - 1) 0 z_98 kd_98 I_98 L_98 R_98).bind (fun ⟨⟨z_105, kd_105, I_105, L_105, R_105⟩, ck_105, cm_105⟩ => (adk ck_105 cm_105 (if -2147483648 ≤ x_15 - 1 ∧ x_15 - 1 ≤ 2147483647 then (kf_134 n dp 1 z_105 kd_105 I_105 L_105 R_105 i1 x_15 v_65 1 (x_15 - 1)) else none)))) else none)))) else none) else (some ((z, kd, I_90, L_15, R), 0, 0))))) else none))) else none) else (if 0 ≤ i1 ∧ i1 < 3 then (stI (w2 I_15 56 i1 0) (fun I_83 => (if 0 ≤ i1 ∧ i1 < 3 then (stI (w2 I_83 57 i1 0) (fun I_90 => (if 2 ≤ x_15 then (if 1 ≤ dp then ((kf_95 n (dp - 1) 0 z kd I_90 L_15 R).bind (fun ⟨⟨z_98, kd_98, I_98, L_98, R_98⟩, ck_98, cm_98⟩ => (adk ck_98 cm_98 (if 1 ≤ dp then ((kf_103 n (dp - 1) 0 z_98 kd_98 I_98 L_98 R_98).bind (fun ⟨⟨z_105, kd_105, I_105, L_105, R_105⟩, ck_105, cm_105⟩ => (adk ck_105 cm_105 (if -2147483648 ≤ x_15 - 1 ∧ x_15 - 1 ≤ 2147483647 then (kf_134 n dp 1 z_105 kd_105 I_105 L_105 R_105 i1 x_15 v_65 0 (x_15 - 1)) else none)))) else none)))) else none) else (some ((z, kd, I_90, L_15, R), 0, 0))))) else none))) else none)))) else none) else (if i1 = 1 then (if (-2147483648 ≤ (I_15 2 0) + (I_15 2 1) ∧ (I_15 2 0) + (I_15 2 1) ≤ 2147483647) ∧ (-2147483648 ≤ ((I_15 2 0) + (I_15 2 1)) - 1 ∧ ((I_15 2 0) + (I_15 2 1)) - 1 ≤ 2147483647) then (stI (((I_15 2 0) + (I_15 2 1)) - 1) (fun v_65 => (if v_65 = 0 then (if 0 ≤ i1 ∧ i1 < 3 then (stI (w2 I_15 56 i1 0) (fun I_83 => (if 0 ≤ i1 ∧ i1 < 3 then (stI (w2 I_83 57 i1 0) (fun I_90 => (if 2 ≤ x_15 then (if 1 ≤ dp then ((kf_95 n (dp - 1) 0 z kd I_90 L_15 R).bind (fun ⟨⟨z_98, kd_98, I_98, L_98, R_98⟩, ck_98, cm_98⟩ => (adk ck_98 cm_98 (if 1 ≤ dp then ((kf_103 n (dp - 1) 0 z_98 kd_98 I_98 L_98 R_98).bind (fun ⟨⟨z_105, kd_105, I_105, L_105, R_105⟩, ck_105, cm_105⟩ => (adk ck_105 cm_105 (if -2147483648 ≤ x_15 - 1 ∧ x_15 - 1 ≤ 2147483647 then (kf_134 n dp 1 z_105 kd_105 I_105 L_105 R_105 i1 x_15 v_65 1 (x_15 - 1)) else none)))) else none)))) else none) else (some ((z, kd, I_90, L_15, R), 0, 0))))) else none))) else none) else (if 0 ≤ i1 ∧ i1 < 3 then (stI (w2 I_15 56 i1 0) (fun I_83 => (if 0 ≤ i1 ∧ i1 < 3 then (stI (w2 I_83 57 i1 0) (fun I_90 => (if 2 ≤ x_15 then (if 1 ≤ dp then ((kf_95 n (dp - 1) 0 z kd I_90 L_15 R).bind (fun ⟨⟨z_98, kd_98, I_98, L_98, R_98⟩, ck_98, cm_98⟩ => (adk ck_98 cm_98 (if 1 ≤ dp then ((kf_103 n (dp - 1) 0 z_98 kd_98 I_98 L_98 R_98).bind (fun ⟨⟨z_105, kd_105, I_105, L_105, R_105⟩, ck_105, cm_105⟩ => (adk ck_105 cm_105 (if -2147483648 ≤ x_15 - 1 ∧ x_15 - 1 ≤ 2147483647 then (kf_134 n dp 1 z_105 kd_105 I_105 L_105 R_105 i1 x_15 v_65 0 (x_15 - 1)) else none)))) else none)))) else none) else (some ((z, kd, I_90, L_15, R), 0, 0))))) else none))) else none)))) else none) else (if -2147483648 ≤ x_15 - 1 ∧ x_15 - 1 ≤ 2147483647 then (if (x_15 - 1) = 0 then (if 0 ≤ i1 ∧ i1 < 3 then (stI (w2 I_15 56 i1 0) (fun I_83 => (if 0 ≤ i1 ∧ i1 < 3 then (stI (w2 I_83 57 i1 0) (fun I_90 => (if 2 ≤ x_15 then (if 1 ≤ dp then ((kf_95 n (dp - 1) 0 z kd I_90 L_15 R).bind (fun ⟨⟨z_98, kd_98, I_98, L_98, R_98⟩, ck_98, cm_98⟩ => (adk ck_98 cm_98 (if 1 ≤ dp then ((kf_103 n (dp - 1) 0 z_98 kd_98 I_98 L_98 R_98).bind (fun ⟨⟨z_105, kd_105, I_105, L_105, R_105⟩, ck_105, cm_105⟩ => (adk ck_105 cm_105 (kf_134 n dp 1 z_105 kd_105 I_105 L_105 R_105 i1 x_15 (x_15 - 1) 1 (x_15 - 1))))) else none)))) else none) else (some ((z, kd, I_90, L_15, R), 0, 0))))) else none))) else none) else (if 0 ≤ i1 ∧ i1 < 3 then (stI (w2 I_15 56 i1 0) (fun I_83 => (if 0 ≤ i1 ∧ i1 < 3 then (stI (w2 I_83 57 i1 0) (fun I_90 => (if 2 ≤ x_15 then (if 1 ≤ dp then ((kf_95 n (dp - 1) 0 z kd I_90 L_15 R).bind (fun ⟨⟨z_98, kd_98, I_98, L_98, R_98⟩, ck_98, cm_98⟩ => (adk ck_98 cm_98 (if 1 ≤ dp then ((kf_103 n (dp - 1) 0 z_98 kd_98 I_98 L_98 R_98).bind (fun ⟨⟨z_105, kd_105, I_105, L_105, R_105⟩, ck_105, cm_105⟩ => (adk ck_105 cm_105 (kf_134 n dp 1 z_105 kd_105 I_105 L_105 R_105 i1 x_15 (x_15 - 1) 0 (x_15 - 1))))) else none)))) else none) else (some ((z, kd, I_90, L_15, R), 0, 0))))) else none))) else none)) else none))))) else none) else (some ((z, kd, I, L, R), 0, 0))) else none)) P_) : Ev (fun n => kf_134 n dp 0 z kd I L R i1 i2 i3 i4 i5) P_ := Ev_step (fun n => ke_134_0 n dp z kd I L R i1 i2 i3 i4 i5) h
end
/-! PLANS: findChange, all of it -/
section CG
variable {tr : Nat} {TS : Nat → Prop} {z : Nat} {kd : KD} {R : RF} {J M : JI} {b4 b5 b6 b7 len sl : Nat}
theorem R134 {dp : Nat} {c : Nat} (hd : 8 ≤ dp) (h : PW tr TS z kd R J b4 b5 b6 b7 len sl) (hL : LsC J (cuS (J 107))) (h53 : J 53 (spt (J 2 0) (J 2 1) (J 2 2)) = J 24 12) (h15 : J 24 15 = 0) (hc : c < 3) (hc0 : 0 < J 2 c) : Ev (fun n => kf_134 n dp 0 z kd J M R c 0 0 0 0) (FdQ tr TS b4 b5 b6 b7 len sl z kd J M R c) := by
  have hv := PW_v h
  have hv0 := hv
  unfold vlP at hv0
  obtain ⟨f1, f2, f3⟩ := h.2.2.2.2.1 h15
  obtain ⟨N, hN⟩ : ∃ N : Nat, J 2 0 + J 2 1 + J 2 2 = N := ⟨(J 2 0 + J 2 1 + J 2 2).toNat, by omega⟩
  have o7 := h.2.2.2.1.1.2.2.2.1
  refine ev_134_0 ?_
  refine Ev_t (by omega) ?_
  by_cases c1 : J 56 c = -1
  case' neg =>
    refine Ev_f c1 (Ev_ret ⟨z, kd, J, M, R, b4, b5, b6, b7, len, sl, rfl, h, FrGx_J (fun _ _ _ => rfl), hL, ⟨h53, h15⟩, ⟨rfl, fun _ => rfl, rfl⟩, (f3 c hc).elim (fun q => absurd q c1) id, PotS_r⟩)
  refine Ev_t c1 (Ev_t (by omega) (Ev_bind (K16 (by omega)) ?_))
  rintro _ rfl
  dsimp only
  rw [hN]
  have n5 : ∀ a i, ¬ ((a = 56 ∨ a = 57) ∧ i = (c : Int)) → w2 (w2 J 56 c 0) 57 c 0 a i = J a i := fun a i x => by rw [w2_n (by omega), w2_n (by omega)]
  /- one carcass alone -/
  have alone : N < 2 → FdQ tr TS b4 b5 b6 b7 len sl z kd J M R c ((z, kd, w2 (w2 J 56 c 0) 57 c 0, M, R), 0, 0) := fun hN2 => by
    have v56 : w2 (w2 J 56 c 0) 57 c 0 56 c = 0 := by rw [w2_n (by omega), w2_ap, if_pos ⟨rfl, rfl⟩]
    have v57 : w2 (w2 J 56 c 0) 57 c 0 57 c = 0 := by rw [w2_ap, if_pos ⟨rfl, rfl⟩]
    generalize w2 (w2 J 56 c 0) 57 c 0 = J3 at n5 v56 v57 ⊢
    have e4 : J3 4 = J 4 := funext fun i => n5 _ _ (by omega)
    have e2 : J3 2 = J 2 := funext fun i => n5 _ _ (by omega)
    have e7 : J3 107 = J 107 := funext fun i => n5 _ _ (by omega)
    have e58 : ∀ x i, 58 ≤ x → x ≤ 72 → J3 x i = J x i := fun x i y w => n5 _ _ (by omega)
    have ch3 : ChO J3 c := fun _ => by
      rw [v56, v57]
      refine ⟨?_, by omega, by omega, by omega⟩
      have : lyX J3 c = [] := by unfold lyX; rw [e2, hN, show ((N : Int) - 1).toNat = 0 by omega]; rfl
      rw [this]
      exact MxB_0
    have hF3 : FiK J3 := fun _ => by
      refine ⟨?_, FiI_c e4 e2 e58 (fun i => n5 _ _ (by omega)) f2, fun c' hc' => ?_⟩
      · unfold PlK at *
        rw [e2, e58 58 _ (by omega) (by omega), e58 63 _ (by omega) (by omega), e58 68 _ (by omega) (by omega)]; exact f1
      · by_cases e : c' = c
        · subst e; exact Or.inr ch3
        · rcases f3 c' hc' with q | q
          · exact Or.inl (by rw [n5 _ _ (by omega)]; exact q)
          · exact Or.inr (ChO_c e4 e2 e58 (fun i _ => n5 _ _ (by omega)) (n5 _ _ (by omega)) (n5 _ _ (by omega)) q)
    obtain ⟨i1, i2, i3, i4, i5, i6⟩ := h.2.2.2.1
    have hI3 : PlI z kd R J3 b4 b5 b6 b7 len sl := by
      refine ⟨i1, fun p x y => by rw [n5 _ _ (by omega)]; exact i2 p x y, by rw [n5 _ _ (by omega)]; exact i3, fun q => ?_, fun s x y => by rw [n5 _ _ (by omega), n5 _ _ (by omega)]; exact i5 s x y, fun a b c' hv e => ?_⟩
      · obtain ⟨rn, od, k1, k2⟩ := i4 (by rw [← n5 24 14 (by omega)]; exact q)
        exact ⟨rn, od, LdO_c (fun a i x => n5 _ _ (by omega)) k1, LyK_c (fun i => n5 _ _ (by omega)) (n5 _ _ (by omega)) (fun a i x => n5 _ _ (by omega)) k2⟩
      · rw [n5 _ _ (by omega), n5 _ _ (by omega)] at e
        exact BsO_c (fun i => by rw [e4]) e58 (n5 _ _ (by omega)) (n5 _ _ (by omega)) (i6 a b c' hv e)
    have fg : FrGx XP b4 b5 b6 b7 z kd J M R b4 b5 b6 b7 z kd J3 M R := FrGx_J (fun a i x => n5 a i (fun y => x (by unfold XP; omega)))
    refine ⟨z, kd, J3, M, R, b4, b5, b6, b7, len, sl, rfl, PW_x h fg hI3 hF3, fg, fun c' hc' => ?_, ⟨?_, by rw [n5 _ _ (by omega)]; exact h15⟩, ⟨e7, fun i => by rw [e2], n5 _ _ (by omega)⟩, ch3, PotS_r⟩
    · rw [e7, e58 _ _ (by omega) (by omega)]
      exact LsO_c (fun i _ _ => ⟨e58 _ _ (by omega) (by omega), e58 _ _ (by omega) (by omega)⟩) (hL c' hc')
    · rw [e2, n5 53 _ (by omega), n5 24 12 (by omega)]; exact h53
  rcases (show c = 0 ∨ c = 1 ∨ c = 2 by omega) with rfl | rfl | rfl
  · have p0 : 0 < J 2 0 := hc0
    obtain ⟨g, hg⟩ : ∃ g : Nat, J 2 0 - 1 = g := ⟨(J 2 0 - 1).toNat, by omega⟩
    have hgo : goI J 0 = g := hg
    refine Ev_t rfl (Ev_t (by omega) (Ev_st ?_))
    rw [hg]
    by_cases cg : (g : Int) = 0
    · refine Ev_t cg (Ev_t (by omega) (Ev_st (Ev_t (by omega) (Ev_st ?_))))
      by_cases c2 : 2 ≤ (N : Int)
      · refine Ev_t c2 (Ev_t (by omega) ?_)
        exact R134a (dp := dp) (g := g) (fr := 1) (N := N) (by omega) h hL h53 h15 hc hc0 hN (by omega) hgo (by omega) (by rw [if_pos (by omega)]) n5 _ (fun q hq => hq) (fun n s => if 1 ≤ dp then (kf_103 n (dp - 1) 0 s.1 s.2.1 s.2.2.1 s.2.2.2.1 s.2.2.2.2).bind (fun ⟨⟨z_105, kd_105, I_105, L_105, R_105⟩, ck_105, cm_105⟩ => (adk ck_105 cm_105 (if -2147483648 ≤ (N : Int) - 1 ∧ (N : Int) - 1 ≤ 2147483647 then (kf_134 n dp 1 z_105 kd_105 I_105 L_105 R_105 ((0 : Nat) : Int) N g ((1 : Nat) : Int) ((N : Int) - 1)) else none))) else none) (fun n s => by rw [if_pos (by omega)]; simp only [show ((-2147483648 : Int) ≤ (N : Int) - 1 ∧ (N : Int) - 1 ≤ 2147483647) from by omega, and_self, if_true])
      · exact Ev_f c2 (Ev_ret (alone (by omega)))
    · refine Ev_f cg (Ev_t (by omega) (Ev_st (Ev_t (by omega) (Ev_st ?_))))
      by_cases c2 : 2 ≤ (N : Int)
      · refine Ev_t c2 (Ev_t (by omega) ?_)
        exact R134a (dp := dp) (g := g) (fr := 0) (N := N) (by omega) h hL h53 h15 hc hc0 hN (by omega) hgo (by omega) (by rw [if_neg (by omega)]) n5 _ (fun q hq => hq) (fun n s => if 1 ≤ dp then (kf_103 n (dp - 1) 0 s.1 s.2.1 s.2.2.1 s.2.2.2.1 s.2.2.2.2).bind (fun ⟨⟨z_105, kd_105, I_105, L_105, R_105⟩, ck_105, cm_105⟩ => (adk ck_105 cm_105 (if -2147483648 ≤ (N : Int) - 1 ∧ (N : Int) - 1 ≤ 2147483647 then (kf_134 n dp 1 z_105 kd_105 I_105 L_105 R_105 ((0 : Nat) : Int) N g ((0 : Nat) : Int) ((N : Int) - 1)) else none))) else none) (fun n s => by rw [if_pos (by omega)]; simp only [show ((-2147483648 : Int) ≤ (N : Int) - 1 ∧ (N : Int) - 1 ≤ 2147483647) from by omega, and_self, if_true])
      · exact Ev_f c2 (Ev_ret (alone (by omega)))
  · have p0 : 0 < J 2 1 := hc0
    obtain ⟨g, hg⟩ : ∃ g : Nat, J 2 0 + J 2 1 - 1 = g := ⟨(J 2 0 + J 2 1 - 1).toNat, by omega⟩
    have hgo : goI J 1 = g := hg
    refine Ev_f (by omega) (Ev_t rfl (Ev_t (by omega) (Ev_st ?_)))
    rw [hg]
    by_cases cg : (g : Int) = 0
    · refine Ev_t cg (Ev_t (by omega) (Ev_st (Ev_t (by omega) (Ev_st ?_))))
      by_cases c2 : 2 ≤ (N : Int)
      · refine Ev_t c2 (Ev_t (by omega) ?_)
        exact R134a (dp := dp) (g := g) (fr := 1) (N := N) (by omega) h hL h53 h15 hc hc0 hN (by omega) hgo (by omega) (by rw [if_pos (by omega)]) n5 _ (fun q hq => hq) (fun n s => if 1 ≤ dp then (kf_103 n (dp - 1) 0 s.1 s.2.1 s.2.2.1 s.2.2.2.1 s.2.2.2.2).bind (fun ⟨⟨z_105, kd_105, I_105, L_105, R_105⟩, ck_105, cm_105⟩ => (adk ck_105 cm_105 (if -2147483648 ≤ (N : Int) - 1 ∧ (N : Int) - 1 ≤ 2147483647 then (kf_134 n dp 1 z_105 kd_105 I_105 L_105 R_105 ((1 : Nat) : Int) N g ((1 : Nat) : Int) ((N : Int) - 1)) else none))) else none) (fun n s => by rw [if_pos (by omega)]; simp only [show ((-2147483648 : Int) ≤ (N : Int) - 1 ∧ (N : Int) - 1 ≤ 2147483647) from by omega, and_self, if_true])
      · exact Ev_f c2 (Ev_ret (alone (by omega)))
    · refine Ev_f cg (Ev_t (by omega) (Ev_st (Ev_t (by omega) (Ev_st ?_))))
      by_cases c2 : 2 ≤ (N : Int)
      · refine Ev_t c2 (Ev_t (by omega) ?_)
        exact R134a (dp := dp) (g := g) (fr := 0) (N := N) (by omega) h hL h53 h15 hc hc0 hN (by omega) hgo (by omega) (by rw [if_neg (by omega)]) n5 _ (fun q hq => hq) (fun n s => if 1 ≤ dp then (kf_103 n (dp - 1) 0 s.1 s.2.1 s.2.2.1 s.2.2.2.1 s.2.2.2.2).bind (fun ⟨⟨z_105, kd_105, I_105, L_105, R_105⟩, ck_105, cm_105⟩ => (adk ck_105 cm_105 (if -2147483648 ≤ (N : Int) - 1 ∧ (N : Int) - 1 ≤ 2147483647 then (kf_134 n dp 1 z_105 kd_105 I_105 L_105 R_105 ((1 : Nat) : Int) N g ((0 : Nat) : Int) ((N : Int) - 1)) else none))) else none) (fun n s => by rw [if_pos (by omega)]; simp only [show ((-2147483648 : Int) ≤ (N : Int) - 1 ∧ (N : Int) - 1 ≤ 2147483647) from by omega, and_self, if_true])
      · exact Ev_f c2 (Ev_ret (alone (by omega)))
  · have p0 : 0 < J 2 2 := hc0
    obtain ⟨g, hg⟩ : ∃ g : Nat, (N : Int) - 1 = g := ⟨N - 1, by omega⟩
    have hgo : goI J 2 = g := by rw [← hg, ← hN]; rfl
    refine Ev_f (by omega) (Ev_f (by omega) (Ev_t (by omega) ?_))
    rw [hg]
    by_cases cg : (g : Int) = 0
    · refine Ev_t cg (Ev_t (by omega) (Ev_st (Ev_t (by omega) (Ev_st ?_))))
      by_cases c2 : 2 ≤ (N : Int)
      · refine Ev_t c2 (Ev_t (by omega) ?_)
        exact R134a (dp := dp) (g := g) (fr := 1) (N := N) (by omega) h hL h53 h15 hc hc0 hN (by omega) hgo (by omega) (by rw [if_pos (by omega)]) n5 _ (fun q hq => hq) (fun n s => if 1 ≤ dp then (kf_103 n (dp - 1) 0 s.1 s.2.1 s.2.2.1 s.2.2.2.1 s.2.2.2.2).bind (fun ⟨⟨z_105, kd_105, I_105, L_105, R_105⟩, ck_105, cm_105⟩ => (adk ck_105 cm_105 (kf_134 n dp 1 z_105 kd_105 I_105 L_105 R_105 ((2 : Nat) : Int) N g ((1 : Nat) : Int) g))) else none) (fun n s => by rw [if_pos (by omega), hg])
      · exact Ev_f c2 (Ev_ret (alone (by omega)))
    · refine Ev_f cg (Ev_t (by omega) (Ev_st (Ev_t (by omega) (Ev_st ?_))))
      by_cases c2 : 2 ≤ (N : Int)
      · refine Ev_t c2 (Ev_t (by omega) ?_)
        exact R134a (dp := dp) (g := g) (fr := 0) (N := N) (by omega) h hL h53 h15 hc hc0 hN (by omega) hgo (by omega) (by rw [if_neg (by omega)]) n5 _ (fun q hq => hq) (fun n s => if 1 ≤ dp then (kf_103 n (dp - 1) 0 s.1 s.2.1 s.2.2.1 s.2.2.2.1 s.2.2.2.2).bind (fun ⟨⟨z_105, kd_105, I_105, L_105, R_105⟩, ck_105, cm_105⟩ => (adk ck_105 cm_105 (kf_134 n dp 1 z_105 kd_105 I_105 L_105 R_105 ((2 : Nat) : Int) N g ((0 : Nat) : Int) g))) else none) (fun n s => by rw [if_pos (by omega), hg])
      · exact Ev_f c2 (Ev_ret (alone (by omega)))
end CG
